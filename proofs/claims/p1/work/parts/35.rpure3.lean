theorem free_fr0 {f : Nat → Int32} {a ol nw : Nat} (z : Nat → Int32) (ha : a ≤ 120) (h8 : 12 ≤ a) : fd (fun p => (rall f a ol (nw + 1 - ol) z).1 p = 0 ∧ 0 < p) (a - 8) 8 = fr f a ol nw 8 := free_fr (n := 0) z ha h8 (by omega)
theorem free_frn {f : Nat → Int32} {a ol nw n : Nat} (z : Nat → Int32) (ha : a ≤ 120) (h8 : 12 ≤ a) (h : 8 ≤ n) (hn : n < a) : fd (fun p => (rall f a ol (nw + 1 - ol) z).1 p = 0 ∧ n < p) (a - 8) 8 = fr f a ol nw (n + 1) := by
  rw [free_fr z ha h8 hn, show max 8 (n + 1) = n + 1 by omega]
theorem us24_by (x : Int32) : pg_us x 24 &&& 255 = pg_us x 24 := by
  rw [← sh24]
  refine b_ext fun i _ => ?_
  rw [b_and, b_and]
  cases bt (x >>> ((24 : Int32) &&& 31)) i <;> cases bt 255 i <;> rfl
theorem and_and255 (x : Int32) : (x &&& 255) &&& 255 = x &&& 255 := by
  refine b_ext fun i _ => ?_
  rw [b_and, b_and]
  cases bt x i <;> cases bt 255 i <;> rfl
theorem byt_upd {f : Nat → Int32} {a k : Nat} {x : Int32} (h : byt f a) (hx : x &&& 255 = x) : byt (upd f k x) a := fun j hj => by
  unfold upd
  by_cases e : j = k
  · rw [if_pos e]; exact hx
  · rw [if_neg e]; exact h j hj
theorem byt_setn {f : Nat → Int32} {a k : Nat} {x : Int32} (h : byt f a) : byt (pg_setn f k x) a := byt_upd (byt_upd (byt_upd (byt_upd h (us24_by x)) (and_and255 _)) (and_and255 _)) (and_and255 _)
theorem byt_seal {f : Nat → Int32} {a q : Nat} (h : byt f a) : byt (pg_seal f q) a := byt_setn h
theorem byt_begin {f : Nat → Int32} {a q : Nat} {k : Int32} (h : byt f a) (hk : k &&& 255 = k) : byt (pg_begin f q k) a := by
  refine byt_upd (fun j hj => ?_) hk
  unfold pg_fill
  by_cases e : q * 48 ≤ j ∧ j < q * 48 + 48
  · rw [if_pos e]; decide
  · rw [if_neg e]; exact h j hj
theorem byt_cpy {f : Nat → Int32} {a q r : Nat} (h : byt f a) (hq : q < a) : byt (va_cpy f f (q * 48) (r * 48) 48) a := fun j hj => by
  unfold va_cpy
  by_cases e : r * 48 ≤ j ∧ j < r * 48 + 48
  · rw [if_pos e]; exact h _ (by omega)
  · rw [if_neg e]; exact h j hj
theorem byt_wts {f t : Nat → Int32} {a q : Nat} (h : byt f a) : ∀ n, (∀ i, i < n → t i &&& 255 = t i) → byt (wt_set f q t n) a
  | 0, _ => h
  | n + 1, ht => byt_upd (byt_wts h n (fun i hi => ht i (by omega))) (ht n (by omega))
theorem byt_wt {f t : Nat → Int32} {a q k tc : Nat} (h : byt f a) (hk : k < 1024) (htc : tc ≤ 32) (ht : ∀ i, i < tc → t i &&& 255 = t i) : byt (wt f q k t tc) a := by
  unfold wt
  exact byt_seal (byt_wts (byt_upd (byt_upd (byt_upd (byt_begin h (by decide)) (and255 (by omega))) (and255 (by omega))) (and255 (by omega))) tc ht)
theorem had_told {f : Nat → Int32} {a ol nw n : Nat} (h8 : 12 ≤ a) (hn : n < 32) (hon : nw = 0 ∨ ol ≤ nw) (hh : nw = 0 ∨ pg_right f a (nw % 8) 1) (h : ¬ had f nw n = 0) : nodeS f a ol (nw + 1 - ol) (nv (had f nw n)) := by
  unfold had at h ⊢
  by_cases e : nw = 0
  · rw [if_pos e] at h; exact absurd rfl h
  · rw [if_neg e] at h ⊢
    have e1 := hon.resolve_left e
    refine ⟨nw % 8, by omega, ⟨nw - ol, by omega, by rw [show ol + (nw - ol) = nw by omega]⟩, hh.resolve_left e, n, hn, ?_, ?_⟩
    · rw [Nat.add_assoc]; exact h
    · rw [Nat.add_assoc]
theorem had_free {f : Nat → Int32} {a ol nw n q : Nat} (h8 : 12 ≤ a) (hn : n < 32) (hon : nw = 0 ∨ ol ≤ nw) (hh : nw = 0 ∨ pg_right f a (nw % 8) 1) (hq : wk_marks f a ol (nw + 1 - ol) q = 0) (h : ¬ had f nw n = 0) : nv (had f nw n) ≠ q := fun e => by
  have g := had_told (ol := ol) h8 hn hon hh h
  rw [e] at g
  exact (wk_zero f a ol (nw + 1 - ol) q).mp hq (Or.inr (Or.inl g))
theorem had_wt {f t : Nat → Int32} {q k tc nw n : Nat} (htc : tc ≤ 32) (hq : 8 ≤ q) (hn : n < 32) : had (wt f q k t tc) nw n = had f nw n := by
  unfold had
  by_cases e : nw = 0
  · rw [if_pos e, if_pos e]
  · rw [if_neg e, if_neg e, wt_o htc (by omega) (by omega)]
/-- where nothing is bad -/
theorem nb_node {f : Nat → Int32} {a ol nw p : Nat} (hb : bad_at f a ol nw = -1) (ha : a ≤ 120) (hp : p < a) (h : nodeS f a ol (nw + 1 - ol) p) : pg_right f a p 2 := by
  have g := (fd_none (by omega)).mp hb p (Nat.zero_le _) (by omega)
  exact Classical.byContradiction fun e => g ((wk_bad f a ol (nw + 1 - ol) p).mpr ⟨hp, Or.inr (Or.inl ⟨h, e⟩)⟩)
theorem nb_thing {f : Nat → Int32} {a ol nw p : Nat} (hb : bad_at f a ol nw = -1) (ha : a ≤ 120) (hp : p < a) (h : thingS f a ol (nw + 1 - ol) p) : pg_right f a p 3 := by
  have g := (fd_none (by omega)).mp hb p (Nat.zero_le _) (by omega)
  exact Classical.byContradiction fun e => g ((wk_bad f a ol (nw + 1 - ol) p).mpr ⟨hp, Or.inr (Or.inr ⟨h, e⟩)⟩)
theorem rem_0 {f : Nat → Int32} {a ol nw k : Nat} (ha : a ≤ 120) (h8 : 12 ≤ a) (hk : k < 1024) (hb : bad_at f a ol nw = -1) (e : ¬ nw = 0) (hl : ol ≤ nw) (h : had f nw (k / 32) = 0) : ptg f a nw k = -1 := by
  have hr := wk_root ha h8 hb hl (Nat.le_refl nw)
  unfold had at h
  rw [if_neg e] at h
  unfold ptg
  rw [ifp_t hr, ifp_t h]
theorem rem_1 {f : Nat → Int32} {a ol nw k : Nat} (ha : a ≤ 120) (h8 : 12 ≤ a) (hk : k < 1024) (hb : bad_at f a ol nw = -1) (e : ¬ nw = 0) (hl : ol ≤ nw) (h : ¬ had f nw (k / 32) = 0) (h2 : f (nv (had f nw (k / 32)) * 48 + (2 + k % 32)) = 0) : ptg f a nw k = -1 := by
  have hr := wk_root ha h8 hb hl (Nat.le_refl nw)
  have hn := nb_node hb ha (had_nv ha (by omega) (by omega) (Or.inr hr) h).2.1 (had_told h8 (by omega) (Or.inr hl) (Or.inr hr) h)
  unfold had at h h2 hn
  rw [if_neg e] at h h2 hn
  unfold ptg
  rw [ifp_t hr, ifp_f h, ifp_t hn, ifp_t h2]
theorem rem_2 {f : Nat → Int32} {a ol nw k : Nat} (ha : a ≤ 120) (h8 : 12 ≤ a) (hk : k < 1024) (hb : bad_at f a ol nw = -1) (e : ¬ nw = 0) (hl : ol ≤ nw) (h : ¬ had f nw (k / 32) = 0) (h2 : ¬ f (nv (had f nw (k / 32)) * 48 + (2 + k % 32)) = 0) : ¬ ptg f a nw k = -1 := by
  have hr := wk_root ha h8 hb hl (Nat.le_refl nw)
  have hlt := (had_nv ha (by omega) (by omega) (Or.inr hr) h).2.1
  have ht := had_told h8 (by omega) (Or.inr hl) (Or.inr hr) h
  have hn := nb_node hb ha hlt ht
  have g := nd_nv (i := k % 32) hn ha (by omega) (by omega)
  have ht3 := nb_thing hb ha g.2.1 ⟨_, hlt, ht, hn, k % 32, by omega, by rw [Nat.add_assoc]; exact h2, by rw [Nat.add_assoc]⟩
  unfold had at h h2 hn g ht3
  rw [if_neg e] at h h2 hn g ht3
  unfold ptg
  rw [ifp_t hr, ifp_f h, ifp_t hn, ifp_f h2, ifp_t ht3, g.1]
  exact nI_nm1 (by have := g.2.1; omega)
/-- put(), remove(), drop() of the reference -/
noncomputable def sp_puR (f : Nat → Int32) (O : Prop) (lf us : Int32) (t : Nat → Int32) (a tc nw ol : Nat) (x : Int32) : SR :=
  ifp (rwr O (ky x) f a ol nw = 0)
    (ifp (fr2 f a ol nw = -1 ∨ nw = 1000000) (-6, f, O, lf, us, tc, nw, ol)
      (ifp (dn_O O lf) (-3, wt f (nv (fr f a ol nw 8)) (nv x) t tc, dn_O O lf, dn_lf lf, us + 1, dn_tc lf 0, nw, ol)
        (sp_ch (wt f (nv (fr f a ol nw 8)) (nv x) t tc) (dn_O O lf) (dn_lf lf) (us + 1) (dn_tc lf 0) nw ol (nv x) (nv (fr2 f a ol nw)) (nI (nv (fr f a ol nw 8))))))
    (rwr O (ky x) f a ol nw, f, O, lf, us, tc, nw, ol)
noncomputable def sp_reR (f : Nat → Int32) (O : Prop) (lf us : Int32) (a tc nw ol : Nat) (x : Int32) : SR :=
  ifp (rwr O (ky x) f a ol nw = 0)
    (ifp (nw = 0 ∨ ptg f a nw (nv x) = -1) (0, f, O, lf, us, tc, nw, ol)
      (ifp (fr f a ol nw 8 = -1 ∨ nw = 1000000) (-6, f, O, lf, us, tc, nw, ol) (sp_ch f O lf us tc nw ol (nv x) (nv (fr f a ol nw 8)) 0)))
    (rwr O (ky x) f a ol nw, f, O, lf, us, tc, nw, ol)
noncomputable def sp_drR (f : Nat → Int32) (O : Prop) (lf us : Int32) (a tc nw ol : Nat) (x : Int32) : SR :=
  ifp (rwr O (kd ol nw x) f a ol nw = 0)
    (ifp (dn_O O lf) (-3, wd f nw (nv x), dn_O O lf, dn_lf lf, us + 1, dn_tc lf tc, nw, ol) (nI nw - x, wd f nw (nv x), dn_O O lf, dn_lf lf, us + 1, dn_tc lf tc, nw, nv x + 1))
    (rwr O (kd ol nw x) f a ol nw, f, O, lf, us, tc, nw, ol)
noncomputable def rz_z (O B : Prop) (f : Nat → Int32) (a ol nw : Nat) (z : Nat → Int32) : Nat → Int32 := ifp (¬ O ∧ B) (rall f a ol (nw + 1 - ol) z).1 z
noncomputable def rz_b (O B : Prop) (f : Nat → Int32) (a ol nw : Nat) (z : Nat → Int32) (bd : Int32) : Int32 := ifp (¬ O ∧ B) (rall f a ol (nw + 1 - ol) z).2 bd
theorem rwr_5 {O B : Prop} {f : Nat → Int32} {a ol nw : Nat} (h : O) : rwr O B f a ol nw = -5 := ifp_t h
theorem rwr_2 {O B : Prop} {f : Nat → Int32} {a ol nw : Nat} (h : ¬ O) (h2 : ¬ B) : rwr O B f a ol nw = -2 := by unfold rwr; rw [ifp_f h, ifp_f h2]
theorem rwr_4 {O B : Prop} {f : Nat → Int32} {a ol nw : Nat} (h : ¬ O) (h2 : B) (h3 : ¬ bad_at f a ol nw = -1) : rwr O B f a ol nw = -4 := by unfold rwr; rw [ifp_f h, ifp_t h2]; exact ifp_f h3
theorem rwr_00 {O B : Prop} {f : Nat → Int32} {a ol nw : Nat} (h : ¬ O) (h2 : B) (h3 : bad_at f a ol nw = -1) : rwr O B f a ol nw = 0 := by unfold rwr; rw [ifp_f h, ifp_t h2]; exact ifp_t h3
theorem dr_val {nw v : Nat} (h : v < nw) : nI nw - nI (v + 1) + 1 = nI nw - nI v := by
  rw [pk_sub (by omega), pk_sub (by omega), nI_1, show nw - (v + 1) + 1 = nw - v by omega]
