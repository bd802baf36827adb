/-! what the calls answer and do -/
def had (f : Nat → Int32) (nw n : Nat) : Int32 := if nw = 0 then 0 else f (nw % 8 * 48 + (9 + n))
noncomputable def wn (f : Nat → Int32) (q k : Nat) (x : Int32) (nw : Nat) : Nat → Int32 := pg_seal (upd (upd (ifp (had f nw (k / 32) = 0) (pg_begin f q 2) (va_cpy f f (nv (had f nw (k / 32)) * 48) (q * 48) 48)) (q * 48 + 1) (nI (k / 32))) (q * 48 + (2 + k % 32)) x) q
abbrev SV : Type := Int32 × (Nat → Int32) × Prop × Int32 × Int32 × Nat × Nat
noncomputable def sp_wv (f : Nat → Int32) (O : Prop) (lf us : Int32) (nw ol q k : Nat) (x : Int32) : SV :=
  ifp (pw_off O lf) (-3, wn f q k x nw, pw_off O lf, pw_left lf, us + 1, nw, ol)
    (ifp (pw_off (pw_off O lf) (pw_left lf)) (-3, wr (wn f q k x nw) (nw + 1) (max ol (nw + 1 - 7)) (k / 32) (nI q) nw, pw_off (pw_off O lf) (pw_left lf), pw_left (pw_left lf), us + 1 + 1, nw, ol)
      (nI (nw + 1), wr (wn f q k x nw) (nw + 1) (max ol (nw + 1 - 7)) (k / 32) (nI q) nw, pw_off (pw_off O lf) (pw_left lf), pw_left (pw_left lf), us + 1 + 1, nw + 1, max ol (nw + 1 - 7)))
noncomputable def sp_type (O : Prop) (x : Int32) (tc : Nat) (t : Nat → Int32) : Int32 × (Nat → Int32) × Nat :=
  ifp O (-5, t, tc) (ifp (x < 0 ∨ 255 < x) (-2, t, tc) (ifp (32 ≤ tc) (-6, t, tc) (nI (tc + 1), upd t tc x, tc + 1)))
noncomputable def sp_crash (O : Prop) (lf x : Int32) : Int32 × Prop × Int32 :=
  ifp O (-5, O, lf) (ifp (x < -1 ∨ 1000 < x) (-2, O, lf) (1, x = 0, x))
noncomputable def sp_len (f : Nat → Int32) (y : Int32) : Int32 := ifp (y < 0) y (f (nv y * 48 + 3))
noncomputable def sp_find (f : Nat → Int32) (y z : Int32) : Int32 := ifp (y < 0) y (ifp (z < 0 ∨ ¬ z < f (nv y * 48 + 3)) (-1) (f (nv y * 48 + (4 + nv z))))
noncomputable def nth (f : Nat → Int32) (a q j : Nat) : Int32 := ifp (q = 0) (-1) (ifp (pg_right f a q 2) (fd (fun i => ¬ f (q * 48 + (2 + i)) = 0) (32 - j) j) (-4))
noncomputable def nxt (f : Nat → Int32) (a r : Nat) : Nat → Nat → Nat → Int32
  | 0, _, _ => -1
  | n + 1, i, j => ifp (nth f a (nv (f (r * 48 + (9 + i)))) j = -1) (nxt f a r n (i + 1) 0) (ifp (nth f a (nv (f (r * 48 + (9 + i)))) j = -4) (-4) (nI (i * 32) + nth f a (nv (f (r * 48 + (9 + i)))) j))
theorem nxt_1 {f : Nat → Int32} {a r i j : Nat} (hi : i < 32) (h : nth f a (nv (f (r * 48 + (9 + i)))) j = -1) : nxt f a r (32 - i) i j = nxt f a r (32 - (i + 1)) (i + 1) 0 := by
  rw [show 32 - i = (32 - (i + 1)) + 1 by omega, nxt, ifp_t h]
theorem nxt_4 {f : Nat → Int32} {a r i j : Nat} (hi : i < 32) (h : ¬ nth f a (nv (f (r * 48 + (9 + i)))) j = -1) (h4 : nth f a (nv (f (r * 48 + (9 + i)))) j = -4) : nxt f a r (32 - i) i j = -4 := by
  rw [show 32 - i = (32 - (i + 1)) + 1 by omega, nxt, ifp_f h, ifp_t h4]
theorem nxt_t {f : Nat → Int32} {a r i j : Nat} (hi : i < 32) (h : ¬ nth f a (nv (f (r * 48 + (9 + i)))) j = -1) (h4 : ¬ nth f a (nv (f (r * 48 + (9 + i)))) j = -4) : nxt f a r (32 - i) i j = nI (i * 32) + nth f a (nv (f (r * 48 + (9 + i)))) j := by
  rw [show 32 - i = (32 - (i + 1)) + 1 by omega, nxt, ifp_f h, ifp_f h4]
noncomputable def sp_next (O : Prop) (f : Nat → Int32) (a ol nw : Nat) (x y : Int32) : Int32 :=
  ifp (rrd O ol nw x y = 0) (ifp (pg_right f a (nv x % 8) 1) (nxt f a (nv x % 8) (32 - nv y / 32) (nv y / 32) (nv y % 32)) (-4)) (rrd O ol nw x y)
noncomputable def ro (f : Nat → Int32) (a : Nat) : Nat → Nat × Nat
  | 0 => (0, 1)
  | i + 1 => ifp (pg_right f a i 1 ∧ (ro f a i).1 < nv (pg_num f (i * 48 + 1))) (nv (pg_num f (i * 48 + 1)), nv (pg_num f (i * 48 + 5))) (ro f a i)
theorem ro_t {f : Nat → Int32} {a i u v : Nat} (e : (u, v) = ro f a i) (h : pg_right f a i 1) (h2 : u < nv (pg_num f (i * 48 + 1))) : (nv (pg_num f (i * 48 + 1)), nv (pg_num f (i * 48 + 5))) = ro f a (i + 1) := by
  rw [ro, ifp_t ⟨h, by rw [← e]; exact h2⟩]
theorem ro_n {f : Nat → Int32} {a i u v : Nat} (e : (u, v) = ro f a i) (h : pg_right f a i 1) (h2 : ¬ u < nv (pg_num f (i * 48 + 1))) : (u, v) = ro f a (i + 1) := by
  rw [ro, ifp_f (fun g => h2 (by have := g.2; rw [← e] at this; exact this))]; exact e
theorem ro_f {f : Nat → Int32} {a i u v : Nat} (e : (u, v) = ro f a i) (h : ¬ pg_right f a i 1) : (u, v) = ro f a (i + 1) := by
  rw [ro, ifp_f (fun g => h g.1)]; exact e
def hs (a : Nat) (x y : Int32) : Prop := ¬ x < 0 ∧ ¬ nI a ≤ x ∧ ¬ y < 0 ∧ ¬ 48 ≤ y
theorem hs_nat {a : Nat} {x y : Int32} (h : hs a x y) (ha : a < 2 ^ 31) : ∃ q i : Nat, q < a ∧ i < 48 ∧ x = nI q ∧ y = nI i := by
  obtain ⟨q, hq, rfl⟩ := nI_of h.1
  obtain ⟨i, hi, rfl⟩ := nI_of h.2.2.1
  exact ⟨q, i, Nat.lt_of_not_le fun e => h.2.1 ((nI_leI ha hq).mpr e), Nat.lt_of_not_le fun e => h.2.2.2 ((nI_leI (a := 48) (b := i) (by omega) hi).mpr e), rfl, rfl⟩
noncomputable def sp_poke (f : Nat → Int32) (a : Nat) (x y z : Int32) : Int32 × (Nat → Int32) :=
  ifp (hs a x y ∧ ¬ z < 1 ∧ ¬ 255 < z) (f (nv x * 48 + nv y) ^^^ z, upd f (nv x * 48 + nv y) (f (nv x * 48 + nv y) ^^^ z)) (-2, f)
noncomputable def sp_byte (f : Nat → Int32) (a : Nat) (x y : Int32) : Int32 := ifp (hs a x y) (f (nv x * 48 + nv y)) (-2)
noncomputable def bad_at (f : Nat → Int32) (a ol nw : Nat) : Int32 := fd (fun p => ¬ wk_marks f a ol (nw + 1 - ol) p &&& 1 = 0) a 0
noncomputable def sp_bad (O : Prop) (M f : Nat → Int32) (a ol nw : Nat) : Int32 × (Nat → Int32) := ifp O (-5, M) (bad_at f a ol nw, wk_marks f a ol (nw + 1 - ol))
noncomputable def sp_keys (f : Nat → Int32) (a nw : Nat) : Nat := ifp (nw = 0 ∨ ¬ pg_right f a (nw % 8) 1) 0 (ks_sum f a (nw % 8) 32)
noncomputable def fr_pages (f : Nat → Int32) (a ol nw : Nat) : Nat := ct_of_P (fun p => wk_marks f a ol (nw + 1 - ol) p = 0) 8 (a - 8)
noncomputable def sp_count (O : Prop) (M f : Nat → Int32) (a tc ol nw : Nat) (x : Int32) : Int32 × (Nat → Int32) :=
  ifp O (-5, M) (ifp (x = 0) (nI nw, M) (ifp (x = 1) (nI ol, M) (ifp (x = 2) (nI (fr_pages f a ol nw), wk_marks f a ol (nw + 1 - ol)) (ifp (x = 3) (nI (sp_keys f a nw), M) (ifp (x = 4) (nI tc, M) (-2, M))))))
theorem sw_all {x : Int32} (h : ¬ (x.toInt < 0 ∨ 4 < x.toInt)) (h0 : ¬ x = 0) (h1 : ¬ x = 1) (h2 : ¬ x = 2) (h3 : ¬ x = 3) (h4 : ¬ x = 4) : False := by
  have hx : ¬ x < 0 := fun e => h (Or.inl (Int32.lt_iff_toInt_lt.mp e))
  obtain ⟨j, hj, rfl⟩ := nI_of hx
  have e := nI_toInt hj
  rw [e] at h
  rcases (show j = 0 ∨ j = 1 ∨ j = 2 ∨ j = 3 ∨ j = 4 by omega) with rfl | rfl | rfl | rfl | rfl
  · exact h0 rfl
  · exact h1 rfl
  · exact h2 rfl
  · exact h3 rfl
  · exact h4 rfl
theorem sw_out {x : Int32} (h : x.toInt < 0 ∨ 4 < x.toInt) : ¬ x = 0 ∧ ¬ x = 1 ∧ ¬ x = 2 ∧ ¬ x = 3 ∧ ¬ x = 4 := by
  refine ⟨?_, ?_, ?_, ?_, ?_⟩ <;> (intro e; subst e; revert h; decide)
/-- the least free page from n on, behind a walk -/
noncomputable def fr (f : Nat → Int32) (a ol nw n : Nat) : Int32 := fd (fun p => wk_marks f a ol (nw + 1 - ol) p = 0) (a - n) n
noncomputable def fr2 (f : Nat → Int32) (a ol nw : Nat) : Int32 := ifp (fr f a ol nw 8 = -1) (-1) (fr f a ol nw (nv (fr f a ol nw 8) + 1))
abbrev SP : Type := Int32 × (Nat → Int32) × Prop × Int32 × Int32 × Nat × Nat × Nat
noncomputable def sp_put (f : Nat → Int32) (O : Prop) (lf us : Int32) (t : Nat → Int32) (a tc nw ol : Nat) (x : Int32) : SP :=
  ifp (rwr O (ky x) f a ol nw = 0)
    (ifp (fr2 f a ol nw = -1 ∨ 1000000 ≤ nw) (-6, f, O, lf, us, tc, nw, ol)
      (ifp (pw_off O lf) (-3, wt f (nv (fr f a ol nw 8)) (nv x) t tc, pw_off O lf, pw_left lf, us + 1, 0, nw, ol)
        ((sp_wv (wt f (nv (fr f a ol nw 8)) (nv x) t tc) (pw_off O lf) (pw_left lf) (us + 1) nw ol (nv (fr2 f a ol nw)) (nv x) (nI (nv (fr f a ol nw 8)))).1, (sp_wv (wt f (nv (fr f a ol nw 8)) (nv x) t tc) (pw_off O lf) (pw_left lf) (us + 1) nw ol (nv (fr2 f a ol nw)) (nv x) (nI (nv (fr f a ol nw 8)))).2.1, (sp_wv (wt f (nv (fr f a ol nw 8)) (nv x) t tc) (pw_off O lf) (pw_left lf) (us + 1) nw ol (nv (fr2 f a ol nw)) (nv x) (nI (nv (fr f a ol nw 8)))).2.2.1, (sp_wv (wt f (nv (fr f a ol nw 8)) (nv x) t tc) (pw_off O lf) (pw_left lf) (us + 1) nw ol (nv (fr2 f a ol nw)) (nv x) (nI (nv (fr f a ol nw 8)))).2.2.2.1, (sp_wv (wt f (nv (fr f a ol nw 8)) (nv x) t tc) (pw_off O lf) (pw_left lf) (us + 1) nw ol (nv (fr2 f a ol nw)) (nv x) (nI (nv (fr f a ol nw 8)))).2.2.2.2.1, 0, (sp_wv (wt f (nv (fr f a ol nw 8)) (nv x) t tc) (pw_off O lf) (pw_left lf) (us + 1) nw ol (nv (fr2 f a ol nw)) (nv x) (nI (nv (fr f a ol nw 8)))).2.2.2.2.2.1, (sp_wv (wt f (nv (fr f a ol nw 8)) (nv x) t tc) (pw_off O lf) (pw_left lf) (us + 1) nw ol (nv (fr2 f a ol nw)) (nv x) (nI (nv (fr f a ol nw 8)))).2.2.2.2.2.2)))
    (rwr O (ky x) f a ol nw, f, O, lf, us, tc, nw, ol)
noncomputable def sp_rem (f : Nat → Int32) (O : Prop) (lf us : Int32) (a nw ol : Nat) (x : Int32) : SV :=
  ifp (rwr O (ky x) f a ol nw = 0)
    (ifp (nw = 0 ∨ ptg f a nw (nv x) = -1) (0, f, O, lf, us, nw, ol)
      (ifp (fr f a ol nw 8 = -1 ∨ 1000000 ≤ nw) (-6, f, O, lf, us, nw, ol) (sp_wv f O lf us nw ol (nv (fr f a ol nw 8)) (nv x) 0)))
    (rwr O (ky x) f a ol nw, f, O, lf, us, nw, ol)
def kd (ol nw : Nat) (x : Int32) : Prop := kp ol nw x ∧ ¬ x = nI nw
def wd (f : Nat → Int32) (nw v : Nat) : Nat → Int32 := pg_seal (pg_setn f (nw % 8 * 48 + 5) (nI (v + 1))) (nw % 8)
noncomputable def sp_drop (f : Nat → Int32) (O : Prop) (lf us : Int32) (a nw ol : Nat) (x : Int32) : SV :=
  ifp (rwr O (kd ol nw x) f a ol nw = 0)
    (ifp (pw_off O lf) (-3, wd f nw (nv x), pw_off O lf, pw_left lf, us + 1, nw, ol) (nI nw - x, wd f nw (nv x), pw_off O lf, pw_left lf, us + 1, nw, nv x + 1))
    (rwr O (kd ol nw x) f a ol nw, f, O, lf, us, nw, ol)
