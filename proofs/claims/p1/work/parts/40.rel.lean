/-! class and reference side by side -/
def InvN (nw ol : Nat) : Prop := (nw = 0 ∧ ol = 1) ∨ (1 ≤ ol ∧ ol ≤ nw)
def Inv (a tc tc' nw ol : Nat) (f t : Nat → Int32) (O : Prop) (lf lf' : Int32) : Prop :=
  a ≤ 120 ∧ 12 ≤ a ∧ tc ≤ 32 ∧ tc' ≤ 32 ∧ nw ≤ 1000000 ∧ InvN nw ol ∧ byt f a ∧ (∀ i, t i &&& 255 = t i) ∧ (¬ O → lf' = lf ∧ tc' = tc ∧ ¬ lf = 0)
def Rel (a : Nat) (f t : Nat → Int32) (O : Prop) (lf us : Int32) (tc nw ol : Nat) (f' t' : Nat → Int32) (O' : Prop) (lf' us' : Int32) (tc' nw' ol' : Nat) : Prop :=
  f' = f ∧ t' = t ∧ O' = O ∧ us' = us ∧ nw' = nw ∧ ol' = ol ∧ Inv a tc tc' nw ol f t O lf lf'
theorem InvN.hol {nw ol : Nat} (h : InvN nw ol) : ol ≤ nw + 1 := by rcases h with h | h <;> omega
theorem InvN.hon {nw ol : Nat} (h : InvN nw ol) : nw = 0 ∨ ol ≤ nw := by rcases h with h | h <;> omega
theorem InvN.hv0 {nw ol : Nat} (h : InvN nw ol) : nw = 0 ↔ ¬ ol ≤ nw := by rcases h with h | h <;> omega
theorem pw_dn {O : Prop} {lf : Int32} (h : ¬ O) (hl : ¬ lf = 0) : dn_O O lf = pw_off O lf := by
  refine propext ?_
  unfold dn_O pw_off pw_left
  by_cases e : 0 < lf
  · rw [if_pos e]
    exact ⟨fun g => g.elim (fun g => Or.inl ⟨e, g⟩) (fun g => absurd g h), fun g => g.elim (fun g => Or.inl g.2) (fun g => absurd g.2 h)⟩
  · rw [if_neg e]
    exact ⟨fun g => g.elim (fun g => absurd g hl) (fun g => absurd g h), fun g => g.elim (fun g => absurd g.1 e) (fun g => absurd g.2 h)⟩
theorem pw_n0 {O : Prop} {lf : Int32} (h : ¬ O) (hl : ¬ lf = 0) (hp : ¬ pw_off O lf) : ¬ pw_left lf = 0 := fun e => hp (by rw [← pw_dn h hl]; exact Or.inl e)
theorem pw_lf {lf : Int32} (h : ¬ pw_left lf = 0) : dn_lf lf = pw_left lf := ifp_f h
theorem pw_tc {lf : Int32} {tc : Nat} (h : ¬ pw_left lf = 0) : dn_tc lf tc = tc := ifp_f h
theorem dn_tc0 (lf : Int32) : dn_tc lf 0 = 0 := by
  by_cases e : pw_left lf = 0
  · exact ifp_t e
  · exact ifp_f e
theorem byt_wn {f : Nat → Int32} {a q k nw : Nat} {x : Int32} (ha : a ≤ 120) (h0 : 0 < a) (hk : k < 1024) (hh : nw = 0 ∨ pg_right f a (nw % 8) 1) (hx : x &&& 255 = x) (h : byt f a) : byt (wn f q k x nw) a := by
  unfold wn
  refine byt_seal (byt_upd (byt_upd ?_ (and255 (by omega))) hx)
  by_cases e : had f nw (k / 32) = 0
  · rw [ifp_t e]; exact byt_begin h (by decide)
  · rw [ifp_f e]; exact byt_cpy h (had_nv ha h0 (by omega) hh e).2.1
theorem byt_wr {f : Nat → Int32} {a v o n nw : Nat} {x : Int32} (h8 : 12 ≤ a) (hx : x &&& 255 = x) (h : byt f a) : byt (wr f v o n x nw) a := by
  unfold wr
  refine byt_seal (byt_upd (byt_setn (byt_setn ?_)) hx)
  by_cases e : nw = 0
  · rw [if_pos e]; exact byt_begin h (by decide)
  · rw [if_neg e]; exact byt_cpy h (by omega)
/-- the end of a change, class beside reference -/
theorem R_wv {a tc nw ol q k : Nat} {f t : Nat → Int32} {O : Prop} {lf us x : Int32} (ha : a ≤ 120) (h8 : 12 ≤ a) (htc : tc ≤ 32) (hnw : nw < 1000000) (hN : InvN nw ol) (hb : byt f a) (ht : ∀ i, t i &&& 255 = t i) (hO : ¬ O) (hl : ¬ lf = 0) (hk : k < 1024) (hq : q < a) (hx : x &&& 255 = x) (hh : nw = 0 ∨ pg_right f a (nw % 8) 1) :
    (sp_wv f O lf us nw ol q k x).1 = (sp_ch f O lf us tc nw ol k q x).1 ∧ Rel a (sp_wv f O lf us nw ol q k x).2.1 t (sp_wv f O lf us nw ol q k x).2.2.1 (sp_wv f O lf us nw ol q k x).2.2.2.1 (sp_wv f O lf us nw ol q k x).2.2.2.2.1 tc (sp_wv f O lf us nw ol q k x).2.2.2.2.2.1 (sp_wv f O lf us nw ol q k x).2.2.2.2.2.2
      (sp_ch f O lf us tc nw ol k q x).2.1 t (sp_ch f O lf us tc nw ol k q x).2.2.1 (sp_ch f O lf us tc nw ol k q x).2.2.2.1 (sp_ch f O lf us tc nw ol k q x).2.2.2.2.1 (sp_ch f O lf us tc nw ol k q x).2.2.2.2.2.1 (sp_ch f O lf us tc nw ol k q x).2.2.2.2.2.2.1 (sp_ch f O lf us tc nw ol k q x).2.2.2.2.2.2.2 := by
  have b1 := byt_wn (q := q) ha (by omega) hk hh hx hb
  have b2 := byt_wr (v := nw + 1) (o := max ol (nw + 1 - 7)) (n := k / 32) (nw := nw) h8 (and255 (n := q) (by omega)) b1
  have e1 : dn_O O lf = pw_off O lf := pw_dn hO hl
  by_cases c1 : pw_off O lf
  · have v : sp_wv f O lf us nw ol q k x = (-3, wn f q k x nw, pw_off O lf, pw_left lf, us + 1, nw, ol) := ifp_t c1
    have w : sp_ch f O lf us tc nw ol k q x = (-3, wn f q k x nw, dn_O O lf, dn_lf lf, us + 1, dn_tc lf tc, nw, ol) := ifp_t (by rw [e1]; exact c1)
    rw [v, w]
    exact ⟨rfl, rfl, rfl, e1, rfl, rfl, rfl, ha, h8, htc, dn_tc_le htc, Nat.le_of_lt hnw, hN, b1, ht, fun g => absurd c1 g⟩
  · have n1 := pw_n0 hO hl c1
    have e2 := pw_lf n1
    have e3 := pw_tc (tc := tc) n1
    have e4 : dn_O (dn_O O lf) (dn_lf lf) = pw_off (pw_off O lf) (pw_left lf) := by rw [e1, e2]; exact pw_dn c1 n1
    by_cases c2 : pw_off (pw_off O lf) (pw_left lf)
    · have v : sp_wv f O lf us nw ol q k x = (-3, wr (wn f q k x nw) (nw + 1) (max ol (nw + 1 - 7)) (k / 32) (nI q) nw, pw_off (pw_off O lf) (pw_left lf), pw_left (pw_left lf), us + 1 + 1, nw, ol) := (ifp_f c1).trans (ifp_t c2)
      have w : sp_ch f O lf us tc nw ol k q x = (-3, wr (wn f q k x nw) (nw + 1) (max ol (nw + 1 - 7)) (k / 32) (nI q) nw, dn_O (dn_O O lf) (dn_lf lf), dn_lf (dn_lf lf), us + 1 + 1, dn_tc (dn_lf lf) (dn_tc lf tc), nw, ol) := (ifp_f (by rw [e1]; exact c1)).trans (ifp_t (by rw [e4]; exact c2))
      rw [v, w]
      exact ⟨rfl, rfl, rfl, e4, rfl, rfl, rfl, ha, h8, htc, dn_tc_le (dn_tc_le htc), Nat.le_of_lt hnw, hN, b2, ht, fun g => absurd c2 g⟩
    · have n2 := pw_n0 c1 n1 c2
      have v : sp_wv f O lf us nw ol q k x = (nI (nw + 1), wr (wn f q k x nw) (nw + 1) (max ol (nw + 1 - 7)) (k / 32) (nI q) nw, pw_off (pw_off O lf) (pw_left lf), pw_left (pw_left lf), us + 1 + 1, nw + 1, max ol (nw + 1 - 7)) := (ifp_f c1).trans (ifp_f c2)
      have w : sp_ch f O lf us tc nw ol k q x = (nI (nw + 1), wr (wn f q k x nw) (nw + 1) (max ol (nw + 1 - 7)) (k / 32) (nI q) nw, dn_O (dn_O O lf) (dn_lf lf), dn_lf (dn_lf lf), us + 1 + 1, dn_tc (dn_lf lf) (dn_tc lf tc), nw + 1, max ol (nw + 1 - 7)) := (ifp_f (by rw [e1]; exact c1)).trans (ifp_f (by rw [e4]; exact c2))
      rw [v, w]
      refine ⟨rfl, rfl, rfl, e4, rfl, rfl, rfl, ha, h8, htc, dn_tc_le (dn_tc_le htc), by show nw + 1 ≤ 1000000; omega, ?_, b2, ht, fun _ => ⟨?_, ?_, n2⟩⟩
      · show InvN (nw + 1) (max ol (nw + 1 - 7))
        rcases hN with h | h
        · exact Or.inr (by omega)
        · exact Or.inr (by omega)
      · show dn_lf (dn_lf lf) = pw_left (pw_left lf)
        rw [e2]; exact pw_lf n2
      · show dn_tc (dn_lf lf) (dn_tc lf tc) = tc
        rw [e2, e3]; exact pw_tc n2
theorem R_type {a tc tc' nw ol : Nat} {f t : Nat → Int32} {O : Prop} {lf lf' us x : Int32} (h : Inv a tc tc' nw ol f t O lf lf') : (sp_type O x tc t).1 = (sp_type O x tc' t).1 ∧ Rel a f (sp_type O x tc t).2.1 O lf us (sp_type O x tc t).2.2 nw ol f (sp_type O x tc' t).2.1 O lf' us (sp_type O x tc' t).2.2 nw ol := by
  obtain ⟨h1, h2, h3, h4, h5, h6, h7, h8, h9⟩ := h
  by_cases c1 : O
  · have v : ∀ n, sp_type O x n t = (-5, t, n) := fun n => ifp_t c1
    rw [v, v]
    exact ⟨rfl, rfl, rfl, rfl, rfl, rfl, rfl, h1, h2, h3, h4, h5, h6, h7, h8, h9⟩
  · obtain ⟨e1, e2, e3⟩ := h9 c1
    subst e2
    by_cases c2 : x < 0 ∨ 255 < x
    · have v : sp_type O x tc' t = (-2, t, tc') := (ifp_f c1).trans (ifp_t c2)
      rw [v]
      exact ⟨rfl, rfl, rfl, rfl, rfl, rfl, rfl, h1, h2, h3, h4, h5, h6, h7, h8, fun _ => ⟨e1, rfl, e3⟩⟩
    · by_cases c3 : 32 ≤ tc'
      · have v : sp_type O x tc' t = (-6, t, tc') := (ifp_f c1).trans ((ifp_f c2).trans (ifp_t c3))
        rw [v]
        exact ⟨rfl, rfl, rfl, rfl, rfl, rfl, rfl, h1, h2, h3, h4, h5, h6, h7, h8, fun _ => ⟨e1, rfl, e3⟩⟩
      · have v : sp_type O x tc' t = (nI (tc' + 1), upd t tc' x, tc' + 1) := (ifp_f c1).trans ((ifp_f c2).trans (ifp_f c3))
        rw [v]
        refine ⟨rfl, rfl, rfl, rfl, rfl, rfl, rfl, h1, h2, by show tc' + 1 ≤ 32; omega, by show tc' + 1 ≤ 32; omega, h5, h6, h7, fun i => ?_, fun _ => ⟨e1, rfl, e3⟩⟩
        show upd t tc' x i &&& 255 = upd t tc' x i
        unfold upd
        by_cases e : i = tc'
        · rw [if_pos e]
          obtain ⟨n, hn, rfl⟩ := nI_of (fun g => c2 (Or.inl g))
          exact and255 (Nat.lt_of_not_le fun g => c2 (Or.inr ((nI_ltI (a := 255) (b := n) (by omega) hn).mpr (by omega))))
        · rw [if_neg e]; exact h8 i
theorem R_put {a tc tc' nw ol : Nat} {f t : Nat → Int32} {O : Prop} {lf lf' us x : Int32} (h : Inv a tc tc' nw ol f t O lf lf') : (sp_put f O lf us t a tc nw ol x).1 = (sp_puR f O lf' us t a tc' nw ol x).1 ∧
    Rel a (sp_put f O lf us t a tc nw ol x).2.1 t (sp_put f O lf us t a tc nw ol x).2.2.1 (sp_put f O lf us t a tc nw ol x).2.2.2.1 (sp_put f O lf us t a tc nw ol x).2.2.2.2.1 (sp_put f O lf us t a tc nw ol x).2.2.2.2.2.1 (sp_put f O lf us t a tc nw ol x).2.2.2.2.2.2.1 (sp_put f O lf us t a tc nw ol x).2.2.2.2.2.2.2
      (sp_puR f O lf' us t a tc' nw ol x).2.1 t (sp_puR f O lf' us t a tc' nw ol x).2.2.1 (sp_puR f O lf' us t a tc' nw ol x).2.2.2.1 (sp_puR f O lf' us t a tc' nw ol x).2.2.2.2.1 (sp_puR f O lf' us t a tc' nw ol x).2.2.2.2.2.1 (sp_puR f O lf' us t a tc' nw ol x).2.2.2.2.2.2.1 (sp_puR f O lf' us t a tc' nw ol x).2.2.2.2.2.2.2 := by
  obtain ⟨h1, h2, h3, h4, h5, h6, h7, h8, h9⟩ := h
  by_cases c1 : rwr O (ky x) f a ol nw = 0
  · obtain ⟨g1, g2, g3⟩ := rwr_0 c1
    obtain ⟨e1, e2, e3⟩ := h9 g1
    subst e1 e2
    by_cases c2 : fr2 f a ol nw = -1 ∨ 1000000 ≤ nw
    · have v : sp_put f O lf' us t a tc' nw ol x = (-6, f, O, lf', us, tc', nw, ol) := (ifp_t c1).trans (ifp_t c2)
      have w : sp_puR f O lf' us t a tc' nw ol x = (-6, f, O, lf', us, tc', nw, ol) := (ifp_t c1).trans (ifp_t (c2.imp id (fun g => by omega)))
      rw [v, w]
      exact ⟨rfl, rfl, rfl, rfl, rfl, rfl, rfl, h1, h2, h3, h4, h5, h6, h7, h8, fun _ => ⟨rfl, rfl, e3⟩⟩
    · have c2' : ¬ (fr2 f a ol nw = -1 ∨ nw = 1000000) := fun g => c2 (g.imp id (fun g => by omega))
      have n8 : ¬ fr f a ol nw 8 = -1 := fun g => c2 (Or.inl (ifp_t g))
      obtain ⟨hf1, hf2, hf3, hf4⟩ := fr_some h1 (by omega) n8
      obtain ⟨hg1, hg2, hg3, hg4⟩ := fr2_some h1 h2 n8 (fun g => c2 (Or.inl g))
      obtain ⟨k, hk, rfl⟩ := ky_nat g2
      have ek : nv (nI k) = k := nv_nI (by omega)
      have bw := byt_wt (q := nv (fr f a ol nw 8)) h7 hk h3 (fun i _ => h8 i)
      have e5 : dn_O O lf' = pw_off O lf' := pw_dn g1 e3
      by_cases c3 : pw_off O lf'
      · have v : sp_put f O lf' us t a tc' nw ol (nI k) = (-3, wt f (nv (fr f a ol nw 8)) (nv (nI k)) t tc', pw_off O lf', pw_left lf', us + 1, 0, nw, ol) := (ifp_t c1).trans ((ifp_f c2).trans (ifp_t c3))
        have w : sp_puR f O lf' us t a tc' nw ol (nI k) = (-3, wt f (nv (fr f a ol nw 8)) (nv (nI k)) t tc', dn_O O lf', dn_lf lf', us + 1, dn_tc lf' 0, nw, ol) := (ifp_t c1).trans ((ifp_f c2').trans (ifp_t (by rw [e5]; exact c3)))
        rw [v, w, ek]
        exact ⟨rfl, rfl, rfl, e5, rfl, rfl, rfl, h1, h2, by show 0 ≤ 32; omega, by rw [dn_tc0]; show 0 ≤ 32; omega, h5, h6, bw, h8, fun g => absurd c3 g⟩
      · have n1 := pw_n0 g1 e3 c3
        have e6 := pw_lf n1
        have w : sp_puR f O lf' us t a tc' nw ol (nI k) = sp_ch (wt f (nv (fr f a ol nw 8)) k t tc') (pw_off O lf') (pw_left lf') (us + 1) 0 nw ol k (nv (fr2 f a ol nw)) (nI (nv (fr f a ol nw 8))) := by
          refine (ifp_t c1).trans ((ifp_f c2').trans ((ifp_f (by rw [e5]; exact c3)).trans ?_))
          rw [e5, e6, dn_tc0, ek]
        obtain ⟨Wv, hW⟩ : ∃ Wv : SV, Wv = sp_wv (wt f (nv (fr f a ol nw 8)) (nv (nI k)) t tc') (pw_off O lf') (pw_left lf') (us + 1) nw ol (nv (fr2 f a ol nw)) (nv (nI k)) (nI (nv (fr f a ol nw 8))) := ⟨_, rfl⟩
        have v : sp_put f O lf' us t a tc' nw ol (nI k) = (Wv.1, Wv.2.1, Wv.2.2.1, Wv.2.2.2.1, Wv.2.2.2.2.1, 0, Wv.2.2.2.2.2.1, Wv.2.2.2.2.2.2) := by
          rw [hW]
          exact (ifp_t c1).trans ((ifp_f c2).trans (ifp_f c3))
        rw [v, w, hW, ek]
        exact R_wv (tc := 0) h1 h2 (by omega) (by omega) h6 bw h8 c3 n1 hk hg3 (and255 (by omega)) (hh_put h1 h2 h3 g3 h6.hon hf2)
  · have v : sp_put f O lf us t a tc nw ol x = (rwr O (ky x) f a ol nw, f, O, lf, us, tc, nw, ol) := ifp_f c1
    have w : sp_puR f O lf' us t a tc' nw ol x = (rwr O (ky x) f a ol nw, f, O, lf', us, tc', nw, ol) := ifp_f c1
    rw [v, w]
    exact ⟨rfl, rfl, rfl, rfl, rfl, rfl, rfl, h1, h2, h3, h4, h5, h6, h7, h8, h9⟩
theorem R_rem {a tc tc' nw ol : Nat} {f t : Nat → Int32} {O : Prop} {lf lf' us x : Int32} (h : Inv a tc tc' nw ol f t O lf lf') : (sp_rem f O lf us a nw ol x).1 = (sp_reR f O lf' us a tc' nw ol x).1 ∧
    Rel a (sp_rem f O lf us a nw ol x).2.1 t (sp_rem f O lf us a nw ol x).2.2.1 (sp_rem f O lf us a nw ol x).2.2.2.1 (sp_rem f O lf us a nw ol x).2.2.2.2.1 tc (sp_rem f O lf us a nw ol x).2.2.2.2.2.1 (sp_rem f O lf us a nw ol x).2.2.2.2.2.2
      (sp_reR f O lf' us a tc' nw ol x).2.1 t (sp_reR f O lf' us a tc' nw ol x).2.2.1 (sp_reR f O lf' us a tc' nw ol x).2.2.2.1 (sp_reR f O lf' us a tc' nw ol x).2.2.2.2.1 (sp_reR f O lf' us a tc' nw ol x).2.2.2.2.2.1 (sp_reR f O lf' us a tc' nw ol x).2.2.2.2.2.2.1 (sp_reR f O lf' us a tc' nw ol x).2.2.2.2.2.2.2 := by
  obtain ⟨h1, h2, h3, h4, h5, h6, h7, h8, h9⟩ := h
  by_cases c1 : rwr O (ky x) f a ol nw = 0
  · obtain ⟨g1, g2, g3⟩ := rwr_0 c1
    obtain ⟨e1, e2, e3⟩ := h9 g1
    subst e1 e2
    by_cases c2 : nw = 0 ∨ ptg f a nw (nv x) = -1
    · have v : sp_rem f O lf' us a nw ol x = (0, f, O, lf', us, nw, ol) := (ifp_t c1).trans (ifp_t c2)
      have w : sp_reR f O lf' us a tc' nw ol x = (0, f, O, lf', us, tc', nw, ol) := (ifp_t c1).trans (ifp_t c2)
      rw [v, w]
      exact ⟨rfl, rfl, rfl, rfl, rfl, rfl, rfl, h1, h2, h3, h4, h5, h6, h7, h8, fun _ => ⟨rfl, rfl, e3⟩⟩
    · by_cases c3 : fr f a ol nw 8 = -1 ∨ 1000000 ≤ nw
      · have v : sp_rem f O lf' us a nw ol x = (-6, f, O, lf', us, nw, ol) := (ifp_t c1).trans ((ifp_f c2).trans (ifp_t c3))
        have w : sp_reR f O lf' us a tc' nw ol x = (-6, f, O, lf', us, tc', nw, ol) := (ifp_t c1).trans ((ifp_f c2).trans (ifp_t (c3.imp id (fun g => by omega))))
        rw [v, w]
        exact ⟨rfl, rfl, rfl, rfl, rfl, rfl, rfl, h1, h2, h3, h4, h5, h6, h7, h8, fun _ => ⟨rfl, rfl, e3⟩⟩
      · have c3' : ¬ (fr f a ol nw 8 = -1 ∨ nw = 1000000) := fun g => c3 (g.imp id (fun g => by omega))
        obtain ⟨hf1, hf2, hf3, hf4⟩ := fr_some h1 (by omega) (fun g => c3 (Or.inl g))
        obtain ⟨k, hk, rfl⟩ := ky_nat g2
        have ek : nv (nI k) = k := nv_nI (by omega)
        have v : sp_rem f O lf' us a nw ol (nI k) = sp_wv f O lf' us nw ol (nv (fr f a ol nw 8)) (nv (nI k)) 0 := (ifp_t c1).trans ((ifp_f c2).trans (ifp_f c3))
        have w : sp_reR f O lf' us a tc' nw ol (nI k) = sp_ch f O lf' us tc' nw ol (nv (nI k)) (nv (fr f a ol nw 8)) 0 := (ifp_t c1).trans ((ifp_f c2).trans (ifp_f c3'))
        rw [v, w, ek]
        exact R_wv h1 h2 h3 (by omega) h6 h7 h8 g1 e3 hk hf3 (by decide) (hh_rem h1 h2 g3 h6.hon)
  · have v : sp_rem f O lf us a nw ol x = (rwr O (ky x) f a ol nw, f, O, lf, us, nw, ol) := ifp_f c1
    have w : sp_reR f O lf' us a tc' nw ol x = (rwr O (ky x) f a ol nw, f, O, lf', us, tc', nw, ol) := ifp_f c1
    rw [v, w]
    exact ⟨rfl, rfl, rfl, rfl, rfl, rfl, rfl, h1, h2, h3, h4, h5, h6, h7, h8, h9⟩
theorem R_drop {a tc tc' nw ol : Nat} {f t : Nat → Int32} {O : Prop} {lf lf' us x : Int32} (h : Inv a tc tc' nw ol f t O lf lf') : (sp_drop f O lf us a nw ol x).1 = (sp_drR f O lf' us a tc' nw ol x).1 ∧
    Rel a (sp_drop f O lf us a nw ol x).2.1 t (sp_drop f O lf us a nw ol x).2.2.1 (sp_drop f O lf us a nw ol x).2.2.2.1 (sp_drop f O lf us a nw ol x).2.2.2.2.1 tc (sp_drop f O lf us a nw ol x).2.2.2.2.2.1 (sp_drop f O lf us a nw ol x).2.2.2.2.2.2
      (sp_drR f O lf' us a tc' nw ol x).2.1 t (sp_drR f O lf' us a tc' nw ol x).2.2.1 (sp_drR f O lf' us a tc' nw ol x).2.2.2.1 (sp_drR f O lf' us a tc' nw ol x).2.2.2.2.1 (sp_drR f O lf' us a tc' nw ol x).2.2.2.2.2.1 (sp_drR f O lf' us a tc' nw ol x).2.2.2.2.2.2.1 (sp_drR f O lf' us a tc' nw ol x).2.2.2.2.2.2.2 := by
  obtain ⟨h1, h2, h3, h4, h5, h6, h7, h8, h9⟩ := h
  by_cases c1 : rwr O (kd ol nw x) f a ol nw = 0
  · obtain ⟨g1, g2, g3⟩ := rwr_0 c1
    obtain ⟨e1, e2, e3⟩ := h9 g1
    subst e1 e2
    have bw : byt (wd f nw (nv x)) a := byt_seal (byt_setn h7)
    have e5 : dn_O O lf' = pw_off O lf' := pw_dn g1 e3
    by_cases c3 : pw_off O lf'
    · have v : sp_drop f O lf' us a nw ol x = (-3, wd f nw (nv x), pw_off O lf', pw_left lf', us + 1, nw, ol) := (ifp_t c1).trans (ifp_t c3)
      have w : sp_drR f O lf' us a tc' nw ol x = (-3, wd f nw (nv x), dn_O O lf', dn_lf lf', us + 1, dn_tc lf' tc', nw, ol) := (ifp_t c1).trans (ifp_t (by rw [e5]; exact c3))
      rw [v, w]
      exact ⟨rfl, rfl, rfl, e5, rfl, rfl, rfl, h1, h2, h3, dn_tc_le h3, h5, h6, bw, h8, fun g => absurd c3 g⟩
    · have n1 := pw_n0 g1 e3 c3
      have v : sp_drop f O lf' us a nw ol x = (nI nw - x, wd f nw (nv x), pw_off O lf', pw_left lf', us + 1, nw, nv x + 1) := (ifp_t c1).trans (ifp_f c3)
      have w : sp_drR f O lf' us a tc' nw ol x = (nI nw - x, wd f nw (nv x), dn_O O lf', dn_lf lf', us + 1, dn_tc lf' tc', nw, nv x + 1) := (ifp_t c1).trans (ifp_f (by rw [e5]; exact c3))
      have hol := h6.hol
      obtain ⟨u, hu1, hu2, rfl⟩ := kp_nat g2.1 (by omega) (by omega)
      rw [v, w]
      refine ⟨rfl, rfl, rfl, e5, rfl, rfl, rfl, h1, h2, h3, dn_tc_le h3, h5, ?_, bw, h8, fun _ => ⟨pw_lf n1, pw_tc n1, n1⟩⟩
      show InvN nw (nv (nI u) + 1)
      rw [nv_nI (by omega)]
      have hne : ¬ u = nw := fun g => g2.2 (by rw [g])
      rcases h6 with g | g
      · omega
      · exact Or.inr (by omega)
  · have v : sp_drop f O lf us a nw ol x = (rwr O (kd ol nw x) f a ol nw, f, O, lf, us, nw, ol) := ifp_f c1
    have w : sp_drR f O lf' us a tc' nw ol x = (rwr O (kd ol nw x) f a ol nw, f, O, lf', us, tc', nw, ol) := ifp_f c1
    rw [v, w]
    exact ⟨rfl, rfl, rfl, rfl, rfl, rfl, rfl, h1, h2, h3, h4, h5, h6, h7, h8, h9⟩
theorem R_crash {a tc tc' nw ol : Nat} {f t : Nat → Int32} {O : Prop} {lf lf' us x : Int32} (h : Inv a tc tc' nw ol f t O lf lf') : (sp_crash O lf x).1 = (sp_crR O lf' tc' x).1 ∧ Rel a f t (sp_crash O lf x).2.1 (sp_crash O lf x).2.2 us tc nw ol f t (sp_crR O lf' tc' x).2.1 (sp_crR O lf' tc' x).2.2.1 us (sp_crR O lf' tc' x).2.2.2 nw ol := by
  obtain ⟨h1, h2, h3, h4, h5, h6, h7, h8, h9⟩ := h
  by_cases c1 : O
  · have v : sp_crash O lf x = (-5, O, lf) := ifp_t c1
    have w : sp_crR O lf' tc' x = (-5, O, lf', tc') := ifp_t c1
    rw [v, w]
    exact ⟨rfl, rfl, rfl, rfl, rfl, rfl, rfl, h1, h2, h3, h4, h5, h6, h7, h8, h9⟩
  · obtain ⟨e1, e2, e3⟩ := h9 c1
    subst e1 e2
    by_cases c2 : x < -1 ∨ 1000 < x
    · have v : sp_crash O lf' x = (-2, O, lf') := (ifp_f c1).trans (ifp_t c2)
      have w : sp_crR O lf' tc' x = (-2, O, lf', tc') := (ifp_f c1).trans (ifp_t c2)
      rw [v, w]
      exact ⟨rfl, rfl, rfl, rfl, rfl, rfl, rfl, h1, h2, h3, h4, h5, h6, h7, h8, fun _ => ⟨rfl, rfl, e3⟩⟩
    · have v : sp_crash O lf' x = (1, x = 0, x) := (ifp_f c1).trans (ifp_f c2)
      by_cases c3 : x = 0
      · have w : sp_crR O lf' tc' x = (1, True, -1, 0) := (ifp_f c1).trans ((ifp_f c2).trans (ifp_t c3))
        rw [v, w]
        exact ⟨rfl, rfl, rfl, propext ⟨fun _ => c3, fun _ => trivial⟩, rfl, rfl, rfl, h1, h2, h3, by show 0 ≤ 32; omega, h5, h6, h7, h8, fun g => absurd c3 g⟩
      · have w : sp_crR O lf' tc' x = (1, O, x, tc') := (ifp_f c1).trans ((ifp_f c2).trans (ifp_f c3))
        rw [v, w]
        exact ⟨rfl, rfl, rfl, propext ⟨fun g => absurd g c1, fun g => absurd g c3⟩, rfl, rfl, rfl, h1, h2, h3, h4, h5, h6, h7, h8, fun _ => ⟨rfl, rfl, c3⟩⟩
theorem ro_inv {f : Nat → Int32} {a : Nat} : ∀ n, n ≤ 8 → InvN (ro f a n).1 (ro f a n).2 ∧ (ro f a n).1 ≤ 1000000
  | 0, _ => ⟨Or.inl ⟨rfl, rfl⟩, Nat.zero_le _⟩
  | n + 1, hn => by
    have ih := ro_inv (f := f) (a := a) n (by omega)
    by_cases c : pg_right f a n 1 ∧ (ro f a n).1 < nv (pg_num f (n * 48 + 1))
    · have e : ro f a (n + 1) = (nv (pg_num f (n * 48 + 1)), nv (pg_num f (n * 48 + 5))) := by rw [ro, ifp_t c]
      obtain ⟨g1, g2, g3, g4, g5, g6, g7, g8⟩ := vers_nv c.1 (by omega)
      rw [e]
      exact ⟨Or.inr ⟨g6, g7⟩, g3⟩
    · have e : ro f a (n + 1) = ro f a n := by rw [ro, ifp_f c]
      rw [e]; exact ih
theorem R_reopen {a tc tc' nw ol : Nat} {f t : Nat → Int32} {O : Prop} {lf lf' us : Int32} (h : Inv a tc tc' nw ol f t O lf lf') : Rel a f t False (-1) us 0 (ro f a 8).1 (ro f a 8).2 f t False (-1) us 0 (ro f a 8).1 (ro f a 8).2 := by
  obtain ⟨h1, h2, h3, h4, h5, h6, h7, h8, h9⟩ := h
  have g := ro_inv (f := f) (a := a) 8 (by omega)
  exact ⟨rfl, rfl, rfl, rfl, rfl, rfl, h1, h2, by omega, by omega, g.2, g.1, h7, h8, fun _ => ⟨rfl, rfl, by decide⟩⟩
theorem xor_by {x y : Int32} (hx : x &&& 255 = x) (hy : y &&& 255 = y) : (x ^^^ y) &&& 255 = x ^^^ y := by
  rw [← hx, ← hy]
  refine b_ext fun i _ => ?_
  rw [b_and, b_xor, b_and, b_and]
  cases bt x i <;> cases bt y i <;> cases bt 255 i <;> rfl
theorem R_poke {a tc tc' nw ol : Nat} {f t : Nat → Int32} {O : Prop} {lf lf' us x y z : Int32} (h : Inv a tc tc' nw ol f t O lf lf') : (sp_poke f a x y z).1 = (sp_pkR f a x y z).1 ∧ Rel a (sp_poke f a x y z).2 t O lf us tc nw ol (sp_pkR f a x y z).2 t O lf' us tc' nw ol := by
  obtain ⟨h1, h2, h3, h4, h5, h6, h7, h8, h9⟩ := h
  by_cases c1 : hs a x y ∧ ¬ z < 1 ∧ ¬ 255 < z
  · have hz : z &&& 255 = z := by
      obtain ⟨n, hn, rfl⟩ := nI_of (fun g => c1.2.1 (Int32.lt_trans g (by decide)))
      exact and255 (Nat.lt_of_not_le fun g => c1.2.2 ((nI_ltI (a := 255) (b := n) (by omega) hn).mpr (by omega)))
    obtain ⟨q, i, hq, hi, e1, e2⟩ := hs_nat c1.1 (by omega)
    have hb : (f (nv x * 48 + nv y) ^^^ z) &&& 255 = f (nv x * 48 + nv y) ^^^ z := by
      refine xor_by (h7 _ ?_) hz
      rw [e1, e2, nv_nI (by omega), nv_nI (by omega)]
      omega
    have v : sp_poke f a x y z = (f (nv x * 48 + nv y) ^^^ z, upd f (nv x * 48 + nv y) (f (nv x * 48 + nv y) ^^^ z)) := ifp_t c1
    have w : sp_pkR f a x y z = ((f (nv x * 48 + nv y) ^^^ z) &&& 255, upd f (nv x * 48 + nv y) ((f (nv x * 48 + nv y) ^^^ z) &&& 255)) := ifp_t c1
    rw [v, w, hb]
    exact ⟨rfl, rfl, rfl, rfl, rfl, rfl, rfl, h1, h2, h3, h4, h5, h6, byt_upd h7 hb, h8, h9⟩
  · have v : sp_poke f a x y z = (-2, f) := ifp_f c1
    have w : sp_pkR f a x y z = (-2, f) := ifp_f c1
    rw [v, w]
    exact ⟨rfl, rfl, rfl, rfl, rfl, rfl, rfl, h1, h2, h3, h4, h5, h6, h7, h8, h9⟩
theorem R_bad {a tc tc' nw ol : Nat} {f t M z : Nat → Int32} {O : Prop} {lf lf' bd : Int32} (h : Inv a tc tc' nw ol f t O lf lf') : (sp_bad O M f a ol nw).1 = (sp_bdR O f a ol nw z bd).1 := by
  obtain ⟨h1, h2, -⟩ := h
  by_cases c1 : O
  · rw [show sp_bad O M f a ol nw = (-5, M) from ifp_t c1, show sp_bdR O f a ol nw z bd = (-5, z, bd) from ifp_t c1]
  · rw [show sp_bad O M f a ol nw = _ from ifp_f c1, show sp_bdR O f a ol nw z bd = _ from ifp_f c1]
    exact (rall_b z h1 h2).symm
theorem ct_congr {P Q : Nat → Prop} {q : Nat} : ∀ n, (∀ j, q ≤ j → j < q + n → (P j ↔ Q j)) → ct_of_P P q n = ct_of_P Q q n
  | 0, _ => rfl
  | n + 1, h => by
    have ih := ct_congr (P := P) (Q := Q) (q := q) n (fun j g1 g2 => h j g1 (by omega))
    by_cases e : P (q + n)
    · rw [ct_P1 e, ct_P1 ((h (q + n) (by omega) (by omega)).mp e), ih]
    · rw [ct_P0 e, ct_P0 (fun g => e ((h (q + n) (by omega) (by omega)).mpr g)), ih]
theorem R_count {a tc tc' nw ol : Nat} {f t M z : Nat → Int32} {O : Prop} {lf lf' bd x : Int32} (h : Inv a tc tc' nw ol f t O lf lf') : (sp_count O M f a tc ol nw x).1 = (sp_cnR O f a tc' ol nw z bd x).1 := by
  obtain ⟨h1, h2, h3, h4, h5, h6, h7, h8, h9⟩ := h
  by_cases c : O
  · rw [show sp_count O M f a tc ol nw x = _ from ifp_t c, show sp_cnR O f a tc' ol nw z bd x = _ from ifp_t c]
  · obtain ⟨e1, e2, e3⟩ := h9 c
    subst e2
    have v : sp_count O M f a tc' ol nw x = _ := ifp_f c
    have w : sp_cnR O f a tc' ol nw z bd x = _ := ifp_f c
    rw [v, w]
    by_cases c0 : x = 0
    · rw [ifp_t c0, ifp_t c0]
    rw [ifp_f c0, ifp_f c0]
    by_cases c1 : x = 1
    · rw [ifp_t c1, ifp_t c1]
    rw [ifp_f c1, ifp_f c1]
    by_cases c2 : x = 2
    · rw [ifp_t c2, ifp_t c2]
      show nI (fr_pages f a ol nw) = nI (fp_R f a ol nw z)
      unfold fr_pages fp_R
      rw [ct_congr (a - 8) (fun j g1 g2 => (rall_z z h1 h2 (by omega)).symm)]
    rw [ifp_f c2, ifp_f c2]
    by_cases c3 : x = 3
    · rw [ifp_t c3, ifp_t c3]
      show nI (sp_keys f a nw) = nI (ks_R f a nw ol)
      unfold sp_keys ks_R
      have hv := h6.hv0
      by_cases d : ol ≤ nw ∧ pg_right f a (nw % 8) 1
      · rw [ifp_t d, ifp_f (fun g => g.elim (fun g => hv.mp g d.1) (fun g => g d.2))]
      · rw [ifp_f d, ifp_t (Classical.byContradiction fun g => d ⟨Classical.byContradiction fun g2 => g (Or.inl (hv.mpr g2)), Classical.byContradiction fun g2 => g (Or.inr g2)⟩)]
    rw [ifp_f c3, ifp_f c3]
    by_cases c4 : x = 4
    · rw [ifp_t c4, ifp_t c4]
    rw [ifp_f c4, ifp_f c4]
