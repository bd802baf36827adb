/-! what fd finds -/
theorem fd_spec (P : Nat → Prop) : ∀ (n q : Nat), (fd P n q = -1 ∧ ∀ j, q ≤ j → j < q + n → ¬ P j) ∨ ∃ j, q ≤ j ∧ j < q + n ∧ P j ∧ fd P n q = nI j ∧ ∀ i, q ≤ i → i < j → ¬ P i
  | 0, q => Or.inl ⟨rfl, fun j h1 h2 => absurd h2 (by omega)⟩
  | n + 1, q => by
    by_cases h : P q
    · exact Or.inr ⟨q, Nat.le_refl _, by omega, h, fd_t h, fun i h1 h2 => absurd h2 (by omega)⟩
    · rw [fd_n h]
      rcases fd_spec P n (q + 1) with ⟨h1, h2⟩ | ⟨j, h1, h2, h3, h4, h5⟩
      · refine Or.inl ⟨h1, fun j g1 g2 => ?_⟩
        rcases Nat.lt_or_ge q j with g | g
        · exact h2 j g (by omega)
        · rw [show j = q by omega]; exact h
      · refine Or.inr ⟨j, by omega, by omega, h3, h4, fun i g1 g2 => ?_⟩
        rcases Nat.lt_or_ge q i with g | g
        · exact h5 i g g2
        · rw [show i = q by omega]; exact h
theorem nI_nm1 {j : Nat} (h : j < 2 ^ 31) : ¬ nI j = -1 := fun e => by
  have h1 := nI_pos h
  rw [e] at h1
  exact h1 (by decide)
theorem fd_none {P : Nat → Prop} {n q : Nat} (hb : q + n < 2 ^ 31) : fd P n q = -1 ↔ ∀ j, q ≤ j → j < q + n → ¬ P j := by
  rcases fd_spec P n q with ⟨h1, h2⟩ | ⟨j, h1, h2, h3, h4, h5⟩
  · exact ⟨fun _ => h2, fun _ => h1⟩
  · refine ⟨fun e => ?_, fun e => absurd h3 (e j h1 h2)⟩
    rw [h4] at e
    exact absurd e (nI_nm1 (by omega))
theorem fd_some {P : Nat → Prop} {n q : Nat} (hb : q + n < 2 ^ 31) (h : ¬ fd P n q = -1) : fd P n q = nI (nv (fd P n q)) ∧ q ≤ nv (fd P n q) ∧ nv (fd P n q) < q + n ∧ P (nv (fd P n q)) := by
  rcases fd_spec P n q with ⟨h1, h2⟩ | ⟨j, h1, h2, h3, h4, h5⟩
  · exact absurd h1 h
  · rw [h4, nv_nI (by omega)]
    exact ⟨rfl, h1, h2, h3⟩
theorem fd_congr {P Q : Nat → Prop} : ∀ (n q : Nat), (∀ j, q ≤ j → j < q + n → (P j ↔ Q j)) → fd P n q = fd Q n q
  | 0, _, _ => rfl
  | n + 1, q, h => by
    by_cases h1 : P q
    · rw [fd_t h1, fd_t ((h q (Nat.le_refl _) (by omega)).mp h1)]
    · rw [fd_n h1, fd_n (fun e => h1 ((h q (Nat.le_refl _) (by omega)).mpr e))]
      exact fd_congr n (q + 1) (fun j g1 g2 => h j (by omega) (by omega))
/-! a page's words look at its bytes alone -/
theorem pg_sum_congr {f g : Nat → Int32} {b : Nat} : ∀ n, (∀ i, i < n → f (b + i) = g (b + i)) → pg_sum f b n = pg_sum g b n
  | 0, _ => rfl
  | n + 1, h => by
    show pg_mix (pg_sum f b n ^^^ f (b + n)) = pg_mix (pg_sum g b n ^^^ g (b + n))
    rw [pg_sum_congr n (fun i hi => h i (by omega)), h n (by omega)]
theorem pg_num_congr {f g : Nat → Int32} {b i : Nat} (h : ∀ j, j < 48 → f (b + j) = g (b + j)) (hi : i + 3 < 48) : pg_num f (b + i) = pg_num g (b + i) := by
  unfold pg_num
  rw [h i (by omega), show b + i + 1 = b + (i + 1) by omega, show b + i + 2 = b + (i + 2) by omega, show b + i + 3 = b + (i + 3) by omega, h (i + 1) (by omega), h (i + 2) (by omega), h (i + 3) (by omega)]
theorem pg_ok_congr {f g : Nat → Int32} {a b i n : Nat} (h : ∀ j, j < 48 → f (b + j) = g (b + j)) (hi : i + n ≤ 48) : pg_ok f a (b + i) n ↔ pg_ok g a (b + i) n := by
  unfold pg_ok
  constructor
  · intro q j hj
    have := q j hj
    rw [Nat.add_assoc, h (i + j) (by omega)] at this
    rw [Nat.add_assoc]; exact this
  · intro q j hj
    have := q j hj
    rw [Nat.add_assoc, ← h (i + j) (by omega)] at this
    rw [Nat.add_assoc]; exact this
theorem pg_right_congr {f g : Nat → Int32} {a q : Nat} {k : Int32} (h : ∀ j, j < 48 → f (q * 48 + j) = g (q * 48 + j)) : pg_right f a q k ↔ pg_right g a q k := by
  have e1 := h 0 (by omega)
  have e2 := pg_num_congr (i := 44) h (by omega)
  have e3 := pg_sum_congr (f := f) (g := g) (b := q * 48) 44 (fun i hi => h i (by omega))
  have e4 := pg_num_congr (i := 1) h (by omega)
  have e5 := pg_num_congr (i := 5) h (by omega)
  have e6 := pg_ok_congr (a := a) (i := 9) (n := 32) h (by omega)
  have e7 := pg_ok_congr (a := a) (i := 2) (n := 32) h (by omega)
  have e8 := h 3 (by omega)
  unfold pg_right pg_kind pg_vers
  rw [e1, e2, e3, e4, e5, e8, propext e6, propext e7]
/-- what a right root tells of versions -/
theorem vers_nv {f : Nat → Int32} {a q : Nat} (h : pg_right f a q 1) (hq : q < 2 ^ 31) : pg_num f (q * 48 + 1) = nI (nv (pg_num f (q * 48 + 1))) ∧ 1 ≤ nv (pg_num f (q * 48 + 1)) ∧ nv (pg_num f (q * 48 + 1)) ≤ 1000000 ∧ nv (pg_num f (q * 48 + 1)) % 8 = q ∧ pg_num f (q * 48 + 5) = nI (nv (pg_num f (q * 48 + 5))) ∧ 1 ≤ nv (pg_num f (q * 48 + 5)) ∧ nv (pg_num f (q * 48 + 5)) ≤ nv (pg_num f (q * 48 + 1)) ∧ nv (pg_num f (q * 48 + 1)) ≤ nv (pg_num f (q * 48 + 5)) + 7 := by
  obtain ⟨h1, h2, h3, h4, h5, h6⟩ := (h.2.2.1 rfl).1
  generalize pg_num f (q * 48 + 1) = x at *
  generalize pg_num f (q * 48 + 5) = y at *
  have hx : ¬ x < 0 := fun e => h1 (Int32.lt_trans e (by decide))
  have hy : ¬ y < 0 := fun e => h4 (Int32.lt_trans e (by decide))
  obtain ⟨u, hu, rfl⟩ := nI_of hx
  obtain ⟨v, hv, rfl⟩ := nI_of hy
  rw [nv_nI hu, nv_nI hv]
  have g1 : ¬ u < 1 := fun e => h1 ((nI_ltI (a := u) (b := 1) hu (by omega)).mpr e)
  have g2 : ¬ 1000000 < u := fun e => h2 ((nI_ltI (a := 1000000) (b := u) (by omega) hu).mpr e)
  have g4 : ¬ v < 1 := fun e => h4 ((nI_ltI (a := v) (b := 1) hv (by omega)).mpr e)
  have g5 : ¬ u < v := fun e => h5 ((nI_ltI (a := u) (b := v) hu hv).mpr e)
  have g3 : u % 8 = q := by
    have e : nI u - nI u / nI 8 * nI 8 = nI (u % 8) := pk_rem hu (by omega) (by omega)
    have e2 : nI (u % 8) = nI q := e.symm.trans h3
    exact (nI_eq (by omega) hq).mp e2
  have g6 : ¬ v + 7 < u := by
    intro e
    refine h6 (Int32.lt_iff_toInt_lt.mpr ?_)
    have e1 : (nI u - 7).toInt = (u : Int) - 7 := pk_sub_toInt (a := u) (b := 7) (by omega) (by omega)
    rw [e1, nI_toInt hv]
    omega
  exact ⟨rfl, by omega, by omega, g3, rfl, by omega, by omega, by omega⟩
/-- a page found by looking a key up -/
theorem ptg_page {f : Nat → Int32} {a v k : Nat} (ha : a ≤ 120) (h0 : 0 < a) (hk : k < 1024) (h : ¬ ptg f a v k < 0) : ptg f a v k = nI (nv (ptg f a v k)) ∧ nv (ptg f a v k) < a ∧ pg_right f a (nv (ptg f a v k)) 3 := by
  unfold ptg at h ⊢
  by_cases h1 : pg_right f a (v % 8) 1
  · rw [ifp_t h1] at h ⊢
    by_cases h2 : f (v % 8 * 48 + (9 + k / 32)) = 0
    · rw [ifp_t h2] at h; exact absurd (by decide) h
    · rw [ifp_f h2] at h ⊢
      by_cases h3 : pg_right f a (nv (f (v % 8 * 48 + (9 + k / 32)))) 2
      · rw [ifp_t h3] at h ⊢
        have e1 := nd_nv (i := k % 32) h3 ha h0 (by omega)
        by_cases h4 : f (nv (f (v % 8 * 48 + (9 + k / 32))) * 48 + (2 + k % 32)) = 0
        · rw [ifp_t h4] at h; exact absurd (by decide) h
        · rw [ifp_f h4] at h ⊢
          by_cases h5 : pg_right f a (nv (f (nv (f (v % 8 * 48 + (9 + k / 32))) * 48 + (2 + k % 32)))) 3
          · rw [ifp_t h5]
            exact ⟨e1.1, e1.2.1, h5⟩
          · rw [ifp_f h5] at h; exact absurd (by decide) h
      · rw [ifp_f h3] at h; exact absurd (by decide) h
  · rw [ifp_f h1] at h; exact absurd (by decide) h
theorem lku_page {O : Prop} {f : Nat → Int32} {a ol nw : Nat} {x y : Int32} (ha : a ≤ 120) (h0 : 0 < a) (h : ¬ lku O f a ol nw x y < 0) : lku O f a ol nw x y = nI (nv (lku O f a ol nw x y)) ∧ nv (lku O f a ol nw x y) < a ∧ pg_right f a (nv (lku O f a ol nw x y)) 3 := by
  unfold lku at h ⊢
  by_cases h1 : O
  · rw [ifp_t h1] at h; exact absurd (by decide) h
  · rw [ifp_f h1] at h ⊢
    by_cases h2 : kp ol nw x ∧ ky y
    · rw [ifp_t h2] at h ⊢
      obtain ⟨k, hk, rfl⟩ := ky_nat h2.2
      rw [nv_nI (by omega)] at h ⊢
      exact ptg_page ha h0 hk h
    · rw [ifp_f h2] at h; exact absurd (by decide) h
theorem th_len {f : Nat → Int32} {a q : Nat} (h : pg_right f a q 3) : ¬ 32 < f (q * 48 + 3) := h.2.2.2.2 (by decide) (by decide)
theorem fi_lt {j : Nat} {x : Int32} (hj : j < 2 ^ 31) (h : nI j < x) (h2 : ¬ 32 < x) : j < 32 := by
  refine Nat.lt_of_not_le fun e => h2 (Int32.lt_of_le_of_lt ?_ h)
  exact (nI_leI (a := 32) (b := j) (by omega) hj).mpr e
