noncomputable def ifp {α : Type} (P : Prop) (x y : α) : α := @ite α P (Classical.propDecidable P) x y
theorem ifp_t {α : Type} {P : Prop} {x y : α} (h : P) : ifp P x y = x := by unfold ifp; exact if_pos h
theorem ifp_f {α : Type} {P : Prop} {x y : α} (h : ¬ P) : ifp P x y = y := by unfold ifp; exact if_neg h
def kp (ol nw : Nat) (v : Int32) : Prop := ¬ v < nI ol ∧ ¬ nI nw < v
def ky (x : Int32) : Prop := ¬ x < 0 ∧ ¬ 1024 ≤ x
theorem ky_nat {x : Int32} (h : ky x) : ∃ k : Nat, k < 1024 ∧ x = nI k := by
  obtain ⟨j, hj, rfl⟩ := nI_of h.1
  exact ⟨j, Nat.lt_of_not_le fun q => h.2 ((nI_leI (a := 1024) (b := j) (by omega) hj).mpr q), rfl⟩
theorem kp_nat {ol nw : Nat} {x : Int32} (h : kp ol nw x) (h1 : ol < 2 ^ 31) (h2 : nw < 2 ^ 31) : ∃ v : Nat, ol ≤ v ∧ v ≤ nw ∧ x = nI v := by
  have h0 : ¬ x < 0 := fun q => h.1 (Int32.lt_of_lt_of_le q (nI_pos' h1))
  obtain ⟨j, hj, rfl⟩ := nI_of h0
  exact ⟨j, Nat.le_of_not_lt fun q => h.1 ((nI_ltI hj h1).mpr q), Nat.le_of_not_lt fun q => h.2 ((nI_ltI h2 hj).mpr q), rfl⟩
/-- what a change or drop() is refused with -/
noncomputable def rwr (O B : Prop) (f : Nat → Int32) (a ol nw : Nat) : Int32 := ifp O (-5) (ifp B (ifp (fd (fun p => ¬ wk_marks f a ol (nw + 1 - ol) p &&& 1 = 0) a 0 = -1) 0 (-4)) (-2))
noncomputable def rwm (O B : Prop) (M f : Nat → Int32) (a ol nw : Nat) : Nat → Int32 := ifp (¬ O ∧ B) (wk_marks f a ol (nw + 1 - ol)) M
noncomputable def rrd (O : Prop) (ol nw : Nat) (x y : Int32) : Int32 := ifp O (-5) (ifp (kp ol nw x ∧ ky y) 0 (-2))
theorem rwr_0 {O B : Prop} {f : Nat → Int32} {a ol nw : Nat} (h : rwr O B f a ol nw = 0) : ¬ O ∧ B ∧ fd (fun p => ¬ wk_marks f a ol (nw + 1 - ol) p &&& 1 = 0) a 0 = -1 := by
  unfold rwr at h
  by_cases h1 : O
  · rw [ifp_t h1] at h; exact absurd h (by decide)
  · rw [ifp_f h1] at h
    by_cases h2 : B
    · rw [ifp_t h2] at h
      by_cases h3 : fd (fun p => ¬ wk_marks f a ol (nw + 1 - ol) p &&& 1 = 0) a 0 = -1
      · exact ⟨h1, h2, h3⟩
      · rw [ifp_f h3] at h; exact absurd h (by decide)
    · rw [ifp_f h2] at h; exact absurd h (by decide)
theorem rrd_0 {O : Prop} {ol nw : Nat} {x y : Int32} (h : rrd O ol nw x y = 0) : ¬ O ∧ kp ol nw x ∧ ky y := by
  unfold rrd at h
  by_cases h1 : O
  · rw [ifp_t h1] at h; exact absurd h (by decide)
  · rw [ifp_f h1] at h
    by_cases h2 : kp ol nw x ∧ ky y
    · exact ⟨h1, h2⟩
    · rw [ifp_f h2] at h; exact absurd h (by decide)
theorem rrd_n {O : Prop} {ol nw : Nat} {x y : Int32} (h : ¬ rrd O ol nw x y = 0) : O ∨ ¬ (kp ol nw x ∧ ky y) := by
  by_cases h1 : O
  · exact Or.inl h1
  · refine Or.inr fun h2 => h ?_
    unfold rrd
    rw [ifp_f h1, ifp_t h2]
/-- the page of key k's thing at version v -/
noncomputable def ptg (f : Nat → Int32) (a v k : Nat) : Int32 :=
  ifp (pg_right f a (v % 8) 1) (ifp (f (v % 8 * 48 + (9 + k / 32)) = 0) (-1)
    (ifp (pg_right f a (nv (f (v % 8 * 48 + (9 + k / 32)))) 2) (ifp (f (nv (f (v % 8 * 48 + (9 + k / 32))) * 48 + (2 + k % 32)) = 0) (-1)
      (ifp (pg_right f a (nv (f (nv (f (v % 8 * 48 + (9 + k / 32))) * 48 + (2 + k % 32)))) 3) (f (nv (f (v % 8 * 48 + (9 + k / 32))) * 48 + (2 + k % 32))) (-4))) (-4))) (-4)
noncomputable def lku (O : Prop) (f : Nat → Int32) (a ol nw : Nat) (x y : Int32) : Int32 := ifp O (-5) (ifp (kp ol nw x ∧ ky y) (ptg f a (nv x) (nv y)) (-2))
/-- a page that a right root or node tells -/
theorem rt_nv {f : Nat → Int32} {a q i : Nat} (h : pg_right f a q 1) (ha : a ≤ 120) (h0 : 0 < a) (hi : i < 32) : f (q * 48 + (9 + i)) = nI (nv (f (q * 48 + (9 + i)))) ∧ nv (f (q * 48 + (9 + i))) < a ∧ (f (q * 48 + (9 + i)) = 0 ∨ 8 ≤ nv (f (q * 48 + (9 + i)))) := by
  have h1 := (h.2.2.1 rfl).2 i hi
  rw [Nat.add_assoc] at h1
  exact pg_one_nv h1 ha h0
theorem nd_nv {f : Nat → Int32} {a q i : Nat} (h : pg_right f a q 2) (ha : a ≤ 120) (h0 : 0 < a) (hi : i < 32) : f (q * 48 + (2 + i)) = nI (nv (f (q * 48 + (2 + i)))) ∧ nv (f (q * 48 + (2 + i))) < a ∧ (f (q * 48 + (2 + i)) = 0 ∨ 8 ≤ nv (f (q * 48 + (2 + i)))) := by
  have h1 := h.2.2.2.1 rfl i hi
  rw [Nat.add_assoc] at h1
  exact pg_one_nv h1 ha h0
/-! pages written -/
def pg_seal (f : Nat → Int32) (q : Nat) : Nat → Int32 := pg_setn f (q * 48 + 44) (pg_sum f (q * 48) 44)
def wt_set (f : Nat → Int32) (q : Nat) (t : Nat → Int32) : Nat → Nat → Int32
  | 0 => f
  | i + 1 => upd (wt_set f q t i) (q * 48 + (4 + i)) (t i)
def wt (f : Nat → Int32) (q k : Nat) (t : Nat → Int32) (tc : Nat) : Nat → Int32 := pg_seal (wt_set (upd (upd (upd (pg_begin f q 3) (q * 48 + 1) (nI (k / 256))) (q * 48 + 2) (nI (k % 256))) (q * 48 + 3) (nI tc)) q t tc) q
def wr (f : Nat → Int32) (v o n : Nat) (x : Int32) (nw : Nat) : Nat → Int32 := pg_seal (upd (pg_setn (pg_setn (if nw = 0 then pg_begin f (v % 8) 1 else va_cpy f f (nw % 8 * 48) (v % 8 * 48) 48) (v % 8 * 48 + 1) (nI v)) (v % 8 * 48 + 5) (nI o)) (v % 8 * 48 + (9 + n)) x) (v % 8)
theorem ot_max {ol v : Nat} (h1 : ol < 2 ^ 30) (h2 : v < 2 ^ 30) : (if nI ol < nI v - 7 then nI v - 7 else nI ol) = nI (max ol (v - 7)) := by
  have e : (nI v - 7).toInt = (v : Int) - 7 := pk_sub_toInt (a := v) (b := 7) h2 (by omega)
  have e2 : (nI ol).toInt = (ol : Int) := nI_toInt (by omega)
  by_cases h : nI ol < nI v - 7
  · rw [if_pos h]
    have h3 := Int32.lt_iff_toInt_lt.mp h
    rw [e, e2] at h3
    rw [show max ol (v - 7) = v - 7 by omega]
    exact pk_sub (a := v) (b := 7) (by omega)
  · rw [if_neg h]
    have h3 : ¬ (nI ol).toInt < (nI v - 7).toInt := fun q => h (Int32.lt_iff_toInt_lt.mpr q)
    rw [e, e2] at h3
    rw [show max ol (v - 7) = ol by omega]
/-- how many keys -/
noncomputable def ks_sum (f : Nat → Int32) (a r : Nat) : Nat → Nat
  | 0 => 0
  | i + 1 => ks_sum f a r i + ifp (¬ f (r * 48 + (9 + i)) = 0 ∧ pg_right f a (nv (f (r * 48 + (9 + i)))) 2) (pg_told f (nv (f (r * 48 + (9 + i))) * 48 + 2) 32) 0
theorem pg_told_le (f : Nat → Int32) (b : Nat) : ∀ n, pg_told f b n ≤ n
  | 0 => Nat.le_refl _
  | n + 1 => by
    have h := pg_told_le f b n
    by_cases e : f (b + n) = 0
    · rw [pg_told_0 e]; omega
    · rw [pg_told_1 e]; omega
theorem ks_le (f : Nat → Int32) (a r : Nat) : ∀ n, ks_sum f a r n ≤ 32 * n
  | 0 => Nat.le_refl _
  | n + 1 => by
    have h := ks_le f a r n
    by_cases e : ¬ f (r * 48 + (9 + n)) = 0 ∧ pg_right f a (nv (f (r * 48 + (9 + n)))) 2
    · have h2 := pg_told_le f (nv (f (r * 48 + (9 + n))) * 48 + 2) 32
      rw [ks_sum, ifp_t e]; omega
    · rw [ks_sum, ifp_f e]; omega
theorem lku_n {O : Prop} {f : Nat → Int32} {a ol nw : Nat} {x y : Int32} (h : ¬ rrd O ol nw x y = 0) : rrd O ol nw x y = lku O f a ol nw x y := by
  unfold rrd at h ⊢
  unfold lku
  by_cases h1 : O
  · rw [ifp_t h1, ifp_t h1]
  · rw [ifp_f h1] at h ⊢
    rw [ifp_f h1]
    by_cases h2 : kp ol nw x ∧ ky y
    · rw [ifp_t h2] at h; exact absurd rfl h
    · rw [ifp_f h2, ifp_f h2]
