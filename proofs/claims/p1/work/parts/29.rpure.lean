/-! the reference's own ways to the same words -/
theorem sh24 (x : Int32) : (x >>> ((24 : Int32) &&& 31)) &&& 255 = pg_us x 24 := by
  refine b_ext fun i hi => ?_
  rw [b_and, b_255, show bt (x >>> ((24 : Int32) &&& 31)) i = _ from b_sshr 24 (by omega) x hi, show bt (pg_us x 24) i = _ from b_ushr 24 (by omega) x i]
  rcases Nat.lt_or_ge i 8 with h | h
  · rw [if_pos (by omega), decide_eq_true h, Bool.and_true]
  · rw [decide_eq_false (by omega), Bool.and_false, b_big (by omega)]
theorem sh16 (x : Int32) : (x >>> ((16 : Int32) &&& 31)) &&& 255 = pg_us x 16 &&& 255 := by
  refine b_ext fun i hi => ?_
  rw [b_and, b_and, b_255, show bt (x >>> ((16 : Int32) &&& 31)) i = _ from b_sshr 16 (by omega) x hi, show bt (pg_us x 16) i = _ from b_ushr 16 (by omega) x i]
  rcases Nat.lt_or_ge i 8 with h | h
  · rw [if_pos (by omega)]
  · rw [decide_eq_false (by omega), Bool.and_false, Bool.and_false]
theorem sh8 (x : Int32) : (x >>> ((8 : Int32) &&& 31)) &&& 255 = pg_us x 8 &&& 255 := by
  refine b_ext fun i hi => ?_
  rw [b_and, b_and, b_255, show bt (x >>> ((8 : Int32) &&& 31)) i = _ from b_sshr 8 (by omega) x hi, show bt (pg_us x 8) i = _ from b_ushr 8 (by omega) x i]
  rcases Nat.lt_or_ge i 8 with h | h
  · rw [if_pos (by omega)]
  · rw [decide_eq_false (by omega), Bool.and_false, Bool.and_false]
theorem putn_eq (f : Nat → Int32) (b i : Nat) (x : Int32) : upd (upd (upd (upd f (b + (i + 0)) ((x >>> ((24 : Int32) &&& 31)) &&& 255)) (b + (i + 1)) ((x >>> ((16 : Int32) &&& 31)) &&& 255)) (b + (i + 2)) ((x >>> ((8 : Int32) &&& 31)) &&& 255)) (b + (i + 3)) ((x >>> ((0 : Int32) &&& 31)) &&& 255) = pg_setn f (b + i) x := by
  rw [sh24, sh16, sh8, sb_shr0]
  rfl
theorem ok_s {f : Nat → Int32} {a b i : Nat} (h : pg_ok f a b i) (h2 : pg_one (f (b + i)) a) : pg_ok f a b (i + 1) := fun j hj => by
  rcases Nat.lt_or_ge j i with g | g
  · exact h j g
  · rw [show j = i by omega]; exact h2
theorem ok_w {f : Nat → Int32} {a b i : Nat} (h : pg_ok f a b (i + 1)) : pg_ok f a b i ∧ pg_one (f (b + i)) a := ⟨fun j hj => h j (by omega), h i (by omega)⟩
theorem ok_0 (f : Nat → Int32) (a b : Nat) : pg_ok f a b 0 := fun j hj => absurd hj (Nat.not_lt_zero j)
noncomputable def rc_b (f : Nat → Int32) (a q : Nat) (k bd : Int32) : Int32 := ifp (¬ pg_right f a q k ∧ (bd = -1 ∨ nI q < bd)) (nI q) bd
abbrev RS : Type := (Nat → Int32) × Int32
noncomputable def rc1 (f : Nat → Int32) (a q : Nat) (k : Int32) (S : RS) : RS := (upd S.1 q 1, rc_b f a q k S.2)
noncomputable def rcT (f : Nat → Int32) (a b : Nat) (S : RS) : Nat → RS
  | 0 => S
  | i + 1 => ifp (f (b + i) = 0) (rcT f a b S i) (rc1 f a (nv (f (b + i))) 3 (rcT f a b S i))
noncomputable def rnd (f : Nat → Int32) (a q : Nat) (S : RS) : RS := ifp (pg_right f a q 2) (rcT f a (q * 48 + 2) (rc1 f a q 2 S) 32) (rc1 f a q 2 S)
noncomputable def rcN (f : Nat → Int32) (a b : Nat) (S : RS) : Nat → RS
  | 0 => S
  | i + 1 => ifp (f (b + i) = 0) (rcN f a b S i) (rnd f a (nv (f (b + i))) (rcN f a b S i))
noncomputable def rro (f : Nat → Int32) (a q : Nat) (S : RS) : RS := ifp (pg_right f a q 1) (rcN f a (q * 48 + 9) (rc1 f a q 1 S) 32) (rc1 f a q 1 S)
noncomputable def rcA (f : Nat → Int32) (a o : Nat) (S : RS) : Nat → RS
  | 0 => S
  | j + 1 => rro f a ((o + j) % 8) (rcA f a o S j)
def clr (z : Nat → Int32) (i : Nat) : Nat → Int32 := fun p => if p < i then 0 else z p
theorem clr_0 (z : Nat → Int32) : z = clr z 0 := by funext p; unfold clr; rw [if_neg (by omega)]
theorem clr_s (z : Nat → Int32) (i : Nat) : upd (clr z i) i 0 = clr z (i + 1) := by
  funext p
  unfold upd clr
  by_cases h : p = i
  · rw [if_pos h, if_pos (by omega)]
  · rw [if_neg h]
    by_cases h2 : p < i
    · rw [if_pos h2, if_pos (by omega)]
    · rw [if_neg h2, if_neg (by omega)]
/-- reachAll over the versions o .. o + n - 1 -/
noncomputable def rall (f : Nat → Int32) (a o n : Nat) (z : Nat → Int32) : RS := rcA f a o (clr z a, -1) n
theorem cpy_0 (f : Nat → Int32) (q r : Nat) : f = va_cpy f f q r 0 := by funext j; unfold va_cpy; rw [if_neg (by omega)]
theorem cpy_s (f : Nat → Int32) (q r i : Nat) : upd (va_cpy f f q r i) (r + i) (f (q + i)) = va_cpy f f q r (i + 1) := by
  funext j
  unfold upd va_cpy
  by_cases h : j = r + i
  · rw [if_pos h, if_pos (by omega), show j - r = i by omega]
  · rw [if_neg h]
    by_cases h2 : r ≤ j ∧ j < r + i
    · rw [if_pos h2, if_pos (by omega)]
    · rw [if_neg h2, if_neg (by omega)]
theorem cpy_o {f : Nat → Int32} {q r i j : Nat} (h : j < r ∨ r + i ≤ j) : va_cpy f f q r i j = f j := pk_cpy_out h
def dn_O (O : Prop) (lf : Int32) : Prop := pw_left lf = 0 ∨ O
noncomputable def dn_lf (lf : Int32) : Int32 := ifp (pw_left lf = 0) (-1) (pw_left lf)
noncomputable def dn_tc (lf : Int32) (tc : Nat) : Nat := ifp (pw_left lf = 0) 0 tc
