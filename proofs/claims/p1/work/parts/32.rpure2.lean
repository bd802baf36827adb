theorem and255 {n : Nat} (h : n < 256) : nI n &&& 255 = nI n := by
  have e := pk_andN (n := n) (by omega) (m := 255) 8 (by decide)
  rw [e, Nat.mod_eq_of_lt (by omega)]
theorem and255m (n : Nat) (h : n < 2 ^ 32) : nI n &&& 255 = nI (n % 256) := pk_andN h (m := 255) 8 (by decide)
theorem shr8 {n : Nat} (h : n < 65536) : (nI n >>> ((8 : Int32) &&& 31)) &&& 255 = nI (n / 256) := by
  have e : nI n >>> ((8 : Int32) &&& 31) = nI (n / 2 ^ 8) := pk_shrN (n := n) (by omega) ((8 : Int32) &&& 31) 8 (by decide)
  rw [e]
  exact and255 (by omega)
theorem ot_le {ol v : Nat} (h1 : ol < 2 ^ 30) (h2 : v < 2 ^ 30) (h : nI ol ≤ nI v - 7) : nI v - 7 = nI (max ol (v - 7)) := by
  have e : (nI v - 7).toInt = (v : Int) - 7 := pk_sub_toInt (a := v) (b := 7) h2 (by omega)
  have h3 := Int32.le_iff_toInt_le.mp h
  rw [e, nI_toInt (by omega)] at h3
  rw [show max ol (v - 7) = v - 7 by omega]
  exact pk_sub (a := v) (b := 7) (by omega)
theorem ot_gt {ol v : Nat} (h1 : ol < 2 ^ 30) (h2 : v < 2 ^ 30) (h : ¬ nI ol ≤ nI v - 7) : nI ol = nI (max ol (v - 7)) := by
  have e : (nI v - 7).toInt = (v : Int) - 7 := pk_sub_toInt (a := v) (b := 7) h2 (by omega)
  have h3 : ¬ (nI ol).toInt ≤ (nI v - 7).toInt := fun q => h (Int32.le_iff_toInt_le.mpr q)
  rw [e, nI_toInt (by omega)] at h3
  rw [show max ol (v - 7) = ol by omega]
def byt (f : Nat → Int32) (a : Nat) : Prop := ∀ j, j < a * 48 → f j &&& 255 = f j
theorem byt_pg {f : Nat → Int32} {a q : Nat} (h : byt f a) (hq : q < a) : ∀ j, j < 48 → f (q * 48 + j) &&& 255 = f (q * 48 + j) := fun j hj => h _ (by omega)
theorem cpy_pg {f : Nat → Int32} {q r p j : Nat} (h : p ≠ r) (hj : j < 48) : va_cpy f f (q * 48) (r * 48) 48 (p * 48 + j) = f (p * 48 + j) := cpy_o (by omega)
theorem wn_o {f : Nat → Int32} {q k nw p j : Nat} {x : Int32} (h : p ≠ q) (hj : j < 48) : wn f q k x nw (p * 48 + j) = f (p * 48 + j) := by
  unfold wn
  rw [seal_o h hj, upd_o (by omega), upd_o (by omega)]
  by_cases e : had f nw (k / 32) = 0
  · rw [ifp_t e, begin_o h hj]
  · rw [ifp_f e, cpy_pg h hj]
theorem wn_by {f : Nat → Int32} {a q k nw p : Nat} {x : Int32} (hb : byt f a) (h : p ≠ q) (hp : p < a) : ∀ j, j < 48 → wn f q k x nw (p * 48 + j) &&& 255 = wn f q k x nw (p * 48 + j) := fun j hj => by
  rw [wn_o h hj]
  exact byt_pg hb hp j hj
/-- what change() answers and does -/
abbrev SR : Type := Int32 × (Nat → Int32) × Prop × Int32 × Int32 × Nat × Nat × Nat
noncomputable def sp_ch (f : Nat → Int32) (O : Prop) (lf us : Int32) (tc nw ol k q : Nat) (x : Int32) : SR :=
  ifp (dn_O O lf) (-3, wn f q k x nw, dn_O O lf, dn_lf lf, us + 1, dn_tc lf tc, nw, ol)
    (ifp (dn_O (dn_O O lf) (dn_lf lf)) (-3, wr (wn f q k x nw) (nw + 1) (max ol (nw + 1 - 7)) (k / 32) (nI q) nw, dn_O (dn_O O lf) (dn_lf lf), dn_lf (dn_lf lf), us + 1 + 1, dn_tc (dn_lf lf) (dn_tc lf tc), nw, ol)
      (nI (nw + 1), wr (wn f q k x nw) (nw + 1) (max ol (nw + 1 - 7)) (k / 32) (nI q) nw, dn_O (dn_O O lf) (dn_lf lf), dn_lf (dn_lf lf), us + 1 + 1, dn_tc (dn_lf lf) (dn_tc lf tc), nw + 1, max ol (nw + 1 - 7)))
theorem dn_tc_le {lf : Int32} {tc : Nat} (h : tc ≤ 32) : dn_tc lf tc ≤ 32 := by
  by_cases e : pw_left lf = 0
  · rw [dn_tc, ifp_t e]; omega
  · rw [dn_tc, ifp_f e]; exact h
/-! next(), key by key -/
noncomputable def nk (f : Nat → Int32) (a r k : Nat) : Int32 := nxt f a r (32 - k / 32) (k / 32) (k % 32)
theorem nk_s {f : Nat → Int32} {a r k : Nat} (hk : k < 1024) (h : nth f a (nv (f (r * 48 + (9 + k / 32)))) (k % 32) = nth f a (nv (f (r * 48 + (9 + k / 32)))) (k % 32 + 1)) (h31 : nth f a (nv (f (r * 48 + (9 + k / 32)))) 32 = -1) : nk f a r k = nk f a r (k + 1) := by
  unfold nk
  rcases Nat.lt_or_ge (k % 32) 31 with g | g
  · have e1 : (k + 1) / 32 = k / 32 := by omega
    have e2 : (k + 1) % 32 = k % 32 + 1 := by omega
    rw [e1, e2, show 32 - k / 32 = (32 - (k / 32 + 1)) + 1 by omega, nxt, nxt, h]
  · have e1 : (k + 1) / 32 = k / 32 + 1 := by omega
    have e2 : (k + 1) % 32 = 0 := by omega
    rw [e1, e2]
    exact nxt_1 (by omega) (by rw [h, show k % 32 + 1 = 32 by omega]; exact h31)
theorem nth_0 (f : Nat → Int32) (a j : Nat) : nth f a 0 j = -1 := ifp_t rfl
theorem nth_r {f : Nat → Int32} {a q j : Nat} (h0 : ¬ q = 0) (hr : pg_right f a q 2) : nth f a q j = fd (fun i => ¬ f (q * 48 + (2 + i)) = 0) (32 - j) j := by unfold nth; rw [ifp_f h0, ifp_t hr]
theorem nk_0 {f : Nat → Int32} {a r k : Nat} (hk : k < 1024) (h : nv (f (r * 48 + (9 + k / 32))) = 0) : nk f a r k = nk f a r (k + 1) := nk_s hk (by rw [h, nth_0, nth_0]) (by rw [h, nth_0])
theorem nk_4 {f : Nat → Int32} {a r k : Nat} (hk : k < 1024) (h : ¬ nv (f (r * 48 + (9 + k / 32))) = 0) (hr : ¬ pg_right f a (nv (f (r * 48 + (9 + k / 32)))) 2) : nk f a r k = -4 := by
  have e : nth f a (nv (f (r * 48 + (9 + k / 32)))) (k % 32) = -4 := by unfold nth; rw [ifp_f h, ifp_f hr]
  unfold nk
  exact nxt_4 (by omega) (by rw [e]; decide) e
theorem nk_t {f : Nat → Int32} {a r k : Nat} (hk : k < 1024) (h : ¬ nv (f (r * 48 + (9 + k / 32))) = 0) (hr : pg_right f a (nv (f (r * 48 + (9 + k / 32)))) 2) (hb : ¬ f (nv (f (r * 48 + (9 + k / 32))) * 48 + (2 + k % 32)) = 0) : nk f a r k = nI k := by
  have e : nth f a (nv (f (r * 48 + (9 + k / 32)))) (k % 32) = nI (k % 32) := by
    rw [nth_r h hr]
    exact fd_t' (P := fun i => ¬ f (nv (f (r * 48 + (9 + k / 32))) * 48 + (2 + i)) = 0) hb (by omega)
  unfold nk
  rw [nxt_t (by omega) (by rw [e]; exact nI_nm1 (by omega)) (by rw [e]; exact fun q => by have := nI_pos (n := k % 32) (by omega); rw [q] at this; exact this (by decide)), e, nI_add, show k / 32 * 32 + k % 32 = k by omega]
theorem nk_n {f : Nat → Int32} {a r k : Nat} (hk : k < 1024) (h : ¬ nv (f (r * 48 + (9 + k / 32))) = 0) (hr : pg_right f a (nv (f (r * 48 + (9 + k / 32)))) 2) (hb : f (nv (f (r * 48 + (9 + k / 32))) * 48 + (2 + k % 32)) = 0) : nk f a r k = nk f a r (k + 1) := by
  refine nk_s hk ?_ ?_
  · rw [nth_r h hr, nth_r h hr]
    exact fd_n' (P := fun i => ¬ f (nv (f (r * 48 + (9 + k / 32))) * 48 + (2 + i)) = 0) (fun q => q hb) (by omega)
  · rw [nth_r h hr]; rfl
noncomputable def sp_crR (O : Prop) (lf : Int32) (tc : Nat) (x : Int32) : Int32 × Prop × Int32 × Nat :=
  ifp O (-5, O, lf, tc) (ifp (x < -1 ∨ 1000 < x) (-2, O, lf, tc) (ifp (x = 0) (1, True, -1, 0) (1, O, x, tc)))
noncomputable def sp_pkR (f : Nat → Int32) (a : Nat) (x y z : Int32) : Int32 × (Nat → Int32) :=
  ifp (hs a x y ∧ ¬ z < 1 ∧ ¬ 255 < z) ((f (nv x * 48 + nv y) ^^^ z) &&& 255, upd f (nv x * 48 + nv y) ((f (nv x * 48 + nv y) ^^^ z) &&& 255)) (-2, f)
noncomputable def ks_R (f : Nat → Int32) (a nw ol : Nat) : Nat := ifp (ol ≤ nw ∧ pg_right f a (nw % 8) 1) (ks_sum f a (nw % 8) 32) 0
noncomputable def sp_bdR (O : Prop) (f : Nat → Int32) (a ol nw : Nat) (z : Nat → Int32) (bd : Int32) : Int32 × (Nat → Int32) × Int32 :=
  ifp O (-5, z, bd) ((rall f a ol (nw + 1 - ol) z).2, (rall f a ol (nw + 1 - ol) z).1, (rall f a ol (nw + 1 - ol) z).2)
noncomputable def fp_R (f : Nat → Int32) (a ol nw : Nat) (z : Nat → Int32) : Nat := ct_of_P (fun p => (rall f a ol (nw + 1 - ol) z).1 p = 0) 8 (a - 8)
noncomputable def sp_cnR (O : Prop) (f : Nat → Int32) (a tc ol nw : Nat) (z : Nat → Int32) (bd x : Int32) : Int32 × (Nat → Int32) × Int32 :=
  ifp O (-5, z, bd) (ifp (x = 0) (nI nw, z, bd) (ifp (x = 1) (nI ol, z, bd) (ifp (x = 2) (nI (fp_R f a ol nw z), (rall f a ol (nw + 1 - ol) z).1, (rall f a ol (nw + 1 - ol) z).2) (ifp (x = 3) (nI (ks_R f a nw ol), z, bd) (ifp (x = 4) (nI tc, z, bd) (-2, z, bd))))))
