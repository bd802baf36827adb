/-! what a written page leaves as it was -/
theorem upd_o {f : Nat → Int32} {k j : Nat} {x : Int32} (h : j ≠ k) : upd f k x j = f j := pk_un h
theorem setn_o {f : Nat → Int32} {k j : Nat} {x : Int32} (h : j < k ∨ k + 3 < j) : pg_setn f k x j = f j := by
  unfold pg_setn
  rw [upd_o (by omega), upd_o (by omega), upd_o (by omega), upd_o (by omega)]
theorem seal_o {f : Nat → Int32} {q p j : Nat} (h : p ≠ q) (hj : j < 48) : pg_seal f q (p * 48 + j) = f (p * 48 + j) := by
  unfold pg_seal
  exact setn_o (by omega)
theorem begin_o {f : Nat → Int32} {q p j : Nat} {k : Int32} (h : p ≠ q) (hj : j < 48) : pg_begin f q k (p * 48 + j) = f (p * 48 + j) := by
  unfold pg_begin
  rw [upd_o (by omega)]
  unfold pg_fill
  rw [if_neg (by omega)]
theorem wts_o {f t : Nat → Int32} {q p j : Nat} (h : p ≠ q) (hj : j < 48) : ∀ n, n ≤ 32 → wt_set f q t n (p * 48 + j) = f (p * 48 + j)
  | 0, _ => rfl
  | n + 1, hn => by
    show upd (wt_set f q t n) (q * 48 + (4 + n)) (t n) (p * 48 + j) = _
    rw [upd_o (by omega)]
    exact wts_o h hj n (by omega)
theorem wt_o {f t : Nat → Int32} {q k tc p j : Nat} (htc : tc ≤ 32) (h : p ≠ q) (hj : j < 48) : wt f q k t tc (p * 48 + j) = f (p * 48 + j) := by
  unfold wt
  rw [seal_o h hj, wts_o h hj tc htc, upd_o (by omega), upd_o (by omega), upd_o (by omega), begin_o h hj]
theorem hh_put {f t : Nat → Int32} {a o nw q k tc : Nat} (ha : a ≤ 120) (h8 : 12 ≤ a) (htc : tc ≤ 32) (h : fd (fun p => ¬ wk_marks f a o (nw + 1 - o) p &&& 1 = 0) a 0 = -1) (hon : nw = 0 ∨ o ≤ nw) (hq : 8 ≤ q) : nw = 0 ∨ pg_right (wt f q k t tc) a (nw % 8) 1 := by
  rcases hon with e | e
  · exact Or.inl e
  · exact Or.inr ((pg_right_congr (fun j hj => wt_o htc (by omega) hj)).mpr (wk_root ha h8 h e (Nat.le_refl _)))
theorem hh_rem {f : Nat → Int32} {a o nw : Nat} (ha : a ≤ 120) (h8 : 12 ≤ a) (h : fd (fun p => ¬ wk_marks f a o (nw + 1 - o) p &&& 1 = 0) a 0 = -1) (hon : nw = 0 ∨ o ≤ nw) : nw = 0 ∨ pg_right f a (nw % 8) 1 := by
  rcases hon with e | e
  · exact Or.inl e
  · exact Or.inr (wk_root ha h8 h e (Nat.le_refl _))
theorem fr_some {f : Nat → Int32} {a ol nw n : Nat} (ha : a ≤ 120) (hn : n ≤ a) (h : ¬ fr f a ol nw n = -1) : fr f a ol nw n = nI (nv (fr f a ol nw n)) ∧ n ≤ nv (fr f a ol nw n) ∧ nv (fr f a ol nw n) < a ∧ wk_marks f a ol (nw + 1 - ol) (nv (fr f a ol nw n)) = 0 := by
  unfold fr at h ⊢
  have g := fd_some (by omega) h
  exact ⟨g.1, g.2.1, by have := g.2.2.1; omega, g.2.2.2⟩
theorem fr2_some {f : Nat → Int32} {a ol nw : Nat} (ha : a ≤ 120) (h8 : 12 ≤ a) (h1 : ¬ fr f a ol nw 8 = -1) (h : ¬ fr2 f a ol nw = -1) : fr2 f a ol nw = nI (nv (fr2 f a ol nw)) ∧ nv (fr f a ol nw 8) + 1 ≤ nv (fr2 f a ol nw) ∧ nv (fr2 f a ol nw) < a ∧ wk_marks f a ol (nw + 1 - ol) (nv (fr2 f a ol nw)) = 0 := by
  have e : fr2 f a ol nw = fr f a ol nw (nv (fr f a ol nw 8) + 1) := ifp_f h1
  have g := fr_some ha (by omega) h1
  rw [e] at h ⊢
  exact fr_some ha (by have := g.2.2.1; omega) h
/-- the node of the newest version -/
theorem had_nv {f : Nat → Int32} {a nw n : Nat} (ha : a ≤ 120) (h0 : 0 < a) (hn : n < 32) (hh : nw = 0 ∨ pg_right f a (nw % 8) 1) (h : ¬ had f nw n = 0) : had f nw n = nI (nv (had f nw n)) ∧ nv (had f nw n) < a ∧ 8 ≤ nv (had f nw n) := by
  unfold had at h ⊢
  by_cases e : nw = 0
  · rw [if_pos e] at h; exact absurd rfl h
  · rw [if_neg e] at h ⊢
    have g := rt_nv (i := n) (hh.resolve_left e) ha h0 hn
    exact ⟨g.1, g.2.1, g.2.2.resolve_left h⟩
