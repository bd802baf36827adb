/-! what a change writes at newest = 0, of a class that takes over the places alone -/
def pln (pl : Nat → Int32) (k : Nat) (x : Int32) : Nat → Int32 := upd (pg_fill pl 0 32 0) (k % 32) x
def wn0 (f pl : Nat → Int32) (q k : Nat) (x : Int32) : Nat → Int32 := pg_seal (va_cpy (pln pl k x) (upd (pg_begin f q 2) (q * 48 + 1) (nI (k / 32))) 0 (q * 48 + 2) 32) q
def wr0 (f pl : Nat → Int32) (v o : Nat) : Nat → Int32 := pg_seal (va_cpy pl (pg_setn (pg_setn (pg_begin f (v % 8) 1) (v % 8 * 48 + 1) (nI v)) (v % 8 * 48 + 5) (nI o)) 0 (v % 8 * 48 + 9) 32) (v % 8)
abbrev SV0 : Type := Int32 × (Nat → Int32) × (Nat → Int32) × Prop × Int32 × Int32 × Nat × Nat
noncomputable def sp_wv0 (f pl : Nat → Int32) (O : Prop) (lf us : Int32) (nw ol q k : Nat) (x : Int32) : SV0 :=
  ifp (pw_off O lf) (-3, wn0 f pl q k x, pln pl k x, pw_off O lf, pw_left lf, us + 1, nw, ol)
    (ifp (pw_off (pw_off O lf) (pw_left lf)) (-3, wr0 (wn0 f pl q k x) (upd (pg_fill (pln pl k x) 0 32 0) (k / 32) (nI q)) (nw + 1) (max ol (nw + 1 - 7)), upd (pg_fill (pln pl k x) 0 32 0) (k / 32) (nI q), pw_off (pw_off O lf) (pw_left lf), pw_left (pw_left lf), us + 1 + 1, nw, ol)
      (nI (nw + 1), wr0 (wn0 f pl q k x) (upd (pg_fill (pln pl k x) 0 32 0) (k / 32) (nI q)) (nw + 1) (max ol (nw + 1 - 7)), upd (pg_fill (pln pl k x) 0 32 0) (k / 32) (nI q), pw_off (pw_off O lf) (pw_left lf), pw_left (pw_left lf), us + 1 + 1, nw + 1, max ol (nw + 1 - 7)))
abbrev SP0 : Type := Int32 × (Nat → Int32) × (Nat → Int32) × Prop × Int32 × Int32 × Nat × Nat × Nat
noncomputable def sp_put0 (f pl : Nat → Int32) (O : Prop) (lf us : Int32) (t : Nat → Int32) (a tc nw ol : Nat) (x : Int32) : SP0 :=
  ifp (rwr O (ky x) f a ol nw = 0)
    (ifp (fr2 f a ol nw = -1 ∨ 1000000 ≤ nw) (-6, f, pl, O, lf, us, tc, nw, ol)
      (ifp (pw_off O lf) (-3, wt f (nv (fr f a ol nw 8)) (nv x) t tc, pl, pw_off O lf, pw_left lf, us + 1, 0, nw, ol)
        ((sp_wv0 (wt f (nv (fr f a ol nw 8)) (nv x) t tc) pl (pw_off O lf) (pw_left lf) (us + 1) nw ol (nv (fr2 f a ol nw)) (nv x) (nI (nv (fr f a ol nw 8)))).1, (sp_wv0 (wt f (nv (fr f a ol nw 8)) (nv x) t tc) pl (pw_off O lf) (pw_left lf) (us + 1) nw ol (nv (fr2 f a ol nw)) (nv x) (nI (nv (fr f a ol nw 8)))).2.1, (sp_wv0 (wt f (nv (fr f a ol nw 8)) (nv x) t tc) pl (pw_off O lf) (pw_left lf) (us + 1) nw ol (nv (fr2 f a ol nw)) (nv x) (nI (nv (fr f a ol nw 8)))).2.2.1, (sp_wv0 (wt f (nv (fr f a ol nw 8)) (nv x) t tc) pl (pw_off O lf) (pw_left lf) (us + 1) nw ol (nv (fr2 f a ol nw)) (nv x) (nI (nv (fr f a ol nw 8)))).2.2.2.1, (sp_wv0 (wt f (nv (fr f a ol nw 8)) (nv x) t tc) pl (pw_off O lf) (pw_left lf) (us + 1) nw ol (nv (fr2 f a ol nw)) (nv x) (nI (nv (fr f a ol nw 8)))).2.2.2.2.1, (sp_wv0 (wt f (nv (fr f a ol nw 8)) (nv x) t tc) pl (pw_off O lf) (pw_left lf) (us + 1) nw ol (nv (fr2 f a ol nw)) (nv x) (nI (nv (fr f a ol nw 8)))).2.2.2.2.2.1, 0, (sp_wv0 (wt f (nv (fr f a ol nw 8)) (nv x) t tc) pl (pw_off O lf) (pw_left lf) (us + 1) nw ol (nv (fr2 f a ol nw)) (nv x) (nI (nv (fr f a ol nw 8)))).2.2.2.2.2.2.1, (sp_wv0 (wt f (nv (fr f a ol nw 8)) (nv x) t tc) pl (pw_off O lf) (pw_left lf) (us + 1) nw ol (nv (fr2 f a ol nw)) (nv x) (nI (nv (fr f a ol nw 8)))).2.2.2.2.2.2.2)))
    (rwr O (ky x) f a ol nw, f, pl, O, lf, us, tc, nw, ol)
theorem wv0_ans {f : Nat → Int32} {O : Prop} {lf us : Int32} {nw ol q k : Nat} {x : Int32} (pl : Nat → Int32) : (sp_wv0 f pl O lf us nw ol q k x).1 = (sp_wv f O lf us nw ol q k x).1 := by
  unfold sp_wv0 sp_wv
  by_cases c1 : pw_off O lf
  · rw [ifp_t c1, ifp_t c1]
  · rw [ifp_f c1, ifp_f c1]
    by_cases c2 : pw_off (pw_off O lf) (pw_left lf)
    · rw [ifp_t c2, ifp_t c2]
    · rw [ifp_f c2, ifp_f c2]
theorem put0_ans {f t : Nat → Int32} {O : Prop} {lf us : Int32} {a tc nw ol : Nat} {x : Int32} (pl : Nat → Int32) : (sp_put0 f pl O lf us t a tc nw ol x).1 = (sp_put f O lf us t a tc nw ol x).1 := by
  unfold sp_put0 sp_put
  by_cases c1 : rwr O (ky x) f a ol nw = 0
  · rw [ifp_t c1, ifp_t c1]
    by_cases c2 : fr2 f a ol nw = -1 ∨ 1000000 ≤ nw
    · rw [ifp_t c2, ifp_t c2]
    · rw [ifp_f c2, ifp_f c2]
      by_cases c3 : pw_off O lf
      · rw [ifp_t c3, ifp_t c3]
      · rw [ifp_f c3, ifp_f c3]
        exact wv0_ans pl
  · rw [ifp_f c1, ifp_f c1]
