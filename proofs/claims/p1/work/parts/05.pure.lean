/-! truth as an int -/
noncomputable def b2i (P : Prop) : Int32 := @ite Int32 P (Classical.propDecidable P) 1 0
theorem b2i_t {P : Prop} (h : P) : b2i P = 1 := by unfold b2i; exact if_pos h
theorem b2i_f {P : Prop} (h : ¬ P) : b2i P = 0 := by unfold b2i; exact if_neg h
theorem b2i_0 {P : Prop} : b2i P = 0 ↔ ¬ P := by
  by_cases h : P
  · rw [b2i_t h]; exact ⟨fun e => absurd e (by decide), fun e => absurd h e⟩
  · rw [b2i_f h]; exact ⟨fun _ => h, fun _ => rfl⟩
theorem b2i_n0 {P : Prop} (h : ¬ b2i P = 0) : P := Classical.byContradiction fun e => h (b2i_f e)
theorem b2i_nar (P : Prop) : narrow .boolean (.int (b2i P)) = .int (b2i P) := by
  by_cases h : P
  · rw [b2i_t h]; rfl
  · rw [b2i_f h]; rfl
theorem b2i_fit (P : Prop) : fits .boolean (.int (b2i P)) = true := by
  by_cases h : P
  · rw [b2i_t h]; rfl
  · rw [b2i_f h]; rfl
theorem b2i_congr {P Q : Prop} (h : P ↔ Q) : b2i P = b2i Q := by rw [propext h]
/-! the pages: bytes f, P = a pages -/
def pg_us (x k : Int32) : Int32 := (Int32.toUInt32 x >>> (Int32.toUInt32 k &&& Int32.toUInt32 31)).toInt32
def pg_mix (x : Int32) : Int32 := ((x <<< ((9 : Int32) &&& 31)) ||| pg_us x 23) * 668265263
def pg_sum (f : Nat → Int32) (b : Nat) : Nat → Int32
  | 0 => 0
  | i + 1 => pg_mix (pg_sum f b i ^^^ f (b + i))
def pg_num (f : Nat → Int32) (k : Nat) : Int32 := ((f k <<< ((24 : Int32) &&& 31) ||| f (k + 1) <<< ((16 : Int32) &&& 31)) ||| f (k + 2) <<< ((8 : Int32) &&& 31)) ||| f (k + 3)
def pg_setn (f : Nat → Int32) (k : Nat) (v : Int32) : Nat → Int32 := upd (upd (upd (upd f k (pg_us v 24)) (k + 1) (pg_us v 16 &&& 255)) (k + 2) (pg_us v 8 &&& 255)) (k + 3) (v &&& 255)
def pg_fill (f : Nat → Int32) (lo hi : Nat) (x : Int32) : Nat → Int32 := fun k => if lo ≤ k ∧ k < hi then x else f k
def pg_one (x : Int32) (a : Nat) : Prop := x = 0 ∨ (¬ x < 8 ∧ ¬ nI a ≤ x)
def pg_ok (f : Nat → Int32) (a b n : Nat) : Prop := ∀ i, i < n → pg_one (f (b + i)) a
def pg_told (f : Nat → Int32) (b : Nat) : Nat → Nat
  | 0 => 0
  | i + 1 => pg_told f b i + (if f (b + i) = 0 then 0 else 1)
def pg_vers (f : Nat → Int32) (p : Nat) : Prop := ¬ pg_num f (p * 48 + 1) < 1 ∧ ¬ 1000000 < pg_num f (p * 48 + 1) ∧ pg_num f (p * 48 + 1) - pg_num f (p * 48 + 1) / 8 * 8 = nI p ∧ ¬ pg_num f (p * 48 + 5) < 1 ∧ ¬ pg_num f (p * 48 + 1) < pg_num f (p * 48 + 5) ∧ ¬ pg_num f (p * 48 + 5) < pg_num f (p * 48 + 1) - 7
def pg_kind (f : Nat → Int32) (a p : Nat) (kind : Int32) : Prop := (kind = 1 → pg_vers f p ∧ pg_ok f a (p * 48 + 9) 32) ∧ (kind = 2 → pg_ok f a (p * 48 + 2) 32) ∧ (¬ kind = 1 → ¬ kind = 2 → ¬ 32 < f (p * 48 + 3))
def pg_right (f : Nat → Int32) (a p : Nat) (kind : Int32) : Prop := f (p * 48 + 0) = kind ∧ pg_num f (p * 48 + 44) = pg_sum f (p * 48) 44 ∧ pg_kind f a p kind
theorem pg_told_0 {f : Nat → Int32} {b i : Nat} (h : f (b + i) = 0) : pg_told f b (i + 1) = pg_told f b i := by show pg_told f b i + (if f (b + i) = 0 then 0 else 1) = _; rw [if_pos h]; rfl
theorem pg_told_1 {f : Nat → Int32} {b i : Nat} (h : ¬ f (b + i) = 0) : pg_told f b (i + 1) = pg_told f b i + 1 := by show pg_told f b i + (if f (b + i) = 0 then 0 else 1) = _; rw [if_neg h]
theorem pg_fill_0 (f : Nat → Int32) (lo : Nat) (x : Int32) : f = pg_fill f lo lo x := by
  funext k
  unfold pg_fill
  rw [if_neg (by omega)]
theorem pg_fill_s (f : Nat → Int32) {lo i : Nat} (x : Int32) (h : lo ≤ i) : upd (pg_fill f lo i x) i x = pg_fill f lo (i + 1) x := by
  funext k
  unfold upd pg_fill
  by_cases e : k = i
  · rw [if_pos e, if_pos (by omega)]
  · rw [if_neg e]
    by_cases e2 : lo ≤ k ∧ k < i
    · rw [if_pos e2, if_pos (by omega)]
    · rw [if_neg e2, if_neg (by omega)]
def pg_begin (f : Nat → Int32) (q : Nat) (k : Int32) : Nat → Int32 := upd (pg_fill f (q * 48) (q * 48 + 48) 0) (q * 48 + 0) k
/-! a byte's value as a number -/
def nv (x : Int32) : Nat := x.toNatClampNeg
theorem nv_nI {n : Nat} (h : n < 2 ^ 31) : nv (nI n) = n := nI_clamp h
theorem pg_one_nv {x : Int32} {a : Nat} (h : pg_one x a) (ha : a ≤ 120) (h0 : 0 < a) : x = nI (nv x) ∧ nv x < a ∧ (x = 0 ∨ 8 ≤ nv x) := by
  rcases h with h | ⟨h1, h2⟩
  · subst h
    exact ⟨rfl, h0, Or.inl rfl⟩
  · have h3 : ¬ x < 0 := fun q => h1 (Int32.lt_trans q (by decide))
    obtain ⟨j, hj, rfl⟩ := nI_of h3
    rw [nv_nI hj]
    have h4 : ¬ a ≤ j := fun q => h2 ((nI_leI (by omega) hj).mpr q)
    have h5 : ¬ j < 8 := fun q => h1 ((nI_ltI (a := j) (b := 8) hj (by omega)).mpr q)
    exact ⟨rfl, by omega, Or.inr (by omega)⟩
theorem nv_0 {x : Int32} (h : x = nI (nv x)) : nv x = 0 ↔ x = 0 := ⟨fun e => by rw [h, e]; rfl, fun e => by rw [e]; rfl⟩
/-! the power -/
def pw_off (O : Prop) (lf : Int32) : Prop := (0 < lf ∧ lf - 1 = 0) ∨ (¬ 0 < lf ∧ O)
def pw_left (lf : Int32) : Int32 := if 0 < lf then lf - 1 else lf
/-! marks -/
def mt_step (b : Int32) (M : Nat → Int32) (x : Int32) : Nat → Int32 := if x = 0 then M else upd M (nv x) (M (nv x) ||| b)
def mt_fold (f : Nat → Int32) (k : Nat) (b : Int32) (M : Nat → Int32) : Nat → Nat → Int32
  | 0 => M
  | i + 1 => mt_step b (mt_fold f k b M i) (f (k + i))
theorem mt_s0 {f : Nat → Int32} {k : Nat} {b : Int32} {M : Nat → Int32} {i : Nat} (h : f (k + i) = 0) : mt_fold f k b M (i + 1) = mt_fold f k b M i := by show mt_step b _ _ = _; unfold mt_step; rw [if_pos h]
theorem mt_s1 {f : Nat → Int32} {k : Nat} {b : Int32} {M : Nat → Int32} {i : Nat} (h : ¬ f (k + i) = 0) : mt_fold f k b M (i + 1) = upd (mt_fold f k b M i) (nv (f (k + i))) (mt_fold f k b M i (nv (f (k + i))) ||| b) := by show mt_step b _ _ = _; unfold mt_step; rw [if_neg h]
def mk_bit (k : Int32) : Int32 := 1 <<< (k &&& 31)
noncomputable def la_step (f : Nat → Int32) (a : Nat) (k : Int32) (M : Nat → Int32) (q : Nat) : Nat → Int32 :=
  if M q &&& mk_bit k = 0 then M else @ite _ (pg_right f a q k) (Classical.propDecidable _) (if k = 1 then mt_fold f (q * 48 + 9) (mk_bit 2) M 32 else if k = 2 then mt_fold f (q * 48 + 2) (mk_bit 3) M 32 else M) (upd M q (M q ||| 1))
noncomputable def la_fold (f : Nat → Int32) (a : Nat) (k : Int32) (M : Nat → Int32) : Nat → Nat → Int32
  | 0 => M
  | q + 1 => la_step f a k (la_fold f a k M q) q
theorem la_none {f : Nat → Int32} {a q : Nat} {k : Int32} {M : Nat → Int32} (h : M q &&& mk_bit k = 0) : la_step f a k M q = M := by unfold la_step; rw [if_pos h]
theorem la_bad {f : Nat → Int32} {a q : Nat} {k : Int32} {M : Nat → Int32} (h : ¬ M q &&& mk_bit k = 0) (hr : ¬ pg_right f a q k) : la_step f a k M q = upd M q (M q ||| 1) := by unfold la_step; rw [if_neg h, if_neg hr]
theorem la_1 {f : Nat → Int32} {a q : Nat} {k : Int32} {M : Nat → Int32} (h : ¬ M q &&& mk_bit k = 0) (hr : pg_right f a q k) (hk : k = 1) : la_step f a k M q = mt_fold f (q * 48 + 9) (mk_bit 2) M 32 := by unfold la_step; rw [if_neg h, if_pos hr, if_pos hk]
theorem la_2 {f : Nat → Int32} {a q : Nat} {k : Int32} {M : Nat → Int32} (h : ¬ M q &&& mk_bit k = 0) (hr : pg_right f a q k) (hk : ¬ k = 1) (hk2 : k = 2) : la_step f a k M q = mt_fold f (q * 48 + 2) (mk_bit 3) M 32 := by unfold la_step; rw [if_neg h, if_pos hr, if_neg hk, if_pos hk2]
theorem la_3 {f : Nat → Int32} {a q : Nat} {k : Int32} {M : Nat → Int32} (h : ¬ M q &&& mk_bit k = 0) (hr : pg_right f a q k) (hk : ¬ k = 1) (hk2 : ¬ k = 2) : la_step f a k M q = M := by unfold la_step; rw [if_neg h, if_pos hr, if_neg hk, if_neg hk2]
def rt_fold (M : Nat → Int32) (o : Nat) : Nat → Nat → Int32
  | 0 => M
  | j + 1 => upd (rt_fold M o j) ((o + j) % 8) (rt_fold M o j ((o + j) % 8) ||| mk_bit 1)
/-- the marks behind a walk over the versions o .. o + n - 1 -/
noncomputable def wk_marks (f : Nat → Int32) (a o n : Nat) : Nat → Int32 := la_fold f a 3 (la_fold f a 2 (la_fold f a 1 (rt_fold (fun _ => 0) o n) a) a) a
/-- the least place from p on, among n, where P holds; -1 -/
noncomputable def fd (P : Nat → Prop) : Nat → Nat → Int32
  | 0, _ => -1
  | n + 1, q => @ite _ (P q) (Classical.propDecidable _) (nI q) (fd P n (q + 1))
theorem fd_t {P : Nat → Prop} {n q : Nat} (h : P q) : fd P (n + 1) q = nI q := by unfold fd; rw [if_pos h]
theorem fd_n {P : Nat → Prop} {n q : Nat} (h : ¬ P q) : fd P (n + 1) q = fd P n (q + 1) := by rw [fd, if_neg h]
theorem fd_t' {P : Nat → Prop} {a q : Nat} (h : P q) (hq : q < a) : fd P (a - q) q = nI q := by rw [show a - q = (a - (q + 1)) + 1 by omega]; exact fd_t h
theorem fd_n' {P : Nat → Prop} {a q : Nat} (h : ¬ P q) (hq : q < a) : fd P (a - q) q = fd P (a - (q + 1)) (q + 1) := by rw [show a - q = (a - (q + 1)) + 1 by omega]; exact fd_n h
theorem fd_0' {P : Nat → Prop} {a q : Nat} (hq : a ≤ q) : fd P (a - q) q = -1 := by rw [show a - q = 0 by omega]; rfl
/-- how many of n places from q on have P -/
noncomputable def ct_of_P (P : Nat → Prop) (q : Nat) : Nat → Nat
  | 0 => 0
  | n + 1 => ct_of_P P q n + @ite Nat (P (q + n)) (Classical.propDecidable _) 1 0
theorem ct_P1 {P : Nat → Prop} {q n : Nat} (h : P (q + n)) : ct_of_P P q (n + 1) = ct_of_P P q n + 1 := by rw [ct_of_P, if_pos h]
theorem ct_P0 {P : Nat → Prop} {q n : Nat} (h : ¬ P (q + n)) : ct_of_P P q (n + 1) = ct_of_P P q n := by rw [ct_of_P, if_neg h]; rfl
theorem ct_P_le (P : Nat → Prop) (q : Nat) : ∀ n, ct_of_P P q n ≤ n
  | 0 => Nat.le_refl _
  | n + 1 => by
    have h := ct_P_le P q n
    by_cases e : P (q + n)
    · rw [ct_P1 e]; omega
    · rw [ct_P0 e]; omega
