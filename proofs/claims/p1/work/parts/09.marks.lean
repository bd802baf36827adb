def bt (x : Int32) (i : Nat) : Bool := x.toBitVec.getLsbD i
theorem b_ext {x y : Int32} (h : ∀ i, i < 32 → bt x i = bt y i) : x = y := Int32.toBitVec_inj.mp (BitVec.eq_of_getLsbD_eq (fun i hi => h i hi))
theorem b_or (x y : Int32) (i : Nat) : bt (x ||| y) i = (bt x i || bt y i) := by unfold bt; rw [Int32.toBitVec_or, BitVec.getLsbD_or]
theorem b_and (x y : Int32) (i : Nat) : bt (x &&& y) i = (bt x i && bt y i) := by unfold bt; rw [Int32.toBitVec_and, BitVec.getLsbD_and]
theorem b_xor (x y : Int32) (i : Nat) : bt (x ^^^ y) i = (bt x i ^^ bt y i) := by unfold bt; rw [Int32.toBitVec_xor, BitVec.getLsbD_xor]
theorem b_big {x : Int32} {i : Nat} (h : 32 ≤ i) : bt x i = false := BitVec.getLsbD_of_ge _ _ h
theorem b_255 (i : Nat) : bt 255 i = decide (i < 8) := by
  rcases Nat.lt_or_ge i 32 with h | h
  · exact (by decide +kernel : ∀ i, i < 32 → bt 255 i = decide (i < 8)) i h
  · rw [b_big h, decide_eq_false (by omega)]
theorem b_65535 (i : Nat) : bt 65535 i = decide (i < 16) := by
  rcases Nat.lt_or_ge i 32 with h | h
  · exact (by decide +kernel : ∀ i, i < 32 → bt 65535 i = decide (i < 16)) i h
  · rw [b_big h, decide_eq_false (by omega)]
theorem b_m1 : ∀ i, i < 32 → bt (-1) i = true := by decide +kernel
theorem b_0 (i : Nat) : bt 0 i = false := BitVec.getLsbD_zero
theorem s_l : ∀ n, n < 32 → ((nI n &&& 31).toBitVec.smod 32).toNat = n := by decide +kernel
theorem s_u : ∀ n, n < 32 → (((nI n).toUInt32 &&& Int32.toUInt32 31).toBitVec % 32).toNat = n := by decide +kernel
theorem b_shl (n : Nat) (hn : n < 32) (x : Int32) {i : Nat} (hi : i < 32) : bt (x <<< (nI n &&& 31)) i = (decide (n ≤ i) && bt x (i - n)) := by
  unfold bt
  rw [Int32.toBitVec_shiftLeft]
  show (x.toBitVec <<< ((nI n &&& 31).toBitVec.smod 32).toNat).getLsbD i = _
  rw [s_l n hn, BitVec.getLsbD_shiftLeft]
  rcases Nat.lt_or_ge i n with h | h
  · simp [h, Nat.not_le.mpr h]
  · simp [hi, h, Nat.not_lt.mpr h]
theorem b_ushr (n : Nat) (hn : n < 32) (x : Int32) (i : Nat) : bt ((x.toUInt32 >>> ((nI n).toUInt32 &&& Int32.toUInt32 31)).toInt32) i = bt x (n + i) := by
  show (x.toUInt32 >>> ((nI n).toUInt32 &&& Int32.toUInt32 31)).toBitVec.getLsbD i = x.toUInt32.toBitVec.getLsbD (n + i)
  rw [UInt32.toBitVec_shiftRight]
  show (x.toUInt32.toBitVec >>> (((nI n).toUInt32 &&& Int32.toUInt32 31).toBitVec % 32).toNat).getLsbD i = _
  rw [s_u n hn, BitVec.getLsbD_ushiftRight]
theorem b_sshr (n : Nat) (hn : n < 32) (x : Int32) {i : Nat} (hi : i < 32) : bt (x >>> (nI n &&& 31)) i = if n + i < 32 then bt x (n + i) else bt x 31 := by
  unfold bt
  rw [Int32.toBitVec_shiftRight]
  show (x.toBitVec.sshiftRight ((nI n &&& 31).toBitVec.smod 32).toNat).getLsbD i = _
  rw [s_l n hn, BitVec.getLsbD_sshiftRight, BitVec.msb_eq_getLsbD_last]
  simp [hi]
theorem b_shl8 (x : Int32) {i : Nat} (hi : i < 32) : bt (x <<< ((8 : Int32) &&& 31)) i = (decide (8 ≤ i) && bt x (i - 8)) := b_shl 8 (by omega) x hi
theorem b_shl16 (x : Int32) {i : Nat} (hi : i < 32) : bt (x <<< ((16 : Int32) &&& 31)) i = (decide (16 ≤ i) && bt x (i - 16)) := b_shl 16 (by omega) x hi
theorem b_shl24 (x : Int32) {i : Nat} (hi : i < 32) : bt (x <<< ((24 : Int32) &&& 31)) i = (decide (24 ≤ i) && bt x (i - 24)) := b_shl 24 (by omega) x hi
theorem b_sshr8 (x : Int32) {i : Nat} (hi : i < 32) : bt (x >>> ((8 : Int32) &&& 31)) i = if 8 + i < 32 then bt x (8 + i) else bt x 31 := b_sshr 8 (by omega) x hi

def bT (x : Int32) (i : Nat) : Prop := bt x i = true
theorem bT_or {x y : Int32} {i : Nat} : bT (x ||| y) i ↔ bT x i ∨ bT y i := by unfold bT; rw [b_or, Bool.or_eq_true]
theorem bT_c {B : Int32} {k : Nat} (h : ∀ i, i < 32 → bt B i = decide (i = k)) (hk : k < 32) (i : Nat) : bT B i ↔ i = k := by
  unfold bT
  rcases Nat.lt_or_ge i 32 with e | e
  · rw [h i e]; exact decide_eq_true_iff
  · rw [b_big e]; exact ⟨fun q => absurd q (by decide), fun q => absurd q (by omega)⟩
theorem bT_1 (i : Nat) : bT 1 i ↔ i = 0 := bT_c (by decide +kernel) (by omega) i
theorem bT_m1 (i : Nat) : bT (mk_bit 1) i ↔ i = 1 := bT_c (by decide +kernel) (by omega) i
theorem bT_m2 (i : Nat) : bT (mk_bit 2) i ↔ i = 2 := bT_c (by decide +kernel) (by omega) i
theorem bT_m3 (i : Nat) : bT (mk_bit 3) i ↔ i = 3 := bT_c (by decide +kernel) (by omega) i
theorem bT_and0 {x B : Int32} {k : Nat} (hB : ∀ i, bT B i ↔ i = k) : x &&& B = 0 ↔ ¬ bT x k := by
  constructor
  · intro h hx
    have e : bt (x &&& B) k = bt 0 k := by rw [h]
    rw [b_and, b_0, show bt x k = true from hx, show bt B k = true from (hB k).mpr rfl] at e
    exact absurd e (by decide)
  · intro h
    refine b_ext fun i _ => ?_
    rw [b_and, b_0]
    by_cases e : i = k
    · subst e
      rw [show bt x i = false from Bool.eq_false_iff.mpr h]; rfl
    · rw [show bt B i = false from Bool.eq_false_iff.mpr (fun q => e ((hB i).mp q)), Bool.and_false]
theorem bT_zero {x : Int32} : x = 0 ↔ ∀ i, ¬ bT x i := by
  constructor
  · intro h i hi
    unfold bT at hi
    rw [h, b_0] at hi
    exact absurd hi (by decide)
  · intro h
    refine b_ext fun i _ => ?_
    rw [b_0]
    exact Bool.eq_false_iff.mpr (h i)
/-! who tells whom -/
def told (f : Nat → Int32) (b n p : Nat) : Prop := ∃ j, j < n ∧ ¬ f (b + j) = 0 ∧ nv (f (b + j)) = p
theorem mt_bits {f : Nat → Int32} {b k : Nat} {B : Int32} (M : Nat → Int32) (hB : ∀ i, bT B i ↔ i = k) : ∀ (n p i : Nat), bT (mt_fold f b B M n p) i ↔ bT (M p) i ∨ (i = k ∧ told f b n p)
  | 0, p, i => ⟨fun h => Or.inl h, fun h => h.elim id (fun h => by obtain ⟨-, j, hj, -⟩ := h; omega)⟩
  | n + 1, p, i => by
    have ih := mt_bits (f := f) (b := b) M hB n
    by_cases h : f (b + n) = 0
    · rw [mt_s0 h, ih p i]
      have e : told f b n p ↔ told f b (n + 1) p := ⟨fun ⟨j, h1, h2⟩ => ⟨j, by omega, h2⟩, fun ⟨j, h1, h2, h3⟩ => by
        rcases Nat.lt_or_ge j n with g | g
        · exact ⟨j, g, h2, h3⟩
        · rw [show j = n by omega] at h2; exact absurd h h2⟩
      rw [e]
    · rw [mt_s1 h]
      unfold upd
      by_cases hp : p = nv (f (b + n))
      · rw [if_pos hp, bT_or, hB, ← hp, ih p i]
        constructor
        · rintro ((h1 | ⟨h1, j, h2, h3⟩) | h1)
          · exact Or.inl h1
          · exact Or.inr ⟨h1, j, by omega, h3⟩
          · exact Or.inr ⟨h1, n, by omega, h, hp.symm⟩
        · rintro (h1 | ⟨h1, -⟩)
          · exact Or.inl (Or.inl h1)
          · exact Or.inr h1
      · rw [if_neg hp, ih p i]
        have e : told f b n p ↔ told f b (n + 1) p := ⟨fun ⟨j, h1, h2⟩ => ⟨j, by omega, h2⟩, fun ⟨j, h1, h2, h3⟩ => by
          rcases Nat.lt_or_ge j n with g | g
          · exact ⟨j, g, h2, h3⟩
          · rw [show j = n by omega] at h3; exact absurd h3.symm hp⟩
        rw [e]
/-- a pass over all pages, for a kind with bit k that tells with bit k2 -/
theorem la_bits {f : Nat → Int32} {a k k2 : Nat} {K : Int32} {T : Nat → Nat → Prop} (M : Nat → Int32) (hK : ∀ i, bT (mk_bit K) i ↔ i = k) (h1 : ¬ k = 0) (h2 : ¬ k2 = 0) (h3 : ¬ k2 = k)
    (ht : ∀ (G : Nat → Int32) (q p i : Nat), ¬ G q &&& mk_bit K = 0 → pg_right f a q K → (bT (la_step f a K G q p) i ↔ bT (G p) i ∨ (i = k2 ∧ T q p))) :
    ∀ (n p i : Nat), bT (la_fold f a K M n p) i ↔ bT (M p) i ∨ (i = 0 ∧ p < n ∧ bT (M p) k ∧ ¬ pg_right f a p K) ∨ (i = k2 ∧ ∃ q, q < n ∧ bT (M q) k ∧ pg_right f a q K ∧ T q p)
  | 0, p, i => ⟨fun h => Or.inl h, fun h => by
      rcases h with h | ⟨-, h, -⟩ | ⟨-, q, h, -⟩
      · exact h
      · omega
      · omega⟩
  | n + 1, p, i => by
    have ih := la_bits (f := f) (a := a) (T := T) M hK h1 h2 h3 ht n
    show bT (la_step f a K (la_fold f a K M n) n p) i ↔ _
    have hbit : bT (la_fold f a K M n n) k ↔ bT (M n) k := by
      rw [ih n k]
      constructor
      · rintro (h | ⟨h, -⟩ | ⟨h, -⟩)
        · exact h
        · exact absurd h h1
        · exact absurd h.symm h3
      · exact fun h => Or.inl h
    by_cases hm : la_fold f a K M n n &&& mk_bit K = 0
    · have hn : ¬ bT (M n) k := fun e => (bT_and0 hK).mp hm (hbit.mpr e)
      rw [la_none hm, ih p i]
      constructor
      · rintro (h | ⟨g1, g2, g3⟩ | ⟨g1, q, g2, g3⟩)
        · exact Or.inl h
        · exact Or.inr (Or.inl ⟨g1, by omega, g3⟩)
        · exact Or.inr (Or.inr ⟨g1, q, by omega, g3⟩)
      · rintro (h | ⟨g1, g2, g3, g4⟩ | ⟨g1, q, g2, g3, g4⟩)
        · exact Or.inl h
        · rcases Nat.lt_or_ge p n with g | g
          · exact Or.inr (Or.inl ⟨g1, g, g3, g4⟩)
          · rw [show p = n by omega] at g3; exact absurd g3 hn
        · rcases Nat.lt_or_ge q n with g | g
          · exact Or.inr (Or.inr ⟨g1, q, g, g3, g4⟩)
          · rw [show q = n by omega] at g3; exact absurd g3 hn
    · have hn : bT (M n) k := Classical.byContradiction fun e => hm ((bT_and0 hK).mpr fun g => e (hbit.mp g))
      by_cases hr : pg_right f a n K
      · rw [ht _ n p i hm hr, ih p i]
        constructor
        · rintro ((h | ⟨g1, g2, g3⟩ | ⟨g1, q, g2, g3⟩) | ⟨g1, g2⟩)
          · exact Or.inl h
          · exact Or.inr (Or.inl ⟨g1, by omega, g3⟩)
          · exact Or.inr (Or.inr ⟨g1, q, by omega, g3⟩)
          · exact Or.inr (Or.inr ⟨g1, n, by omega, hn, hr, g2⟩)
        · rintro (h | ⟨g1, g2, g3, g4⟩ | ⟨g1, q, g2, g3, g4, g5⟩)
          · exact Or.inl (Or.inl h)
          · rcases Nat.lt_or_ge p n with g | g
            · exact Or.inl (Or.inr (Or.inl ⟨g1, g, g3, g4⟩))
            · rw [show p = n by omega] at g4; exact absurd hr g4
          · rcases Nat.lt_or_ge q n with g | g
            · exact Or.inl (Or.inr (Or.inr ⟨g1, q, g, g3, g4, g5⟩))
            · rw [show q = n by omega] at g5; exact Or.inr ⟨g1, g5⟩
      · rw [la_bad hm hr]
        unfold upd
        by_cases hp : p = n
        · rw [hp, if_pos rfl, bT_or, bT_1, ih n i]
          constructor
          · rintro ((h | ⟨g1, g2, g3⟩ | ⟨g1, q, g2, g3⟩) | g1)
            · exact Or.inl h
            · exact Or.inr (Or.inl ⟨g1, by omega, g3⟩)
            · exact Or.inr (Or.inr ⟨g1, q, by omega, g3⟩)
            · exact Or.inr (Or.inl ⟨g1, by omega, hn, hr⟩)
          · rintro (h | ⟨g1, g2, g3, g4⟩ | ⟨g1, q, g2, g3, g4⟩)
            · exact Or.inl (Or.inl h)
            · exact Or.inr g1
            · rcases Nat.lt_or_ge q n with g | g
              · exact Or.inl (Or.inr (Or.inr ⟨g1, q, by omega, g3, g4⟩))
              · rw [show q = n by omega] at g4; exact absurd g4.1 hr
        · rw [if_neg hp, ih p i]
          constructor
          · rintro (h | ⟨g1, g2, g3⟩ | ⟨g1, q, g2, g3⟩)
            · exact Or.inl h
            · exact Or.inr (Or.inl ⟨g1, by omega, g3⟩)
            · exact Or.inr (Or.inr ⟨g1, q, by omega, g3⟩)
          · rintro (h | ⟨g1, g2, g3, g4⟩ | ⟨g1, q, g2, g3, g4⟩)
            · exact Or.inl h
            · exact Or.inr (Or.inl ⟨g1, by omega, g3, g4⟩)
            · rcases Nat.lt_or_ge q n with g | g
              · exact Or.inr (Or.inr ⟨g1, q, g, g3, g4⟩)
              · rw [show q = n by omega] at g4; exact absurd g4.1 hr
def rootS (o n p : Nat) : Prop := ∃ j, j < n ∧ (o + j) % 8 = p
def nodeS (f : Nat → Int32) (a o n p : Nat) : Prop := ∃ q, q < a ∧ rootS o n q ∧ pg_right f a q 1 ∧ told f (q * 48 + 9) 32 p
def thingS (f : Nat → Int32) (a o n p : Nat) : Prop := ∃ q, q < a ∧ nodeS f a o n q ∧ pg_right f a q 2 ∧ told f (q * 48 + 2) 32 p
def badS (f : Nat → Int32) (a o n p : Nat) : Prop := (rootS o n p ∧ ¬ pg_right f a p 1) ∨ (nodeS f a o n p ∧ ¬ pg_right f a p 2) ∨ (thingS f a o n p ∧ ¬ pg_right f a p 3)
def reachS (f : Nat → Int32) (a o n p : Nat) : Prop := rootS o n p ∨ nodeS f a o n p ∨ thingS f a o n p
theorem rt_bits (o : Nat) : ∀ (n p i : Nat), bT (rt_fold (fun _ => 0) o n p) i ↔ i = 1 ∧ rootS o n p
  | 0, p, i => ⟨fun h => absurd (show bt 0 i = true from h) (by rw [b_0]; decide), fun ⟨_, j, hj, _⟩ => absurd hj (Nat.not_lt_zero j)⟩
  | n + 1, p, i => by
    have ih := rt_bits o n
    show bT (upd (rt_fold (fun _ => 0) o n) ((o + n) % 8) (rt_fold (fun _ => 0) o n ((o + n) % 8) ||| mk_bit 1) p) i ↔ _
    unfold upd
    by_cases hp : p = (o + n) % 8
    · rw [if_pos hp, bT_or, bT_m1, ← hp, ih p i]
      constructor
      · rintro (⟨h1, j, h2, h3⟩ | h)
        · exact ⟨h1, j, by omega, h3⟩
        · exact ⟨h, n, by omega, hp.symm⟩
      · rintro ⟨h, -⟩
        exact Or.inr h
    · rw [if_neg hp, ih p i]
      constructor
      · rintro ⟨h1, j, h2, h3⟩
        exact ⟨h1, j, by omega, h3⟩
      · rintro ⟨h1, j, h2, h3⟩
        rcases Nat.lt_or_ge j n with g | g
        · exact ⟨h1, j, g, h3⟩
        · rw [show j = n by omega] at h3; exact absurd h3.symm hp
/-- the marks behind a walk, bit by bit -/
theorem wk_bits (f : Nat → Int32) (a o n p i : Nat) : bT (wk_marks f a o n p) i ↔ (i = 1 ∧ rootS o n p) ∨ (i = 2 ∧ nodeS f a o n p) ∨ (i = 3 ∧ thingS f a o n p) ∨ (i = 0 ∧ p < a ∧ badS f a o n p) := by
  have l1 := la_bits (f := f) (a := a) (k := 1) (k2 := 2) (K := 1) (T := fun q p => told f (q * 48 + 9) 32 p) (rt_fold (fun _ => 0) o n) bT_m1 (by decide) (by decide) (by decide) (fun G q p i hm hr => by rw [la_1 hm hr rfl]; exact mt_bits G bT_m2 32 p i) a
  have l2 := la_bits (f := f) (a := a) (k := 2) (k2 := 3) (K := 2) (T := fun q p => told f (q * 48 + 2) 32 p) (la_fold f a 1 (rt_fold (fun _ => 0) o n) a) bT_m2 (by decide) (by decide) (by decide) (fun G q p i hm hr => by rw [la_2 hm hr (by decide) rfl]; exact mt_bits G bT_m3 32 p i) a
  have l3 := la_bits (f := f) (a := a) (k := 3) (k2 := 9) (K := 3) (T := fun _ _ => False) (la_fold f a 2 (la_fold f a 1 (rt_fold (fun _ => 0) o n) a) a) bT_m3 (by decide) (by decide) (by decide) (fun G q p i hm hr => by rw [la_3 hm hr (by decide) (by decide)]; exact ⟨fun h => Or.inl h, fun h => h.elim id (fun h => h.2.elim)⟩) a
  have r := rt_bits o n
  have a1 : ∀ p i, bT (la_fold f a 1 (rt_fold (fun _ => 0) o n) a p) i ↔ (i = 1 ∧ rootS o n p) ∨ (i = 0 ∧ p < a ∧ rootS o n p ∧ ¬ pg_right f a p 1) ∨ (i = 2 ∧ nodeS f a o n p) := by
    intro p i
    rw [l1 p i, r p i]
    have e1 : bT (rt_fold (fun _ => 0) o n p) 1 ↔ rootS o n p := (r p 1).trans ⟨fun h => h.2, fun h => ⟨rfl, h⟩⟩
    have e2 : (∃ q, q < a ∧ bT (rt_fold (fun _ => 0) o n q) 1 ∧ pg_right f a q 1 ∧ told f (q * 48 + 9) 32 p) ↔ nodeS f a o n p := ⟨fun ⟨q, g1, g2, g3⟩ => ⟨q, g1, ((r q 1).mp g2).2, g3⟩, fun ⟨q, g1, g2, g3⟩ => ⟨q, g1, (r q 1).mpr ⟨rfl, g2⟩, g3⟩⟩
    rw [e1, e2]
  have b2 : ∀ q, bT (la_fold f a 1 (rt_fold (fun _ => 0) o n) a q) 2 ↔ nodeS f a o n q := by
    intro q
    rw [a1 q 2]
    exact ⟨fun h => by
      rcases h with ⟨h, -⟩ | ⟨h, -⟩ | ⟨-, h⟩
      · exact absurd h (by decide)
      · exact absurd h (by decide)
      · exact h, fun h => Or.inr (Or.inr ⟨rfl, h⟩)⟩
  have e3 : ∀ p, (∃ q, q < a ∧ bT (la_fold f a 1 (rt_fold (fun _ => 0) o n) a q) 2 ∧ pg_right f a q 2 ∧ told f (q * 48 + 2) 32 p) ↔ thingS f a o n p := fun p => ⟨fun ⟨q, g1, g2, g3⟩ => ⟨q, g1, (b2 q).mp g2, g3⟩, fun ⟨q, g1, g2, g3⟩ => ⟨q, g1, (b2 q).mpr g2, g3⟩⟩
  have b3 : ∀ q, bT (la_fold f a 2 (la_fold f a 1 (rt_fold (fun _ => 0) o n) a) a q) 3 ↔ thingS f a o n q := by
    intro q
    rw [l2 q 3, a1 q 3, e3 q]
    exact ⟨fun h => by
      rcases h with (⟨h, -⟩ | ⟨h, -⟩ | ⟨h, -⟩) | ⟨h, -⟩ | ⟨-, h⟩
      · exact absurd h (by decide)
      · exact absurd h (by decide)
      · exact absurd h (by decide)
      · exact absurd h (by decide)
      · exact h, fun h => Or.inr (Or.inr ⟨rfl, h⟩)⟩
  unfold wk_marks
  rw [l3 p i, b3 p, l2 p i, b2 p, e3 p, a1 p i]
  constructor
  · rintro (((⟨h1, h2⟩ | ⟨h1, h2, h3⟩ | ⟨h1, h2⟩) | ⟨h1, h2, h3⟩ | ⟨h1, h2⟩) | ⟨h1, h2, h3⟩ | ⟨-, q, -, -, -, h⟩)
    · exact Or.inl ⟨h1, h2⟩
    · exact Or.inr (Or.inr (Or.inr ⟨h1, h2, Or.inl h3⟩))
    · exact Or.inr (Or.inl ⟨h1, h2⟩)
    · exact Or.inr (Or.inr (Or.inr ⟨h1, h2, Or.inr (Or.inl h3)⟩))
    · exact Or.inr (Or.inr (Or.inl ⟨h1, h2⟩))
    · exact Or.inr (Or.inr (Or.inr ⟨h1, h2, Or.inr (Or.inr h3)⟩))
    · exact h.elim
  · rintro (⟨h1, h2⟩ | ⟨h1, h2⟩ | ⟨h1, h2⟩ | ⟨h1, h2, (h3 | h3 | h3)⟩)
    · exact Or.inl (Or.inl (Or.inl ⟨h1, h2⟩))
    · exact Or.inl (Or.inl (Or.inr (Or.inr ⟨h1, h2⟩)))
    · exact Or.inl (Or.inr (Or.inr ⟨h1, h2⟩))
    · exact Or.inl (Or.inl (Or.inr (Or.inl ⟨h1, h2, h3⟩)))
    · exact Or.inl (Or.inr (Or.inl ⟨h1, h2, h3⟩))
    · exact Or.inr (Or.inl ⟨h1, h2, h3⟩)
theorem wk_bad (f : Nat → Int32) (a o n p : Nat) : ¬ wk_marks f a o n p &&& 1 = 0 ↔ p < a ∧ badS f a o n p := by
  rw [bT_and0 bT_1, Classical.not_not, wk_bits]
  exact ⟨fun h => by
    rcases h with ⟨h, -⟩ | ⟨h, -⟩ | ⟨h, -⟩ | ⟨-, h⟩
    · exact absurd h (by decide)
    · exact absurd h (by decide)
    · exact absurd h (by decide)
    · exact h, fun h => Or.inr (Or.inr (Or.inr ⟨rfl, h⟩))⟩
theorem wk_zero (f : Nat → Int32) (a o n p : Nat) : wk_marks f a o n p = 0 ↔ ¬ reachS f a o n p := by
  rw [bT_zero]
  constructor
  · rintro h (h1 | h1 | h1)
    · exact h 1 ((wk_bits f a o n p 1).mpr (Or.inl ⟨rfl, h1⟩))
    · exact h 2 ((wk_bits f a o n p 2).mpr (Or.inr (Or.inl ⟨rfl, h1⟩)))
    · exact h 3 ((wk_bits f a o n p 3).mpr (Or.inr (Or.inr (Or.inl ⟨rfl, h1⟩))))
  · intro h i hi
    rcases (wk_bits f a o n p i).mp hi with ⟨-, h1⟩ | ⟨-, h1⟩ | ⟨-, h1⟩ | ⟨-, -, (h1 | h1 | h1)⟩
    · exact h (Or.inl h1)
    · exact h (Or.inr (Or.inl h1))
    · exact h (Or.inr (Or.inr h1))
    · exact h (Or.inl h1.1)
    · exact h (Or.inr (Or.inl h1.1))
    · exact h (Or.inr (Or.inr h1.1))
/-- where nothing is bad, the kept versions' roots are right -/
theorem wk_root {f : Nat → Int32} {a o nw v : Nat} (ha : a ≤ 120) (h8 : 12 ≤ a) (h : fd (fun p => ¬ wk_marks f a o (nw + 1 - o) p &&& 1 = 0) a 0 = -1) (h1 : o ≤ v) (h2 : v ≤ nw) : pg_right f a (v % 8) 1 := by
  have g := (fd_none (by omega)).mp h (v % 8) (Nat.zero_le _) (by omega)
  refine Classical.byContradiction fun e => g ((wk_bad f a o (nw + 1 - o) (v % 8)).mpr ⟨by omega, Or.inl ⟨⟨v - o, by omega, ?_⟩, e⟩⟩)
  rw [show o + (v - o) = v by omega]
