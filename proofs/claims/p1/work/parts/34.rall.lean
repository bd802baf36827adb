/-! what reachAll() leaves: the same pages and the same least bad one as the marks tell -/
def Rz (a : Nat) (S : RS) (X : Nat → Prop) : Prop := ∀ p, p < a → (S.1 p = 0 ↔ ¬ X p)
def Rb (a : Nat) (S : RS) (Y : Nat → Prop) : Prop := (S.2 = -1 ∧ ∀ p, ¬ Y p) ∨ ∃ p, p < a ∧ S.2 = nI p ∧ Y p ∧ ∀ i, i < p → ¬ Y i
theorem Rz.congr {a : Nat} {S : RS} {X X' : Nat → Prop} (h : Rz a S X) (e : ∀ p, X p ↔ X' p) : Rz a S X' := fun p hp => by rw [← e p]; exact h p hp
theorem Rb.congr {a : Nat} {S : RS} {Y Y' : Nat → Prop} (h : Rb a S Y) (e : ∀ p, Y p ↔ Y' p) : Rb a S Y' := by
  rw [show Y' = Y from funext fun p => (propext (e p)).symm]; exact h
theorem Rz.one {f : Nat → Int32} {a q : Nat} {k : Int32} {S : RS} {X : Nat → Prop} (h : Rz a S X) : Rz a (rc1 f a q k S) (fun p => X p ∨ p = q) := fun p hp => by
  show upd S.1 q 1 p = 0 ↔ _
  unfold upd
  by_cases e : p = q
  · rw [if_pos e]
    exact ⟨fun g => absurd g (by decide), fun g => absurd (Or.inr e) g⟩
  · rw [if_neg e, h p hp]
    exact ⟨fun g => fun q => q.elim g e, fun g q => g (Or.inl q)⟩
theorem Rb.one {f : Nat → Int32} {a q : Nat} {k : Int32} {S : RS} {Y : Nat → Prop} (ha : a ≤ 120) (hq : q < a) (h : Rb a S Y) : Rb a (rc1 f a q k S) (fun p => Y p ∨ (p = q ∧ ¬ pg_right f a p k)) := by
  show Rb a (upd S.1 q 1, rc_b f a q k S.2) _
  by_cases hr : pg_right f a q k
  · have e : rc_b f a q k S.2 = S.2 := ifp_f (fun g => g.1 hr)
    rw [e]
    refine Rb.congr (S := (upd S.1 q 1, S.2)) (Y := Y) h (fun p => ⟨Or.inl, fun g => g.elim id (fun g => ?_)⟩)
    exact absurd (by rw [g.1]; exact hr) g.2
  · rcases h with ⟨h1, h2⟩ | ⟨p0, h0, h1, h2, h3⟩
    · have e : rc_b f a q k S.2 = nI q := ifp_t ⟨hr, Or.inl h1⟩
      exact Or.inr ⟨q, hq, e, Or.inr ⟨rfl, hr⟩, fun i hi g => g.elim (h2 i) (fun g => by omega)⟩
    · by_cases hl : q < p0
      · have e : rc_b f a q k S.2 = nI q := ifp_t ⟨hr, Or.inr (by rw [h1]; exact (nI_ltI (by omega) (by omega)).mpr hl)⟩
        exact Or.inr ⟨q, hq, e, Or.inr ⟨rfl, hr⟩, fun i hi g => g.elim (h3 i (by omega)) (fun g => by omega)⟩
      · have e : rc_b f a q k S.2 = S.2 := ifp_f (fun g => g.2.elim (fun g => by rw [h1] at g; exact nI_nm1 (by omega) g) (fun g => by rw [h1] at g; exact hl ((nI_ltI (by omega) (by omega)).mp g)))
        exact Or.inr ⟨p0, h0, e.trans h1, Or.inl h2, fun i hi g => g.elim (h3 i hi) (fun g => by omega)⟩
theorem told_s {f : Nat → Int32} {b n p : Nat} : told f b (n + 1) p ↔ told f b n p ∨ (¬ f (b + n) = 0 ∧ p = nv (f (b + n))) := by
  constructor
  · rintro ⟨j, h1, h2, h3⟩
    rcases Nat.lt_or_ge j n with g | g
    · exact Or.inl ⟨j, g, h2, h3⟩
    · rw [show j = n by omega] at h2 h3
      exact Or.inr ⟨h2, h3.symm⟩
  · rintro (⟨j, h1, h2⟩ | ⟨h1, h2⟩)
    · exact ⟨j, by omega, h2⟩
    · exact ⟨n, by omega, h1, h2.symm⟩
theorem told_0 {f : Nat → Int32} {b p : Nat} : ¬ told f b 0 p := fun ⟨j, h, _⟩ => absurd h (Nat.not_lt_zero j)
theorem told_lt {f : Nat → Int32} {a b n p : Nat} (ha : a ≤ 120) (h0 : 0 < a) (hok : pg_ok f a b n) (h : told f b n p) : p < a := by
  obtain ⟨j, h1, h2, h3⟩ := h
  rw [← h3]
  exact (pg_one_nv (hok j h1) ha h0).2.1
/-- a walk over what places tell, by a step of its own -/
theorem Rz.many {a b : Nat} {f : Nat → Int32} {G : Nat → RS} {st : Nat → RS → RS} {XX : Nat → Nat → Prop} {X : Nat → Prop} (h0 : Rz a (G 0) X) (hs0 : ∀ i, f (b + i) = 0 → G (i + 1) = G i) (hs1 : ∀ i, ¬ f (b + i) = 0 → G (i + 1) = st (nv (f (b + i))) (G i)) (n : Nat)
    (hst : ∀ i S X, i < n → ¬ f (b + i) = 0 → Rz a S X → Rz a (st (nv (f (b + i))) S) (fun p => X p ∨ XX (nv (f (b + i))) p)) : ∀ m, m ≤ n → Rz a (G m) (fun p => X p ∨ ∃ q, told f b m q ∧ XX q p)
  | 0, _ => h0.congr (fun p => ⟨Or.inl, fun h => h.elim id (fun ⟨q, h, _⟩ => absurd h told_0)⟩)
  | m + 1, hm => by
    have ih := Rz.many h0 hs0 hs1 n hst m (by omega)
    by_cases e : f (b + m) = 0
    · rw [hs0 m e]
      refine ih.congr (fun p => ⟨fun h => h.imp id (fun ⟨q, g1, g2⟩ => ⟨q, told_s.mpr (Or.inl g1), g2⟩), fun h => h.imp id (fun ⟨q, g1, g2⟩ => ⟨q, (told_s.mp g1).resolve_right (fun z => z.1 e), g2⟩)⟩)
    · rw [hs1 m e]
      refine (hst m _ _ (by omega) e ih).congr (fun p => ⟨?_, ?_⟩)
      · rintro ((h | ⟨q, g1, g2⟩) | h)
        · exact Or.inl h
        · exact Or.inr ⟨q, told_s.mpr (Or.inl g1), g2⟩
        · exact Or.inr ⟨_, told_s.mpr (Or.inr ⟨e, rfl⟩), h⟩
      · rintro (h | ⟨q, g1, g2⟩)
        · exact Or.inl (Or.inl h)
        · rcases told_s.mp g1 with g | ⟨-, g⟩
          · exact Or.inl (Or.inr ⟨q, g, g2⟩)
          · rw [g] at g2; exact Or.inr g2
theorem Rb.many {a b : Nat} {f : Nat → Int32} {G : Nat → RS} {st : Nat → RS → RS} {XX : Nat → Nat → Prop} {X : Nat → Prop} (h0 : Rb a (G 0) X) (hs0 : ∀ i, f (b + i) = 0 → G (i + 1) = G i) (hs1 : ∀ i, ¬ f (b + i) = 0 → G (i + 1) = st (nv (f (b + i))) (G i)) (n : Nat)
    (hst : ∀ i S X, i < n → ¬ f (b + i) = 0 → Rb a S X → Rb a (st (nv (f (b + i))) S) (fun p => X p ∨ XX (nv (f (b + i))) p)) : ∀ m, m ≤ n → Rb a (G m) (fun p => X p ∨ ∃ q, told f b m q ∧ XX q p)
  | 0, _ => h0.congr (fun p => ⟨Or.inl, fun h => h.elim id (fun ⟨q, h, _⟩ => absurd h told_0)⟩)
  | m + 1, hm => by
    have ih := Rb.many h0 hs0 hs1 n hst m (by omega)
    by_cases e : f (b + m) = 0
    · rw [hs0 m e]
      refine ih.congr (fun p => ⟨fun h => h.imp id (fun ⟨q, g1, g2⟩ => ⟨q, told_s.mpr (Or.inl g1), g2⟩), fun h => h.imp id (fun ⟨q, g1, g2⟩ => ⟨q, (told_s.mp g1).resolve_right (fun z => z.1 e), g2⟩)⟩)
    · rw [hs1 m e]
      refine (hst m _ _ (by omega) e ih).congr (fun p => ⟨?_, ?_⟩)
      · rintro ((h | ⟨q, g1, g2⟩) | h)
        · exact Or.inl h
        · exact Or.inr ⟨q, told_s.mpr (Or.inl g1), g2⟩
        · exact Or.inr ⟨_, told_s.mpr (Or.inr ⟨e, rfl⟩), h⟩
      · rintro (h | ⟨q, g1, g2⟩)
        · exact Or.inl (Or.inl h)
        · rcases told_s.mp g1 with g | ⟨-, g⟩
          · exact Or.inl (Or.inr ⟨q, g, g2⟩)
          · rw [g] at g2; exact Or.inr g2
def NX (f : Nat → Int32) (a q p : Nat) : Prop := p = q ∨ (pg_right f a q 2 ∧ ∃ r, told f (q * 48 + 2) 32 r ∧ p = r)
def NY (f : Nat → Int32) (a q p : Nat) : Prop := (p = q ∧ ¬ pg_right f a p 2) ∨ (pg_right f a q 2 ∧ ∃ r, told f (q * 48 + 2) 32 r ∧ (p = r ∧ ¬ pg_right f a p 3))
theorem Rz.node {f : Nat → Int32} {a q : Nat} {S : RS} {X : Nat → Prop} (h : Rz a S X) : Rz a (rnd f a q S) (fun p => X p ∨ NX f a q p) := by
  have h1 := Rz.one (f := f) (q := q) (k := 2) h
  unfold rnd
  by_cases hr : pg_right f a q 2
  · rw [ifp_t hr]
    refine (Rz.many (G := rcT f a (q * 48 + 2) (rc1 f a q 2 S)) (st := fun r S => rc1 f a r 3 S) (XX := fun r p => p = r) h1 (fun i e => by rw [rcT, ifp_t e]) (fun i e => by rw [rcT, ifp_f e]) 32 (fun i S X _ _ g => Rz.one g) 32 (Nat.le_refl _)).congr (fun p => ?_)
    unfold NX
    exact ⟨fun g => g.elim (fun g => g.imp id Or.inl) (fun g => Or.inr (Or.inr ⟨hr, g⟩)), fun g => g.elim (fun g => Or.inl (Or.inl g)) (fun g => g.elim (fun g => Or.inl (Or.inr g)) (fun g => Or.inr g.2))⟩
  · rw [ifp_f hr]
    refine h1.congr (fun p => ?_)
    unfold NX
    exact ⟨fun g => g.imp id Or.inl, fun g => g.imp id (fun g => g.elim id (fun g => absurd g.1 hr))⟩
theorem Rb.node {f : Nat → Int32} {a q : Nat} {S : RS} {Y : Nat → Prop} (ha : a ≤ 120) (h0 : 0 < a) (hq : q < a) (h : Rb a S Y) : Rb a (rnd f a q S) (fun p => Y p ∨ NY f a q p) := by
  have h1 := Rb.one (f := f) (q := q) (k := 2) ha hq h
  unfold rnd
  by_cases hr : pg_right f a q 2
  · rw [ifp_t hr]
    have hok := hr.2.2.2.1 rfl
    refine (Rb.many (G := rcT f a (q * 48 + 2) (rc1 f a q 2 S)) (st := fun r S => rc1 f a r 3 S) (XX := fun r p => p = r ∧ ¬ pg_right f a p 3) h1 (fun i e => by rw [rcT, ifp_t e]) (fun i e => by rw [rcT, ifp_f e]) 32 (fun i S X hi e g => Rb.one ha (pg_one_nv (hok i hi) ha h0).2.1 g) 32 (Nat.le_refl _)).congr (fun p => ?_)
    unfold NY
    exact ⟨fun g => g.elim (fun g => g.imp id Or.inl) (fun g => Or.inr (Or.inr ⟨hr, g⟩)), fun g => g.elim (fun g => Or.inl (Or.inl g)) (fun g => g.elim (fun g => Or.inl (Or.inr g)) (fun g => Or.inr g.2))⟩
  · rw [ifp_f hr]
    refine h1.congr (fun p => ?_)
    unfold NY
    exact ⟨fun g => g.imp id Or.inl, fun g => g.imp id (fun g => g.elim id (fun g => absurd g.1 hr))⟩
def RX (f : Nat → Int32) (a r p : Nat) : Prop := p = r ∨ (pg_right f a r 1 ∧ ∃ q, told f (r * 48 + 9) 32 q ∧ NX f a q p)
def RY (f : Nat → Int32) (a r p : Nat) : Prop := (p = r ∧ ¬ pg_right f a p 1) ∨ (pg_right f a r 1 ∧ ∃ q, told f (r * 48 + 9) 32 q ∧ NY f a q p)
theorem Rz.root {f : Nat → Int32} {a r : Nat} {S : RS} {X : Nat → Prop} (h : Rz a S X) : Rz a (rro f a r S) (fun p => X p ∨ RX f a r p) := by
  have h1 := Rz.one (f := f) (q := r) (k := 1) h
  unfold rro
  by_cases hr : pg_right f a r 1
  · rw [ifp_t hr]
    refine (Rz.many (G := rcN f a (r * 48 + 9) (rc1 f a r 1 S)) (st := fun q S => rnd f a q S) (XX := fun q p => NX f a q p) h1 (fun i e => by rw [rcN, ifp_t e]) (fun i e => by rw [rcN, ifp_f e]) 32 (fun i S X _ _ g => Rz.node g) 32 (Nat.le_refl _)).congr (fun p => ?_)
    unfold RX
    exact ⟨fun g => g.elim (fun g => g.imp id Or.inl) (fun g => Or.inr (Or.inr ⟨hr, g⟩)), fun g => g.elim (fun g => Or.inl (Or.inl g)) (fun g => g.elim (fun g => Or.inl (Or.inr g)) (fun g => Or.inr g.2))⟩
  · rw [ifp_f hr]
    refine h1.congr (fun p => ?_)
    unfold RX
    exact ⟨fun g => g.imp id Or.inl, fun g => g.imp id (fun g => g.elim id (fun g => absurd g.1 hr))⟩
theorem Rb.root {f : Nat → Int32} {a r : Nat} {S : RS} {Y : Nat → Prop} (ha : a ≤ 120) (h0 : 0 < a) (hq : r < a) (h : Rb a S Y) : Rb a (rro f a r S) (fun p => Y p ∨ RY f a r p) := by
  have h1 := Rb.one (f := f) (q := r) (k := 1) ha hq h
  unfold rro
  by_cases hr : pg_right f a r 1
  · rw [ifp_t hr]
    have hok := (hr.2.2.1 rfl).2
    refine (Rb.many (G := rcN f a (r * 48 + 9) (rc1 f a r 1 S)) (st := fun q S => rnd f a q S) (XX := fun q p => NY f a q p) h1 (fun i e => by rw [rcN, ifp_t e]) (fun i e => by rw [rcN, ifp_f e]) 32 (fun i S X hi e g => Rb.node ha h0 (pg_one_nv (hok i hi) ha h0).2.1 g) 32 (Nat.le_refl _)).congr (fun p => ?_)
    unfold RY
    exact ⟨fun g => g.elim (fun g => g.imp id Or.inl) (fun g => Or.inr (Or.inr ⟨hr, g⟩)), fun g => g.elim (fun g => Or.inl (Or.inl g)) (fun g => g.elim (fun g => Or.inl (Or.inr g)) (fun g => Or.inr g.2))⟩
  · rw [ifp_f hr]
    refine h1.congr (fun p => ?_)
    unfold RY
    exact ⟨fun g => g.imp id Or.inl, fun g => g.imp id (fun g => g.elim id (fun g => absurd g.1 hr))⟩
theorem rcA_z {f : Nat → Int32} {a o : Nat} {S : RS} (h : Rz a S (fun _ => False)) : ∀ n, Rz a (rcA f a o S n) (fun p => ∃ j, j < n ∧ RX f a ((o + j) % 8) p)
  | 0 => h.congr (fun p => ⟨False.elim, fun ⟨j, g, _⟩ => absurd g (Nat.not_lt_zero j)⟩)
  | n + 1 => (Rz.root (rcA_z h n)).congr (fun p => by
      constructor
      · rintro (⟨j, g1, g2⟩ | g)
        · exact ⟨j, by omega, g2⟩
        · exact ⟨n, by omega, g⟩
      · rintro ⟨j, g1, g2⟩
        rcases Nat.lt_or_ge j n with g | g
        · exact Or.inl ⟨j, g, g2⟩
        · rw [show j = n by omega] at g2; exact Or.inr g2)
theorem rcA_b {f : Nat → Int32} {a o : Nat} {S : RS} (ha : a ≤ 120) (h8 : 12 ≤ a) (h : Rb a S (fun _ => False)) : ∀ n, Rb a (rcA f a o S n) (fun p => ∃ j, j < n ∧ RY f a ((o + j) % 8) p)
  | 0 => h.congr (fun p => ⟨False.elim, fun ⟨j, g, _⟩ => absurd g (Nat.not_lt_zero j)⟩)
  | n + 1 => (Rb.root ha (by omega) (by omega) (rcA_b ha h8 h n)).congr (fun p => by
      constructor
      · rintro (⟨j, g1, g2⟩ | g)
        · exact ⟨j, by omega, g2⟩
        · exact ⟨n, by omega, g⟩
      · rintro ⟨j, g1, g2⟩
        rcases Nat.lt_or_ge j n with g | g
        · exact Or.inl ⟨j, g, g2⟩
        · rw [show j = n by omega] at g2; exact Or.inr g2)
theorem RX_reach {f : Nat → Int32} {a o n p : Nat} (ha : a ≤ 120) (h8 : 12 ≤ a) : (∃ j, j < n ∧ RX f a ((o + j) % 8) p) ↔ reachS f a o n p := by
  constructor
  · rintro ⟨j, h1, (h2 | ⟨h2, q, h3, (h4 | ⟨h4, r, h5, h6⟩)⟩)⟩
    · exact Or.inl ⟨j, h1, h2.symm⟩
    · exact Or.inr (Or.inl ⟨_, by omega, ⟨j, h1, rfl⟩, h2, by rw [h4]; exact h3⟩)
    · exact Or.inr (Or.inr ⟨q, told_lt ha (by omega) (h2.2.2.1 rfl).2 h3, ⟨_, by omega, ⟨j, h1, rfl⟩, h2, h3⟩, h4, by rw [h6]; exact h5⟩)
  · rintro (⟨j, h1, h2⟩ | ⟨q, h0, ⟨j, h1, rfl⟩, h2, h3⟩ | ⟨q, h0, ⟨r, g0, ⟨j, h1, rfl⟩, h2, h3⟩, h4, h5⟩)
    · exact ⟨j, h1, Or.inl h2.symm⟩
    · exact ⟨j, h1, Or.inr ⟨h2, p, h3, Or.inl rfl⟩⟩
    · exact ⟨j, h1, Or.inr ⟨h2, q, h3, Or.inr ⟨h4, p, h5, rfl⟩⟩⟩
theorem RY_bad {f : Nat → Int32} {a o n p : Nat} (ha : a ≤ 120) (h8 : 12 ≤ a) : (∃ j, j < n ∧ RY f a ((o + j) % 8) p) ↔ badS f a o n p := by
  constructor
  · rintro ⟨j, h1, (⟨h2, h3⟩ | ⟨h2, q, h3, (⟨h4, h5⟩ | ⟨h4, r, h5, h6, h7⟩)⟩)⟩
    · exact Or.inl ⟨⟨j, h1, h2.symm⟩, h3⟩
    · exact Or.inr (Or.inl ⟨⟨_, by omega, ⟨j, h1, rfl⟩, h2, by rw [h4]; exact h3⟩, h5⟩)
    · exact Or.inr (Or.inr ⟨⟨q, told_lt ha (by omega) (h2.2.2.1 rfl).2 h3, ⟨_, by omega, ⟨j, h1, rfl⟩, h2, h3⟩, h4, by rw [h6]; exact h5⟩, h7⟩)
  · rintro (⟨⟨j, h1, h2⟩, h3⟩ | ⟨⟨q, h0, ⟨j, h1, rfl⟩, h2, h3⟩, h4⟩ | ⟨⟨q, h0, ⟨r, g0, ⟨j, h1, rfl⟩, h2, h3⟩, h4, h5⟩, h6⟩)
    · exact ⟨j, h1, Or.inl ⟨h2.symm, h3⟩⟩
    · exact ⟨j, h1, Or.inr ⟨h2, p, h3, Or.inl ⟨rfl, h4⟩⟩⟩
    · exact ⟨j, h1, Or.inr ⟨h2, q, h3, Or.inr ⟨h4, p, h5, rfl, h6⟩⟩⟩
theorem rall_z {f : Nat → Int32} {a o n : Nat} (z : Nat → Int32) (ha : a ≤ 120) (h8 : 12 ≤ a) {p : Nat} (hp : p < a) : (rall f a o n z).1 p = 0 ↔ wk_marks f a o n p = 0 := by
  rw [wk_zero]
  refine ((rcA_z (f := f) (o := o) (S := (clr z a, -1)) ?_ n).congr (fun p => RX_reach ha h8)) p hp
  intro q hq
  show clr z a q = 0 ↔ _
  unfold clr
  rw [if_pos hq]
  exact ⟨fun _ => id, fun _ => rfl⟩
theorem Rb.fd {a : Nat} {S : RS} {Y : Nat → Prop} (ha : a ≤ 120) (h : Rb a S Y) : S.2 = fd Y a 0 := by
  rcases fd_spec Y a 0 with ⟨g1, g2⟩ | ⟨j, g0, g1, g2, g3, g4⟩
  · rcases h with ⟨h1, -⟩ | ⟨p, h0, h1, h2, h3⟩
    · rw [h1, g1]
    · exact absurd h2 (g2 p (Nat.zero_le _) (by omega))
  · rcases h with ⟨h1, h2⟩ | ⟨p, h0, h1, h2, h3⟩
    · exact absurd g2 (h2 j)
    · rw [h1, g3]
      have e1 : ¬ p < j := fun e => g4 p (Nat.zero_le _) e h2
      have e2 : ¬ j < p := fun e => h3 j e g2
      rw [show p = j by omega]
theorem rall_b {f : Nat → Int32} {a ol nw : Nat} (z : Nat → Int32) (ha : a ≤ 120) (h8 : 12 ≤ a) : (rall f a ol (nw + 1 - ol) z).2 = bad_at f a ol nw := by
  have h := (rcA_b (f := f) (o := ol) (S := (clr z a, -1)) ha h8 (Or.inl ⟨rfl, fun _ => id⟩) (nw + 1 - ol)).congr (fun p => RY_bad ha h8)
  unfold bad_at
  refine (h.fd ha).trans (fd_congr a 0 fun p _ hp => ?_)
  rw [wk_bad]
  exact ⟨fun g => ⟨by omega, g⟩, fun g => g.2⟩
theorem free_fr {f : Nat → Int32} {a ol nw n : Nat} (z : Nat → Int32) (ha : a ≤ 120) (h8 : 12 ≤ a) (hn : n < a) : fd (fun p => (rall f a ol (nw + 1 - ol) z).1 p = 0 ∧ n < p) (a - 8) 8 = fr f a ol nw (max 8 (n + 1)) := by
  unfold fr
  have key : ∀ m, 8 ≤ m → m ≤ max 8 (n + 1) → fd (fun p => (rall f a ol (nw + 1 - ol) z).1 p = 0 ∧ n < p) (a - 8) 8 = fd (fun p => (rall f a ol (nw + 1 - ol) z).1 p = 0 ∧ n < p) (a - m) m := by
    intro m
    induction m with
    | zero => intro h; omega
    | succ m ih =>
      intro h1 h2
      rcases Nat.lt_or_ge m 8 with g | g
      · rw [show m + 1 = 8 by omega]
      · rw [ih g (by omega)]
        exact fd_n' (P := fun p => (rall f a ol (nw + 1 - ol) z).1 p = 0 ∧ n < p) (fun q => by have := q.2; omega) (by omega)
  rw [key (max 8 (n + 1)) (by omega) (Nat.le_refl _)]
  refine fd_congr _ _ fun p h1 h2 => ?_
  rw [rall_z z ha h8 (by omega)]
  exact ⟨fun g => g.1, fun g => ⟨g, by omega⟩⟩
