/-! new arrays, with the class that the tables tell -/
section CTN
variable {p : Program} {l : Launch} {e : Env} {R : Room} {s : State} {m : MethodId} {args : Array Value} {below : List Frame} {meth : Method} {c : Code} {H : Heap} {locs : List Loc} {cells slots : Nat} {Q : State → Prop}
variable {cc : ByteArray} {pc : Nat} {ls : Array Slot} {rest : List Value} {D : va_G} {cl : List vw_C} {A : Nat → Prop} {cI cZ : ClassId} {ws : va_W} {H0 : Heap}
theorem ct_newi (hexec : p.tables.exec = Jvm.exec) (hb : c.code = cc) (harr : (Cond.arrayClass .int).before args s = true) (hK : va_K D cl (ct_T cI cZ) s) (hP : va_P D cl ws H) (hD : va_D A ws) (hS : va_S A H0 H locs) (hA : ∀ q, H0.size ≤ q → A q)
    {n : Nat} (hn : n ≤ 6000) (hcells : cells + 1 ≤ R.cells) (hslots : slots + n ≤ R.slots) (hdg : decode cc pc = .ok (.newarray .int, 2))
    (kk : ∀ (q : Nat) (H1 : Heap), va_P D cl (ws ++ [(q, .inl (cI, n, .inl (fun _ => 0)))]) H1 → va_D A (ws ++ [(q, .inl (cI, n, .inl (fun _ => 0)))]) → va_S A H0 H1 locs →
      W p l e R s m args below meth c H1 locs (cells + 1) (slots + n) Q (F0 m (pc + 2) ls (.ref q :: rest))) : W p l e R s m args below meth c H locs cells slots Q (F0 m pc ls (.int (nI n) :: rest)) := by
  refine va_newa (atype := .int) (ty := .int) (a0 := (n, .inl (fun _ => 0))) hexec hb harr rfl hK hP hD hS hA (fun cA => by rw [vp_cell_i]; rfl) (nI_pos (by omega)) (nI_clamp (by omega)) (by show n * 4 ≤ 536870912; omega) hcells hslots hdg (fun q cA H1 hK1 hP1 hD1 hS1 => ?_)
  have e1 : s.vm.findClass ("[" ++ FieldType.int.toString) = some cA := (hK1.2 2 (cA, .int) rfl).2
  have e2 : s.vm.findClass ("[" ++ FieldType.int.toString) = some cI := (hK.2 0 (cI, .int) rfl).2
  have e3 : cA = cI := Option.some.inj (e1.symm.trans e2)
  subst e3
  exact kk q H1 hP1 hD1 hS1
theorem ct_newz (hexec : p.tables.exec = Jvm.exec) (hb : c.code = cc) (harr : (Cond.arrayClass .boolean).before args s = true) (hK : va_K D cl (ct_T cI cZ) s) (hP : va_P D cl ws H) (hD : va_D A ws) (hS : va_S A H0 H locs) (hA : ∀ q, H0.size ≤ q → A q)
    {n : Nat} (hn : n ≤ 6000) (hcells : cells + 1 ≤ R.cells) (hslots : slots + n ≤ R.slots) (hdg : decode cc pc = .ok (.newarray .boolean, 2))
    (kk : ∀ (q : Nat) (H1 : Heap), va_P D cl (ws ++ [(q, .inl (cZ, n, .inl (fun _ => 0)))]) H1 → va_D A (ws ++ [(q, .inl (cZ, n, .inl (fun _ => 0)))]) → va_S A H0 H1 locs →
      W p l e R s m args below meth c H1 locs (cells + 1) (slots + n) Q (F0 m (pc + 2) ls (.ref q :: rest))) : W p l e R s m args below meth c H locs cells slots Q (F0 m pc ls (.int (nI n) :: rest)) := by
  refine va_newa (atype := .boolean) (ty := .boolean) (a0 := (n, .inl (fun _ => 0))) hexec hb harr rfl hK hP hD hS hA (fun cA => by rw [vp_cell_i]; rfl) (nI_pos (by omega)) (nI_clamp (by omega)) (by show n * 1 ≤ 536870912; omega) hcells hslots hdg (fun q cA H1 hK1 hP1 hD1 hS1 => ?_)
  have e1 : s.vm.findClass ("[" ++ FieldType.boolean.toString) = some cA := (hK1.2 2 (cA, .boolean) rfl).2
  have e2 : s.vm.findClass ("[" ++ FieldType.boolean.toString) = some cZ := (hK.2 1 (cZ, .boolean) rfl).2
  have e3 : cA = cZ := Option.some.inj (e1.symm.trans e2)
  subst e3
  exact kk q H1 hP1 hD1 hS1
end CTN
/-- how many pages -/
def amt (x : Int32) : Nat := nv (if x < 12 then 12 else if 120 < x then 120 else x)
theorem amt_sp (x : Int32) : (if x < 12 then 12 else if 120 < x then 120 else x) = nI (amt x) ∧ 12 ≤ amt x ∧ amt x ≤ 120 := by
  unfold amt
  by_cases h1 : x < 12
  · rw [if_pos h1]; exact ⟨rfl, by decide, by decide⟩
  · rw [if_neg h1]
    by_cases h2 : 120 < x
    · rw [if_pos h2]; exact ⟨rfl, by decide, by decide⟩
    · rw [if_neg h2]
      obtain ⟨n, hn, rfl⟩ := nI_of (fun g => h1 (Int32.lt_trans g (by decide)))
      rw [nv_nI hn]
      exact ⟨rfl, Nat.le_of_not_lt fun g => h1 ((nI_ltI (a := n) (b := 12) hn (by omega)).mpr g), Nat.le_of_not_lt fun g => h2 ((nI_ltI (a := 120) (b := n) (by omega) hn).mpr g)⟩
theorem amt_c (x : Int32) : (if 12 < (if x < 120 then x else 120) then (if x < 120 then x else 120) else 12) = nI (amt x) := by
  rw [← (amt_sp x).1]
  by_cases h1 : x < 12
  · have h2 : x < 120 := Int32.lt_trans h1 (by decide)
    rw [if_pos h2, if_pos h1, if_neg (fun g => Int32.lt_irrefl (Int32.lt_trans h1 g))]
  · rw [if_neg h1]
    by_cases h2 : 120 < x
    · rw [if_pos h2, if_neg (fun g => Int32.lt_irrefl (Int32.lt_trans g h2)), if_pos (by decide)]
    · rw [if_neg h2]
      by_cases h3 : x < 120
      · rw [if_pos h3]
        by_cases h4 : 12 < x
        · rw [if_pos h4]
        · rw [if_neg h4]; exact Int32.le_antisymm (Int32.not_lt.mp h1) (Int32.not_lt.mp h4)
      · rw [if_neg h3, if_pos (by decide)]
        exact Int32.le_antisymm (Int32.not_lt.mp h3) (Int32.not_lt.mp h2)
