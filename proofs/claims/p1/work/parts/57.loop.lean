/-- cell(script, 0) -/
theorem c_L_cell (l : Launch) (b L : Nat) (xs : Nat → Int32) (hL : L < 2 ^ 31) : ∀ sz : Nat, Met l yL_cell wsL_cell ({ frames := 0, cells := 0, slots := 0, locals := 0 }) (va_Pc [.ref b, .int 0] (fun U => U.heap.size = sz ∧ b < sz ∧ va_X b L xs U U.heap)) (va_Qi (fun (r : Int32) (_ : Unit) => r = (if 0 < L then xs 0 else 0)) (fun _ _ => True) (va_A [] sz)) 0 0 (va_A [] sz) := by
  intro sz
  refine Met.ofW (cc := cL_cell) (maxL := 2) (ret := some .int) (by decide) rfl ?_
  intro p e s m args below meth c s₁ B hml hv
  obtain ⟨rfl, hsz, hbl, hX⟩ := hv
  have hx := B.exec
  have hb := B.bytes
  have hr := B.returns
  have hlocks := B.notSynchronized
  subst hsz
  have hS : va_S (va_A [] s.heap.size) s.heap s.heap [] := va_S.rf
  have hbA : ¬ va_A [] s.heap.size b := fun h => by
    rcases h with ⟨k, e, h⟩ | h
    · simp at h
    · omega
  have hl := lv_entry ([.ref b, .int 0]) (n := 2) (Nat.le_of_ble_eq_true rfl)
  rw [lg_entry_eq]
  generalize (lg_sl ([.ref b, .int 0]) ++ List.replicate (2 - (lg_sl ([.ref b, .int 0])).length) Slot.unset).toArray = ls at hl ⊢
  have hl : lv_has ls 2 [(0, .ref b), (1, .int 0)] := hl
  refine lv_iload_n hx hb dL_cell_0 rfl (lv_at hl 1 rfl) ?_
  refine lv_aload_n hx hb dL_cell_1 rfl (lv_at hl 0 rfl) ?_
  refine va_slen hx hb hX hbl hbA hS dL_cell_2 ?_
  refine lv_icmp_ge (tgt := 12) hx hb dL_cell_3 (by decide) (fun c3 => ?_) (fun c3 => ?_)
  · have e0 : L ≤ 0 := (nI_leI (a := L) (b := 0) hL (by omega)).mp c3
    refine lv_iconst (v := 0) hx hb dL_cell_12 (by decide) ?_
    exact W.iret (v := 0) hx hb hr (fun t ht hW => ⟨⟨0, (), rfl, by rw [if_neg (by omega)], trivial⟩, hS.F ht⟩) hS.2.2 dL_cell_13 hlocks
  · have e0 : ¬ L ≤ 0 := fun g => c3 ((nI_leI (a := L) (b := 0) hL (by omega)).mpr g)
    refine lv_aload_n hx hb dL_cell_6 rfl (lv_at hl 0 rfl) ?_
    refine lv_iload_n hx hb dL_cell_7 rfl (lv_at hl 1 rfl) ?_
    refine va_sld hx hb hX hbl hbA hS (vp_in_nI (n := 0) (by omega) (by omega)) dL_cell_8 ?_
    refine lv_goto (tgt := 13) hx hb dL_cell_9 (by decide) ?_
    exact W.iret (v := xs 0) hx hb hr (fun t ht hW => ⟨⟨xs 0, (), rfl, by rw [if_pos (by omega)], trivial⟩, hS.F ht⟩) hS.2.2 dL_cell_13 hlocks
/-- its call from the law -/
theorem law_cell {p : Program} {l : Launch} {e : Env} {s : State} {m : MethodId} {below : List Frame} {meth : Method} {c : Code} {D : va_G} {cI cZ : ClassId} {A : Nat → Prop} {b L : Nat} {xs : Nat → Int32} {H : Heap} {locs : List Loc} {cells slots : Nat} {ws : va_W} {pc : Nat} {ls : Array Slot} {rest : List Value} (hL : L ≤ 5) (hx : p.tables.exec = Jvm.exec) (hb : c.code = code) (hml : c.maxLocals = 4) (hown : s.vm.findClass RL = some m.cls) (hts : ∀ w ∈ wsL_law, w.before #[Value.ref b] s = true) (hX : va_X b L xs s s.heap) (hbl : b < s.heap.size) (hbA : ¬ A b) (hA : ∀ q : Nat, s.heap.size ≤ q → A q) (hK : va_K D vwCl (ct_T cI cZ) s) (hN : nw_ok s) (hS : va_S A s.heap H locs) (hP : va_P D vwCl ws H) (hl : ls.size = 4) (hr8 : (rest.map fun v => v.category).sum ≤ 8) (hc : cells ≤ room_1.cells ∧ slots ≤ room_1.slots) (hdg : decode code pc = .ok (.invokestatic 9, 3))
    (kk : ∀ (H1 : Heap) (locs1 : List Loc), va_P D vwCl ws H1 → va_S A s.heap H1 locs1 → W p l e room_1 s m #[Value.ref b] below meth c H1 locs1 cells slots (lw_Z below #[Value.ref b] s) (F0 m (pc + 3) ls (.int (if 0 < L then xs 0 else 0) :: rest))) :
    W p l e room_1 s m #[Value.ref b] below meth c H locs cells slots (lw_Z below #[Value.ref b] s) (F0 m pc ls (.int 0 :: .ref b :: rest)) := by
  have hXH : va_X b L xs s H := hX.kept (hS.2.1 b hbl hbA)
  refine va_calli (A0 := A) (va_runS (As := [.ref b, .int 0]) (rest := rest) ⟨hx, hb, hml, hown, hts⟩ (c_L_cell l b L xs (by omega) H.size) (va_cwS 2 hts gL_law_L_cell rfl rfl rfl (by decide +kernel) ⟨Nat.le_of_ble_eq_true rfl, Nat.le_of_ble_eq_true rfl⟩) ⟨fun a U g mk q => ?_, fun U hU hW => ⟨rfl, by rw [hU], Nat.lt_of_lt_of_le hbl hS.1, ?_⟩⟩ rfl rfl hl rfl (lv_room hr8) hdg hc) hS (fun q hq h => ?_) (fun q h => ?_) (fun r u t H1 locs1 ht hvm hw hB hz1 hk1 hS1 => ?_)
  · obtain ⟨q0, q1, q2, q3⟩ := q
    exact ⟨q0, q1, q2, va_X.moved (u := U) (U := U.calling g mk a) (Vm.Alike.refl U.vm) q3⟩
  · rw [hU]
    exact va_X.moved hW.alike hXH
  · rcases h with ⟨k, e, h⟩ | h
    · simp at h
    · omega
  · rcases h with ⟨k, e, h⟩ | h
    · simp at h
    · exact hA q (Nat.le_trans hS.1 h)
  · have hw' : r = (if 0 < L then xs 0 else 0) := hw
    subst hw'
    refine kk H1 locs1 (hP.kept (fun k q hq => hk1 q.1 ((hP k q hq).lt) (fun h => ?_))) hS1
    rcases h with ⟨k2, e, h⟩ | h
    · simp at h
    · have := (hP k q hq).lt
      omega
theorem lt4 {i L : Nat} (hi : i < 2 ^ 30) (hL : L < 2 ^ 30) (h : ¬ nI L - 4 < nI i) : i + 4 ≤ L := by
  have e : (nI L - 4).toInt = (L : Int) - 4 := pk_sub_toInt (a := L) (b := 4) hL (by omega)
  have h3 : ¬ (nI L - 4).toInt < (nI i).toInt := fun q => h (Int32.lt_iff_toInt_lt.mpr q)
  rw [e, nI_toInt (by omega)] at h3
  omega

set_option maxHeartbeats 4000000 in
set_option maxRecDepth 100000 in
/-- THE LAW'S LOOP -/
theorem law_loop {p : Program} {l : Launch} {e : Env} {s : State} {m : MethodId} {below : List Frame} {meth : Method} {c : Code} {D : va_G} {cI cZ : ClassId} {A : Nat → Prop} {b L : Nat} {xs : Nat → Int32} (hL : L ≤ 5) (hx : p.tables.exec = Jvm.exec) (hb : c.code = code) (hml : c.maxLocals = 4) (hown : s.vm.findClass RL = some m.cls) (hts : ∀ w ∈ wsL_law, w.before #[Value.ref b] s = true) (hX : va_X b L xs s s.heap) (hbl : b < s.heap.size) (hbA : ¬ A b) (hA : ∀ q : Nat, s.heap.size ≤ q → A q) (hK : va_K D vwCl (ct_T cI cZ) s) (hN : nw_ok s) (hr : meth.sig.returnType = ret) (hlocks : meth.locks = false) (hAf : ∀ q : Nat, A q → s.heap.size ≤ q) : ∀ (n i : Nat), 1 ≤ i → i ≤ L + 4 → L + 5 ≤ i + n → LG p l e s m below meth c D cI cZ A b 28 i := by
  intro n
  induction n with
  | zero =>
    intro i h1 h2 h3
    exact absurd h3 (by omega)
  | succ n ih =>
    intro i h1 h2 h3
    intro h0 hd hB hR hM hw hT hJ hm gB gT gZ a tc nw ol f M t pl O lf us f' t' z O' lf' us' bd tc' nw' ol' hrel H locs hP hD hS ls hl
    refine lv_iload_n hx hb dL_law_28 rfl (lv_at hl 0 rfl) ?_
    refine lv_aload_n hx hb dL_law_29 rfl (lv_at hl 3 rfl) ?_
    refine va_slen hx hb hX hbl hbA hS dL_law_30 ?_
    refine lv_iconst (v := 4) hx hb dL_law_31 (by decide) ?_
    refine lv_isub hx hb dL_law_32 ?_
    refine lv_icmp_gt (tgt := 497) hx hb dL_law_33 (by decide) (fun c33 => ?_) (fun c33 => ?_)
    · refine lv_iconst (v := 1) hx hb dL_law_497 (by decide) ?_
      refine va_forget (fun q hq => hAf _ (hS.2.2 q hq)) ?_
      refine W.widen (k := 600000) (n := 7302250) (by omega) (by omega) ?_
      exact lw_ret hx hb hr hlocks dL_law_498
    · have hi4 : i + 4 ≤ L := lt4 (by omega) (by omega) c33
      refine lv_aload_n hx hb dL_law_36 rfl (lv_at hl 3 rfl) ?_
      refine lv_iload_n hx hb dL_law_37 rfl (lv_at hl 0 rfl) ?_
      refine va_sld hx hb hX hbl hbA hS (vp_in_nI (n := i) (by omega) (by omega)) dL_law_38 ?_
      refine lv_bipush (v := 15) hx hb dL_law_39 (by decide) ?_
      refine lv_iand hx hb dL_law_41 ?_
      obtain ⟨j, hj, ej⟩ := pk_andE (xs (nI i).toNatClampNeg) (m := 15) 4 (by decide)
      refine ct_top ej ?_
      have hj16 : j < 16 := hj
      have ihi := ih (i + 4) (by omega) (by omega) (by omega)
      rcases (show j = 0 ∨ j = 1 ∨ j = 2 ∨ j = 3 ∨ j = 4 ∨ j = 5 ∨ j = 6 ∨ j = 7 ∨ j = 8 ∨ j = 9 ∨ j = 10 ∨ j = 11 ∨ j = 12 ∨ j = 13 ∨ j = 14 ∨ j = 15 by omega) with rfl | rfl | rfl | rfl | rfl | rfl | rfl | rfl | rfl | rfl | rfl | rfl | rfl | rfl | rfl | rfl
      · refine lv_tableIn (tgt := 116) hx hb dL_law_42 (by decide) (by decide) rfl (by decide) ?_
        exact law_c0 hL hx hb hml hown hts hX hbl hbA hA hK hN h1 hi4 ihi h0 hd hB hR hM hw hT hJ hm gB gT gZ a tc nw ol f M t pl O lf us f' t' z O' lf' us' bd tc' nw' ol' hrel H locs hP hD hS ls hl
      · refine lv_tableIn (tgt := 139) hx hb dL_law_42 (by decide) (by decide) rfl (by decide) ?_
        exact law_c1 hL hx hb hml hown hts hX hbl hbA hA hK hN h1 hi4 ihi h0 hd hB hR hM hw hT hJ hm gB gT gZ a tc nw ol f M t pl O lf us f' t' z O' lf' us' bd tc' nw' ol' hrel H locs hP hD hS ls hl
      · refine lv_tableIn (tgt := 162) hx hb dL_law_42 (by decide) (by decide) rfl (by decide) ?_
        exact law_c2 hL hx hb hml hown hts hX hbl hbA hA hK hN h1 hi4 ihi h0 hd hB hR hM hw hT hJ hm gB gT gZ a tc nw ol f M t pl O lf us f' t' z O' lf' us' bd tc' nw' ol' hrel H locs hP hD hS ls hl
      · refine lv_tableIn (tgt := 185) hx hb dL_law_42 (by decide) (by decide) rfl (by decide) ?_
        exact law_c3 hL hx hb hml hown hts hX hbl hbA hA hK hN h1 hi4 ihi h0 hd hB hR hM hw hT hJ hm gB gT gZ a tc nw ol f M t pl O lf us f' t' z O' lf' us' bd tc' nw' ol' hrel H locs hP hD hS ls hl
      · refine lv_tableIn (tgt := 208) hx hb dL_law_42 (by decide) (by decide) rfl (by decide) ?_
        exact law_c4 hL hx hb hml hown hts hX hbl hbA hA hK hN h1 hi4 ihi h0 hd hB hR hM hw hT hJ hm gB gT gZ a tc nw ol f M t pl O lf us f' t' z O' lf' us' bd tc' nw' ol' hrel H locs hP hD hS ls hl
      · refine lv_tableIn (tgt := 241) hx hb dL_law_42 (by decide) (by decide) rfl (by decide) ?_
        exact law_c5 hL hx hb hml hown hts hX hbl hbA hA hK hN h1 hi4 ihi h0 hd hB hR hM hw hT hJ hm gB gT gZ a tc nw ol f M t pl O lf us f' t' z O' lf' us' bd tc' nw' ol' hrel H locs hP hD hS ls hl
      · refine lv_tableIn (tgt := 284) hx hb dL_law_42 (by decide) (by decide) rfl (by decide) ?_
        exact law_c6 hL hx hb hml hown hts hX hbl hbA hA hK hN h1 hi4 ihi h0 hd hB hR hM hw hT hJ hm gB gT gZ a tc nw ol f M t pl O lf us f' t' z O' lf' us' bd tc' nw' ol' hrel H locs hP hD hS ls hl
      · refine lv_tableIn (tgt := 317) hx hb dL_law_42 (by decide) (by decide) rfl (by decide) ?_
        exact law_c7 hL hx hb hml hown hts hX hbl hbA hA hK hN h1 hi4 ihi h0 hd hB hR hM hw hT hJ hm gB gT gZ a tc nw ol f M t pl O lf us f' t' z O' lf' us' bd tc' nw' ol' hrel H locs hP hD hS ls hl
      · refine lv_tableIn (tgt := 340) hx hb dL_law_42 (by decide) (by decide) rfl (by decide) ?_
        exact law_c8 hL hx hb hml hown hts hX hbl hbA hA hK hN h1 hi4 ihi h0 hd hB hR hM hw hT hJ hm gB gT gZ a tc nw ol f M t pl O lf us f' t' z O' lf' us' bd tc' nw' ol' hrel H locs hP hD hS ls hl
      · refine lv_tableIn (tgt := 353) hx hb dL_law_42 (by decide) (by decide) rfl (by decide) ?_
        exact law_c9 hL hx hb hml hown hts hX hbl hbA hA hK hN h1 hi4 ihi h0 hd hB hR hM hw hT hJ hm gB gT gZ a tc nw ol f M t pl O lf us f' t' z O' lf' us' bd tc' nw' ol' hrel H locs hP hD hS ls hl
      · refine lv_tableIn (tgt := 396) hx hb dL_law_42 (by decide) (by decide) rfl (by decide) ?_
        exact law_c10 hL hx hb hml hown hts hX hbl hbA hA hK hN h1 hi4 ihi h0 hd hB hR hM hw hT hJ hm gB gT gZ a tc nw ol f M t pl O lf us f' t' z O' lf' us' bd tc' nw' ol' hrel H locs hP hD hS ls hl
      · refine lv_tableIn (tgt := 429) hx hb dL_law_42 (by decide) (by decide) rfl (by decide) ?_
        exact law_c11 hL hx hb hml hown hts hX hbl hbA hA hK hN h1 hi4 ihi h0 hd hB hR hM hw hT hJ hm gB gT gZ a tc nw ol f M t pl O lf us f' t' z O' lf' us' bd tc' nw' ol' hrel H locs hP hD hS ls hl
      · refine lv_tableIn (tgt := 442) hx hb dL_law_42 (by decide) (by decide) rfl (by decide) ?_
        exact law_c12 hL hx hb hml hown hts hX hbl hbA hA hK hN h1 hi4 ihi h0 hd hB hR hM hw hT hJ hm gB gT gZ a tc nw ol f M t pl O lf us f' t' z O' lf' us' bd tc' nw' ol' hrel H locs hP hD hS ls hl
      · refine lv_tableIn (tgt := 465) hx hb dL_law_42 (by decide) (by decide) rfl (by decide) ?_
        exact law_c13 hL hx hb hml hown hts hX hbl hbA hA hK hN h1 hi4 ihi h0 hd hB hR hM hw hT hJ hm gB gT gZ a tc nw ol f M t pl O lf us f' t' z O' lf' us' bd tc' nw' ol' hrel H locs hP hD hS ls hl
      · refine lv_tableIn (tgt := 478) hx hb dL_law_42 (by decide) (by decide) rfl (by decide) ?_
        exact law_c14 hL hx hb hml hown hts hX hbl hbA hA hK hN h1 hi4 ihi h0 hd hB hR hM hw hT hJ hm gB gT gZ a tc nw ol f M t pl O lf us f' t' z O' lf' us' bd tc' nw' ol' hrel H locs hP hD hS ls hl
      · refine lv_tableOut (tgt := 491) hx hb dL_law_42 (Or.inr (by decide)) (by decide) ?_
        refine lv_iinc (v := nI (i + 4)) (lv' := [(3, .int (nI (i + 4))), (2, .ref hm), (1, .ref h0), (0, .ref b)]) hx hb dL_law_491 hl (k := 0) rfl (nI_add i 4) (by decide) rfl (fun ls hl => ?_)
        refine lv_goto (tgt := 28) hx hb dL_law_494 (by decide) ?_
        exact ihi h0 hd hB hR hM hw hT hJ hm gB gT gZ a tc nw ol f M t pl O lf us f' t' z O' lf' us' bd tc' nw' ol' (Or.inl (by omega)) H locs hP hD hS ls hl
