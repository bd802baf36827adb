set_option maxHeartbeats 4000000 in
set_option maxRecDepth 100000 in
/-- the law at byteAt -/
theorem law_c10 {p : Program} {l : Launch} {e : Env} {s : State} {m : MethodId} {below : List Frame} {meth : Method} {c : Code} {D : va_G} {cI cZ : ClassId} {A : Nat → Prop} {b L : Nat} {xs : Nat → Int32} (hL : L ≤ 5) (hx : p.tables.exec = Jvm.exec) (hb : c.code = code) (hml : c.maxLocals = 4) (hown : s.vm.findClass RL = some m.cls) (hts : ∀ w ∈ wsL_law, w.before #[Value.ref b] s = true) (hX : va_X b L xs s s.heap) (hbl : b < s.heap.size) (hbA : ¬ A b) (hA : ∀ q : Nat, s.heap.size ≤ q → A q) (hK : va_K D vwCl (ct_T cI cZ) s) (hN : nw_ok s) {i : Nat} (hi1 : 1 ≤ i) (hi4 : i + 4 ≤ L) (ih : LG p l e s m below meth c D cI cZ A b 28 (i + 4)) : LG p l e s m below meth c D cI cZ A b 396 i := by
  intro h0 hd hB hR hM hw hT hJ hm gB gT gZ a tc nw ol f M t pl O lf us f' t' z O' lf' us' bd tc' nw' ol' hrel H locs hP hD hS ls hl
  obtain ⟨⟨e1, e2, e3, e4, e5, e6, inv⟩, hz, hz1⟩ := hrel.resolve_left (by omega)
  have e1 := e1.symm; have e2 := e2.symm; have e3 := e3.symm; have e4 := e4.symm; have e5 := e5.symm; have e6 := e6.symm
  subst e1 e2 e3 e4 e5 e6
  obtain ⟨ha, h12, htc, htc', hnw, hNv, hby, hty, hpo⟩ := id inv
  have hol := hNv.hol
  have hon := hNv.hon
  have hv0 := hNv.hv0
  refine lv_aload_n hx hb dL_law_396 rfl (lv_at hl 2 rfl) ?_
  refine lv_aload_n hx hb dL_law_397 rfl (lv_at hl 3 rfl) ?_
  refine lv_iload_n hx hb dL_law_398 rfl (lv_at hl 0 rfl) ?_
  refine lv_iconst (v := 1) hx hb dL_law_399 (by decide) ?_
  refine lv_iadd hx hb dL_law_400 ?_
  refine ct_top (y := nI (i + 1)) (nI_add i 1) ?_
  refine va_sld hx hb hX hbl hbA hS (vp_in_nI (n := (i + 1)) (by omega) (by omega)) dL_law_401 ?_
  refine ct_top (y := xs (i + 1)) (by rw [nI_clamp (by omega)]) ?_
  refine lv_aload_n hx hb dL_law_402 rfl (lv_at hl 3 rfl) ?_
  refine lv_iload_n hx hb dL_law_403 rfl (lv_at hl 0 rfl) ?_
  refine lv_iconst (v := 2) hx hb dL_law_404 (by decide) ?_
  refine lv_iadd hx hb dL_law_405 ?_
  refine ct_top (y := nI (i + 2)) (nI_add i 2) ?_
  refine va_sld hx hb hX hbl hbA hS (vp_in_nI (n := (i + 2)) (by omega) (by omega)) dL_law_406 ?_
  refine ct_top (y := xs (i + 2)) (by rw [nI_clamp (by omega)]) ?_
  refine ct_calli (w := [(h0, .inr (3, [.ref hd, .ref hR, .ref hw, .ref hT, .ref hJ, .int (nI tc), .int (nI nw), .int (nI ol)])), (hd, .inr (0, [.int (nI a), .ref hB])), (hB, .inl (cI, a * 48, .inl f)), (hR, .inr (2, [.ref hM])), (hM, .inl (cI, a, .inl M)), (hw, .inr (1, [.int (b2i O), .int lf, .int us])), (hT, .inl (cI, 32, .inl t)), (hJ, .inl (cI, 32, .inl pl))]) (w' := [(h0, .inr (3, [.ref hd, .ref hR, .ref hw, .ref hT, .ref hJ, .int (nI tc), .int (nI nw), .int (nI ol)])), (hd, .inr (0, [.int (nI a), .ref hB])), (hB, .inl (cI, a * 48, .inl f)), (hR, .inr (2, [.ref hM])), (hM, .inl (cI, a, .inl M)), (hw, .inr (1, [.int (b2i O), .int lf, .int us])), (hT, .inl (cI, 32, .inl t)), (hJ, .inl (cI, 32, .inl pl))]) (va_runV (As := [.int (xs (i + 1)), .int (xs (i + 2))]) (rest := []) ⟨hx, hb, hml, hown, hts⟩ (c_X3_byteAt l D cI cZ h0 hd hB hR hM hw hT hJ a tc nw ol f M t pl O lf us (xs (i + 1)) (xs (i + 2)) (by omega) (by omega) (by omega) (by omega) (by omega)  _) (cwV 2 hts gL_law_X3_byteAt rfl rfl rfl (by decide +kernel) ⟨Nat.le_of_ble_eq_true rfl, Nat.le_of_ble_eq_true rfl⟩) (ct_preV (w := [(h0, .inr (3, [.ref hd, .ref hR, .ref hw, .ref hT, .ref hJ, .int (nI tc), .int (nI nw), .int (nI ol)])), (hd, .inr (0, [.int (nI a), .ref hB])), (hB, .inl (cI, a * 48, .inl f)), (hR, .inr (2, [.ref hM])), (hM, .inl (cI, a, .inl M)), (hw, .inr (1, [.int (b2i O), .int lf, .int us])), (hT, .inl (cI, 32, .inl t)), (hJ, .inl (cI, 32, .inl pl))]) (ci := 3) (i0 := 0) hK hN hP hD [0, 1, 2, 3, 4, 5, 6, 7] (by decide) rfl rfl rfl) rfl rfl hl.1 rfl (lv_room (Nat.le_of_ble_eq_true rfl)) dL_law_407 ⟨Nat.le_of_ble_eq_true rfl, Nat.le_of_ble_eq_true rfl⟩) hP hD hS hA [0, 1, 2, 3, 4, 5, 6, 7] rfl [h0, hd, hB, hR, hM, hw, hT, hJ] rfl rfl (fun H locs hP hD hS => ?_)
  have hP : va_P D vwCl [(h0, .inr (3, [.ref hd, .ref hR, .ref hw, .ref hT, .ref hJ, .int (nI tc), .int (nI nw), .int (nI ol)])), (hd, .inr (0, [.int (nI a), .ref hB])), (hB, .inl (cI, a * 48, .inl f)), (hR, .inr (2, [.ref hM])), (hM, .inl (cI, a, .inl M)), (hw, .inr (1, [.int (b2i O), .int lf, .int us])), (hT, .inl (cI, 32, .inl t)), (hJ, .inl (cI, 32, .inl pl)), (hm, .inr (4, [.int 0, .int (nI a), .ref gB, .int (nI nw), .int (nI ol), .int (b2i O), .int lf', .int us, .int (nI tc'), .ref gT, .ref gZ, .int bd])), (gB, .inl (cI, 5760, .inl f)), (gT, .inl (cI, 32, .inl t)), (gZ, .inl (cZ, 120, .inl z))] _ := hP
  have hD : va_D A [(h0, .inr (3, [.ref hd, .ref hR, .ref hw, .ref hT, .ref hJ, .int (nI tc), .int (nI nw), .int (nI ol)])), (hd, .inr (0, [.int (nI a), .ref hB])), (hB, .inl (cI, a * 48, .inl f)), (hR, .inr (2, [.ref hM])), (hM, .inl (cI, a, .inl M)), (hw, .inr (1, [.int (b2i O), .int lf, .int us])), (hT, .inl (cI, 32, .inl t)), (hJ, .inl (cI, 32, .inl pl)), (hm, .inr (4, [.int 0, .int (nI a), .ref gB, .int (nI nw), .int (nI ol), .int (b2i O), .int lf', .int us, .int (nI tc'), .ref gT, .ref gZ, .int bd])), (gB, .inl (cI, 5760, .inl f)), (gT, .inl (cI, 32, .inl t)), (gZ, .inl (cZ, 120, .inl z))] := hD
  refine lv_aload_n hx hb dL_law_410 rfl (lv_at hl 1 rfl) ?_
  refine lv_aload_n hx hb dL_law_411 rfl (lv_at hl 3 rfl) ?_
  refine lv_iload_n hx hb dL_law_412 rfl (lv_at hl 0 rfl) ?_
  refine lv_iconst (v := 1) hx hb dL_law_413 (by decide) ?_
  refine lv_iadd hx hb dL_law_414 ?_
  refine ct_top (y := nI (i + 1)) (nI_add i 1) ?_
  refine va_sld hx hb hX hbl hbA hS (vp_in_nI (n := (i + 1)) (by omega) (by omega)) dL_law_415 ?_
  refine ct_top (y := xs (i + 1)) (by rw [nI_clamp (by omega)]) ?_
  refine lv_aload_n hx hb dL_law_416 rfl (lv_at hl 3 rfl) ?_
  refine lv_iload_n hx hb dL_law_417 rfl (lv_at hl 0 rfl) ?_
  refine lv_iconst (v := 2) hx hb dL_law_418 (by decide) ?_
  refine lv_iadd hx hb dL_law_419 ?_
  refine ct_top (y := nI (i + 2)) (nI_add i 2) ?_
  refine va_sld hx hb hX hbl hbA hS (vp_in_nI (n := (i + 2)) (by omega) (by omega)) dL_law_420 ?_
  refine ct_top (y := xs (i + 2)) (by rw [nI_clamp (by omega)]) ?_
  refine ct_calli (w := [(hm, .inr (4, [.int 0, .int (nI a), .ref gB, .int (nI nw), .int (nI ol), .int (b2i O), .int lf', .int us, .int (nI tc'), .ref gT, .ref gZ, .int bd])), (gB, .inl (cI, 5760, .inl f)), (gT, .inl (cI, 32, .inl t)), (gZ, .inl (cZ, 120, .inl z))]) (w' := [(hm, .inr (4, [.int 0, .int (nI a), .ref gB, .int (nI nw), .int (nI ol), .int (b2i O), .int lf', .int us, .int (nI tc'), .ref gT, .ref gZ, .int bd])), (gB, .inl (cI, 5760, .inl f)), (gT, .inl (cI, 32, .inl t)), (gZ, .inl (cZ, 120, .inl z))]) (va_runV (As := [.int (xs (i + 1)), .int (xs (i + 2))]) (rest := [.int (sp_byte f a (xs (i + 1)) (xs (i + 2)))]) ⟨hx, hb, hml, hown, hts⟩ (c_X4_byteAt l D cI cZ hm gB gT gZ a tc' nw ol f t z O lf' us bd (xs (i + 1)) (xs (i + 2)) (by omega) (by omega) (by omega) (by omega) (by omega)  _) (cwV 2 hts gL_law_X4_byteAt rfl rfl rfl (by decide +kernel) ⟨Nat.le_of_ble_eq_true rfl, Nat.le_of_ble_eq_true rfl⟩) (ct_preV (w := [(hm, .inr (4, [.int 0, .int (nI a), .ref gB, .int (nI nw), .int (nI ol), .int (b2i O), .int lf', .int us, .int (nI tc'), .ref gT, .ref gZ, .int bd])), (gB, .inl (cI, 5760, .inl f)), (gT, .inl (cI, 32, .inl t)), (gZ, .inl (cZ, 120, .inl z))]) (ci := 4) (i0 := 8) hK hN hP hD [8, 9, 10, 11] (by decide) rfl rfl rfl) rfl rfl hl.1 rfl (lv_room (Nat.le_of_ble_eq_true rfl)) dL_law_421 ⟨Nat.le_of_ble_eq_true rfl, Nat.le_of_ble_eq_true rfl⟩) hP hD hS hA [8, 9, 10, 11] rfl [hm, gB, gT, gZ] rfl rfl (fun H locs hP hD hS => ?_)
  have hP : va_P D vwCl [(h0, .inr (3, [.ref hd, .ref hR, .ref hw, .ref hT, .ref hJ, .int (nI tc), .int (nI nw), .int (nI ol)])), (hd, .inr (0, [.int (nI a), .ref hB])), (hB, .inl (cI, a * 48, .inl f)), (hR, .inr (2, [.ref hM])), (hM, .inl (cI, a, .inl M)), (hw, .inr (1, [.int (b2i O), .int lf, .int us])), (hT, .inl (cI, 32, .inl t)), (hJ, .inl (cI, 32, .inl pl)), (hm, .inr (4, [.int 0, .int (nI a), .ref gB, .int (nI nw), .int (nI ol), .int (b2i O), .int lf', .int us, .int (nI tc'), .ref gT, .ref gZ, .int bd])), (gB, .inl (cI, 5760, .inl f)), (gT, .inl (cI, 32, .inl t)), (gZ, .inl (cZ, 120, .inl z))] _ := hP
  have hD : va_D A [(h0, .inr (3, [.ref hd, .ref hR, .ref hw, .ref hT, .ref hJ, .int (nI tc), .int (nI nw), .int (nI ol)])), (hd, .inr (0, [.int (nI a), .ref hB])), (hB, .inl (cI, a * 48, .inl f)), (hR, .inr (2, [.ref hM])), (hM, .inl (cI, a, .inl M)), (hw, .inr (1, [.int (b2i O), .int lf, .int us])), (hT, .inl (cI, 32, .inl t)), (hJ, .inl (cI, 32, .inl pl)), (hm, .inr (4, [.int 0, .int (nI a), .ref gB, .int (nI nw), .int (nI ol), .int (b2i O), .int lf', .int us, .int (nI tc'), .ref gT, .ref gZ, .int bd])), (gB, .inl (cI, 5760, .inl f)), (gT, .inl (cI, 32, .inl t)), (gZ, .inl (cZ, 120, .inl z))] := hD
  refine lv_icmp_eq (tgt := 491) hx hb dL_law_424 (by decide) (fun c424 => ?_) (fun c424 => ?_)
  · skip
    refine lv_iinc (v := nI (i + 4)) (lv' := [(3, .int (nI (i + 4))), (2, .ref hm), (1, .ref h0), (0, .ref b)]) hx hb dL_law_491 hl (k := 0) rfl (nI_add i 4) (by decide) rfl (fun ls hl => ?_)
    refine lv_goto (tgt := 28) hx hb dL_law_494 (by decide) ?_
    exact ih h0 hd hB hR hM hw hT hJ hm gB gT gZ a tc nw ol f M t pl O lf us f t z O lf' us bd tc' nw ol (Or.inl (by omega)) _ _ hP hD hS ls (lv_sub hl [0, 1, 2, 3] rfl)
  · skip
    exact absurd (rfl) c424
