set_option maxHeartbeats 4000000 in
set_option maxRecDepth 100000 in
theorem c_X1_init (l : Launch) (D : va_G) (cI cZ : ClassId) (hw : Nat)  : ∀ sz : Nat, Met l yX1_init wsX1_init ({ frames := 1, cells := 0, slots := 0, locals := 20 }) (ct_Pre D vwCl (ct_T cI cZ) [.ref hw] [(hw, .inr (1, [.int 0, .int 0, .int 0]))] sz) ((fun (A : Nat → Prop) => va_Qv (fun (_ : Unit) => True) (fun _ t => va_P D vwCl [(hw, .inr (1, [.int (b2i False), .int (-1), .int 0]))] t.heap ∧ va_D A [(hw, .inr (1, [.int (b2i False), .int (-1), .int 0]))]) A) (va_A [(hw, .inr (1, [.int 0, .int 0, .int 0]))] sz)) 0 0 (va_A [(hw, .inr (1, [.int 0, .int 0, .int 0]))] sz) := by
  refine ct_of (Qf := fun (A : Nat → Prop) => va_Qv (fun (_ : Unit) => True) (fun _ t => va_P D vwCl [(hw, .inr (1, [.int (b2i False), .int (-1), .int 0]))] t.heap ∧ va_D A [(hw, .inr (1, [.int (b2i False), .int (-1), .int 0]))]) A) (cc := cX1_init) (maxL := 1) (ret := none) [(0, .ref hw)] (by decide) rfl (Nat.le_of_ble_eq_true rfl) rfl ?_
  intro p e s m below meth c hx hb hr hts hown hlocks hml hnm A hA hK hN hP hD hS ls hl
  have hown : s.vm.findClass RX1 = some m.cls := hown
  have hin : meth.name = "<init>" := hnm
  have hk0 := hts (.methodLink RX1 3 objectInit) (by decide +kernel)
  have hk1 := hts (.instanceMethod objectInit) (by decide +kernel)
  have hk2 := hts (.code objectInit ⟨#[0xb1]⟩ 1 none) (by decide +kernel)
  have hk3 := hts (.fieldLink RX1 9 "DesignPages$Power" "off" "Z") (by decide +kernel)
  have hk4 := hts (.fieldLink RX1 15 "DesignPages$Power" "pagesLeft" "I") (by decide +kernel)
  have hk5 := hts (.fieldLink RX1 19 "DesignPages$Power" "used" "I") (by decide +kernel)
  have hiX1 : ∀ w ∈ wsX10, w ∈ wsX1_init := by decide +kernel
  refine lv_aload_n hx hb dX1_init_0 rfl (lv_at hl 0 rfl) ?_
  refine W.objInit hx hb hown hk0 hk1 hk2 rfl (by rw [hml]; exact hl.1) rfl dX1_init_1 (Nat.le_of_ble_eq_true rfl) (Nat.le_of_ble_eq_true rfl) ?_
  refine W.eq (g2 := F0 m 4 ls []) rfl ?_
  refine lv_aload_n hx hb dX1_init_4 rfl (lv_at hl 0 rfl) ?_
  refine lv_iconst (v := 0) hx hb dX1_init_5 (by decide) ?_
  refine va_put (D := D) (cl := vwCl) (ci := 1) (v := .int 0) (ty := .boolean) (C := RX1) (T := TX1) (N := 3) hx hb hts hiX1 tyX1 tyX1_ok nmX1 hown hK hP hD hS 0 rfl rfl 0 (by decide) hk3 (fun _ h9 => h9) rfl (by decide +kernel) rfl rfl (Nat.le_of_ble_eq_true rfl) dX1_init_6 (fun H locs hP hD hS => ?_)
  have hP : va_P D vwCl [(hw, .inr (1, [.int 0, .int 0, .int 0]))] _ := hP
  have hD : va_D A [(hw, .inr (1, [.int 0, .int 0, .int 0]))] := hD
  refine lv_aload_n hx hb dX1_init_9 rfl (lv_at hl 0 rfl) ?_
  refine lv_iconst (v := (-1)) hx hb dX1_init_10 (by decide) ?_
  refine va_put (D := D) (cl := vwCl) (ci := 1) (v := .int (-1)) (ty := .int) (C := RX1) (T := TX1) (N := 3) hx hb hts hiX1 tyX1 tyX1_ok nmX1 hown hK hP hD hS 0 rfl rfl 1 (by decide) hk4 (fun _ h9 => h9) rfl (by decide +kernel) rfl rfl (Nat.le_of_ble_eq_true rfl) dX1_init_11 (fun H locs hP hD hS => ?_)
  have hP : va_P D vwCl [(hw, .inr (1, [.int 0, .int (-1), .int 0]))] _ := hP
  have hD : va_D A [(hw, .inr (1, [.int 0, .int (-1), .int 0]))] := hD
  refine lv_aload_n hx hb dX1_init_14 rfl (lv_at hl 0 rfl) ?_
  refine lv_iconst (v := 0) hx hb dX1_init_15 (by decide) ?_
  refine va_put (D := D) (cl := vwCl) (ci := 1) (v := .int 0) (ty := .int) (C := RX1) (T := TX1) (N := 3) hx hb hts hiX1 tyX1 tyX1_ok nmX1 hown hK hP hD hS 0 rfl rfl 2 (by decide) hk5 (fun _ h9 => h9) rfl (by decide +kernel) rfl rfl (Nat.le_of_ble_eq_true rfl) dX1_init_16 (fun H locs hP hD hS => ?_)
  have hP : va_P D vwCl [(hw, .inr (1, [.int 0, .int (-1), .int 0]))] _ := hP
  have hD : va_D A [(hw, .inr (1, [.int 0, .int (-1), .int 0]))] := hD
  have hP9 := hP.sub (ws' := [(hw, .inr (1, [.int 0, .int (-1), .int 0]))]) [0] rfl
  have hD9 := hD.sub (ws' := [(hw, .inr (1, [.int 0, .int (-1), .int 0]))]) [0] (by decide) rfl
  have ez : (b2i False : Int32) = 0 := b2i_f id
  have hP9 : va_P D vwCl [(hw, .inr (1, [.int (b2i False), .int (-1), .int 0]))] H := by rw [ez]; exact hP9
  have hD9 : va_D A [(hw, .inr (1, [.int (b2i False), .int (-1), .int 0]))] := by rw [ez]; exact hD9
  refine W.widen (k := 0) (n := 0) (by omega) (by omega) ?_
  exact W.vret hx hb hr (fun t ht hW => ⟨⟨(), rfl, trivial, by rw [ht]; exact hP9, hD9⟩, hS.F ht⟩) hS.2.2 dX1_init_19 hlocks
set_option maxHeartbeats 4000000 in
set_option maxRecDepth 100000 in
theorem c_X0_init (l : Launch) (D : va_G) (cI cZ : ClassId) (hd a : Nat) (ha : a ≤ 120) : ∀ sz : Nat, Met l yX0_init wsX0_init ({ frames := 1, cells := 1, slots := 5760, locals := 20 }) (ct_Pre D vwCl (ct_T cI cZ) [.ref hd, .int (nI a)] [(hd, .inr (0, [.int 0, .null]))] sz) ((fun (A : Nat → Prop) => va_Qv (fun (_ : Unit) => True) (fun _ t => ∃ (hB : Nat), va_P D vwCl [(hd, .inr (0, [.int (nI a), .ref hB])), (hB, .inl (cI, a * 48, .inl (fun _ => 0)))] t.heap ∧ va_D A [(hd, .inr (0, [.int (nI a), .ref hB])), (hB, .inl (cI, a * 48, .inl (fun _ => 0)))]) A) (va_A [(hd, .inr (0, [.int 0, .null]))] sz)) 1 5760 (va_A [(hd, .inr (0, [.int 0, .null]))] sz) := by
  refine ct_of (Qf := fun (A : Nat → Prop) => va_Qv (fun (_ : Unit) => True) (fun _ t => ∃ (hB : Nat), va_P D vwCl [(hd, .inr (0, [.int (nI a), .ref hB])), (hB, .inl (cI, a * 48, .inl (fun _ => 0)))] t.heap ∧ va_D A [(hd, .inr (0, [.int (nI a), .ref hB])), (hB, .inl (cI, a * 48, .inl (fun _ => 0)))]) A) (cc := cX0_init) (maxL := 2) (ret := none) [(0, .ref hd), (1, .int (nI a))] (by decide) rfl (Nat.le_of_ble_eq_true rfl) rfl ?_
  intro p e s m below meth c hx hb hr hts hown hlocks hml hnm A hA hK hN hP hD hS ls hl
  have hown : s.vm.findClass RX0 = some m.cls := hown
  have hin : meth.name = "<init>" := hnm
  have hk0 := hts (.methodLink RX0 3 objectInit) (by decide +kernel)
  have hk1 := hts (.instanceMethod objectInit) (by decide +kernel)
  have hk2 := hts (.code objectInit ⟨#[0xb1]⟩ 1 none) (by decide +kernel)
  have hk3 := hts (.fieldLink RX0 9 "DesignPages$Pages" "amount" "I") (by decide +kernel)
  have hk4 := hts (.arrayClass .int) (by decide +kernel)
  have hk5 := hts (.fieldLink RX0 15 "DesignPages$Pages" "bytes" "[I") (by decide +kernel)
  have hiX0 : ∀ w ∈ wsX00, w ∈ wsX0_init := by decide +kernel
  refine lv_aload_n hx hb dX0_init_0 rfl (lv_at hl 0 rfl) ?_
  refine W.objInit hx hb hown hk0 hk1 hk2 rfl (by rw [hml]; exact hl.1) rfl dX0_init_1 (Nat.le_of_ble_eq_true rfl) (Nat.le_of_ble_eq_true rfl) ?_
  refine W.eq (g2 := F0 m 4 ls []) rfl ?_
  refine lv_aload_n hx hb dX0_init_4 rfl (lv_at hl 0 rfl) ?_
  refine lv_iload_n hx hb dX0_init_5 rfl (lv_at hl 1 rfl) ?_
  refine va_putF (D := D) (cl := vwCl) (ci := 0) (v := .int (nI a)) (ty := .int) (C := RX0) (T := TX0) (N := 2) hx hb hts hiX0 tyX0 tyX0_ok nmX0 hown hK hP hD hS 0 rfl rfl 0 (by decide) hk3 (fun _ h9 => h9) rfl hin rfl (by decide +kernel) rfl rfl (Nat.le_of_ble_eq_true rfl) dX0_init_6 (fun H locs hP hD hS => ?_)
  have hP : va_P D vwCl [(hd, .inr (0, [.int (nI a), .null]))] _ := hP
  have hD : va_D A [(hd, .inr (0, [.int (nI a), .null]))] := hD
  refine lv_aload_n hx hb dX0_init_9 rfl (lv_at hl 0 rfl) ?_
  refine lv_iload_n hx hb dX0_init_10 rfl (lv_at hl 1 rfl) ?_
  refine lv_bipush (v := 48) hx hb dX0_init_11 (by decide) ?_
  refine lv_imul hx hb dX0_init_13 ?_
  refine ct_top (y := nI (a * 48)) (pk_mul a 48) ?_
  refine ct_newi (n := (a * 48)) hx hb hk4 hK hP hD hS hA (by omega) (Nat.le_of_ble_eq_true rfl) (by show _ ≤ 5760; omega) dX0_init_14 (fun q14 H hP hD hS => ?_)
  have hP : va_P D vwCl [(hd, .inr (0, [.int (nI a), .null])), (q14, .inl (cI, a * 48, .inl (fun _ => 0)))] _ := hP
  have hD : va_D A [(hd, .inr (0, [.int (nI a), .null])), (q14, .inl (cI, a * 48, .inl (fun _ => 0)))] := hD
  refine va_putF (D := D) (cl := vwCl) (ci := 0) (v := .ref q14) (ty := .array .int) (C := RX0) (T := TX0) (N := 2) hx hb hts hiX0 tyX0 tyX0_ok nmX0 hown hK hP hD hS 0 rfl rfl 1 (by decide) hk5 (fun _ h9 => h9) rfl hin rfl (by decide +kernel) rfl rfl (Nat.le_of_ble_eq_true rfl) dX0_init_16 (fun H locs hP hD hS => ?_)
  have hP : va_P D vwCl [(hd, .inr (0, [.int (nI a), .ref q14])), (q14, .inl (cI, a * 48, .inl (fun _ => 0)))] _ := hP
  have hD : va_D A [(hd, .inr (0, [.int (nI a), .ref q14])), (q14, .inl (cI, a * 48, .inl (fun _ => 0)))] := hD
  have hP9 := hP.sub (ws' := [(hd, .inr (0, [.int (nI a), .ref q14])), (q14, .inl (cI, a * 48, .inl (fun _ => 0)))]) [0, 1] rfl
  have hD9 := hD.sub (ws' := [(hd, .inr (0, [.int (nI a), .ref q14])), (q14, .inl (cI, a * 48, .inl (fun _ => 0)))]) [0, 1] (by decide) rfl
  refine W.widen (k := 1) (n := 5760) (by omega) (by omega) ?_
  exact W.vret hx hb hr (fun t ht hW => ⟨⟨(), rfl, trivial, q14, by rw [ht]; exact hP9, hD9⟩, hS.F ht⟩) hS.2.2 dX0_init_19 hlocks
set_option maxHeartbeats 4000000 in
set_option maxRecDepth 100000 in
theorem c_X2_init (l : Launch) (D : va_G) (cI cZ : ClassId) (hR a : Nat) (ha : a ≤ 120) : ∀ sz : Nat, Met l yX2_init wsX2_init ({ frames := 1, cells := 1, slots := 120, locals := 20 }) (ct_Pre D vwCl (ct_T cI cZ) [.ref hR, .int (nI a)] [(hR, .inr (2, [.null]))] sz) ((fun (A : Nat → Prop) => va_Qv (fun (_ : Unit) => True) (fun _ t => ∃ (hM : Nat), va_P D vwCl [(hR, .inr (2, [.ref hM])), (hM, .inl (cI, a, .inl (fun _ => 0)))] t.heap ∧ va_D A [(hR, .inr (2, [.ref hM])), (hM, .inl (cI, a, .inl (fun _ => 0)))]) A) (va_A [(hR, .inr (2, [.null]))] sz)) 1 120 (va_A [(hR, .inr (2, [.null]))] sz) := by
  refine ct_of (Qf := fun (A : Nat → Prop) => va_Qv (fun (_ : Unit) => True) (fun _ t => ∃ (hM : Nat), va_P D vwCl [(hR, .inr (2, [.ref hM])), (hM, .inl (cI, a, .inl (fun _ => 0)))] t.heap ∧ va_D A [(hR, .inr (2, [.ref hM])), (hM, .inl (cI, a, .inl (fun _ => 0)))]) A) (cc := cX2_init) (maxL := 2) (ret := none) [(0, .ref hR), (1, .int (nI a))] (by decide) rfl (Nat.le_of_ble_eq_true rfl) rfl ?_
  intro p e s m below meth c hx hb hr hts hown hlocks hml hnm A hA hK hN hP hD hS ls hl
  have hown : s.vm.findClass RX2 = some m.cls := hown
  have hin : meth.name = "<init>" := hnm
  have hk0 := hts (.methodLink RX2 3 objectInit) (by decide +kernel)
  have hk1 := hts (.instanceMethod objectInit) (by decide +kernel)
  have hk2 := hts (.code objectInit ⟨#[0xb1]⟩ 1 none) (by decide +kernel)
  have hk3 := hts (.arrayClass .int) (by decide +kernel)
  have hk4 := hts (.fieldLink RX2 9 "DesignPages$Reach" "marks" "[I") (by decide +kernel)
  have hiX2 : ∀ w ∈ wsX20, w ∈ wsX2_init := by decide +kernel
  refine lv_aload_n hx hb dX2_init_0 rfl (lv_at hl 0 rfl) ?_
  refine W.objInit hx hb hown hk0 hk1 hk2 rfl (by rw [hml]; exact hl.1) rfl dX2_init_1 (Nat.le_of_ble_eq_true rfl) (Nat.le_of_ble_eq_true rfl) ?_
  refine W.eq (g2 := F0 m 4 ls []) rfl ?_
  refine lv_aload_n hx hb dX2_init_4 rfl (lv_at hl 0 rfl) ?_
  refine lv_iload_n hx hb dX2_init_5 rfl (lv_at hl 1 rfl) ?_
  refine ct_newi (n := a) hx hb hk3 hK hP hD hS hA (by omega) (Nat.le_of_ble_eq_true rfl) (by show _ ≤ 120; omega) dX2_init_6 (fun q6 H hP hD hS => ?_)
  have hP : va_P D vwCl [(hR, .inr (2, [.null])), (q6, .inl (cI, a, .inl (fun _ => 0)))] _ := hP
  have hD : va_D A [(hR, .inr (2, [.null])), (q6, .inl (cI, a, .inl (fun _ => 0)))] := hD
  refine va_putF (D := D) (cl := vwCl) (ci := 2) (v := .ref q6) (ty := .array .int) (C := RX2) (T := TX2) (N := 1) hx hb hts hiX2 tyX2 tyX2_ok nmX2 hown hK hP hD hS 0 rfl rfl 0 (by decide) hk4 (fun _ h9 => h9) rfl hin rfl (by decide +kernel) rfl rfl (Nat.le_of_ble_eq_true rfl) dX2_init_8 (fun H locs hP hD hS => ?_)
  have hP : va_P D vwCl [(hR, .inr (2, [.ref q6])), (q6, .inl (cI, a, .inl (fun _ => 0)))] _ := hP
  have hD : va_D A [(hR, .inr (2, [.ref q6])), (q6, .inl (cI, a, .inl (fun _ => 0)))] := hD
  have hP9 := hP.sub (ws' := [(hR, .inr (2, [.ref q6])), (q6, .inl (cI, a, .inl (fun _ => 0)))]) [0, 1] rfl
  have hD9 := hD.sub (ws' := [(hR, .inr (2, [.ref q6])), (q6, .inl (cI, a, .inl (fun _ => 0)))]) [0, 1] (by decide) rfl
  refine W.widen (k := 1) (n := 120) (by omega) (by omega) ?_
  exact W.vret hx hb hr (fun t ht hW => ⟨⟨(), rfl, trivial, q6, by rw [ht]; exact hP9, hD9⟩, hS.F ht⟩) hS.2.2 dX2_init_11 hlocks
set_option maxHeartbeats 4000000 in
set_option maxRecDepth 100000 in
theorem c_X3_init (l : Launch) (D : va_G) (cI cZ : ClassId) (h0 : Nat) (x : Int32)  : ∀ sz : Nat, Met l yX3_init wsX3_init ({ frames := 2, cells := 7, slots := 5950, locals := 41 }) (ct_Pre D vwCl (ct_T cI cZ) [.ref h0, .int x] [(h0, .inr (3, [.null, .null, .null, .null, .null, .int 0, .int 0, .int 0]))] sz) ((fun (A : Nat → Prop) => va_Qv (fun (_ : Unit) => True) (fun _ t => ∃ (hd hB hR hM hw hT hJ : Nat), va_P D vwCl [(h0, .inr (3, [.ref hd, .ref hR, .ref hw, .ref hT, .ref hJ, .int 0, .int 0, .int 1])), (hd, .inr (0, [.int (nI (amt x)), .ref hB])), (hB, .inl (cI, amt x * 48, .inl (fun _ => 0))), (hR, .inr (2, [.ref hM])), (hM, .inl (cI, amt x, .inl (fun _ => 0))), (hw, .inr (1, [.int (b2i False), .int (-1), .int 0])), (hT, .inl (cI, 32, .inl (fun _ => 0))), (hJ, .inl (cI, 32, .inl (fun _ => 0)))] t.heap ∧ va_D A [(h0, .inr (3, [.ref hd, .ref hR, .ref hw, .ref hT, .ref hJ, .int 0, .int 0, .int 1])), (hd, .inr (0, [.int (nI (amt x)), .ref hB])), (hB, .inl (cI, amt x * 48, .inl (fun _ => 0))), (hR, .inr (2, [.ref hM])), (hM, .inl (cI, amt x, .inl (fun _ => 0))), (hw, .inr (1, [.int (b2i False), .int (-1), .int 0])), (hT, .inl (cI, 32, .inl (fun _ => 0))), (hJ, .inl (cI, 32, .inl (fun _ => 0)))]) A) (va_A [(h0, .inr (3, [.null, .null, .null, .null, .null, .int 0, .int 0, .int 0]))] sz)) 7 5950 (va_A [(h0, .inr (3, [.null, .null, .null, .null, .null, .int 0, .int 0, .int 0]))] sz) := by
  refine ct_of (Qf := fun (A : Nat → Prop) => va_Qv (fun (_ : Unit) => True) (fun _ t => ∃ (hd hB hR hM hw hT hJ : Nat), va_P D vwCl [(h0, .inr (3, [.ref hd, .ref hR, .ref hw, .ref hT, .ref hJ, .int 0, .int 0, .int 1])), (hd, .inr (0, [.int (nI (amt x)), .ref hB])), (hB, .inl (cI, amt x * 48, .inl (fun _ => 0))), (hR, .inr (2, [.ref hM])), (hM, .inl (cI, amt x, .inl (fun _ => 0))), (hw, .inr (1, [.int (b2i False), .int (-1), .int 0])), (hT, .inl (cI, 32, .inl (fun _ => 0))), (hJ, .inl (cI, 32, .inl (fun _ => 0)))] t.heap ∧ va_D A [(h0, .inr (3, [.ref hd, .ref hR, .ref hw, .ref hT, .ref hJ, .int 0, .int 0, .int 1])), (hd, .inr (0, [.int (nI (amt x)), .ref hB])), (hB, .inl (cI, amt x * 48, .inl (fun _ => 0))), (hR, .inr (2, [.ref hM])), (hM, .inl (cI, amt x, .inl (fun _ => 0))), (hw, .inr (1, [.int (b2i False), .int (-1), .int 0])), (hT, .inl (cI, 32, .inl (fun _ => 0))), (hJ, .inl (cI, 32, .inl (fun _ => 0)))]) A) (cc := cX3_init) (maxL := 3) (ret := none) [(0, .ref h0), (1, .int x)] (by decide) rfl (Nat.le_of_ble_eq_true rfl) rfl ?_
  intro p e s m below meth c hx hb hr hts hown hlocks hml hnm A hA hK hN hP hD hS ls hl
  have hown : s.vm.findClass RX3 = some m.cls := hown
  have hin : meth.name = "<init>" := hnm
  have hk0 := hts (.methodLink RX3 3 objectInit) (by decide +kernel)
  have hk1 := hts (.instanceMethod objectInit) (by decide +kernel)
  have hk2 := hts (.code objectInit ⟨#[0xb1]⟩ 1 none) (by decide +kernel)
  have hk3 := hts (.methodLink RX3 9 Lib.Math.min.name) (by decide +kernel)
  have hk4 := hts (.static Lib.Math.min.name) (by decide +kernel)
  have hk5 := hts (.initialized "java/lang/Math") (by decide +kernel)
  have hk6 := hts (.code Lib.Math.min.name Lib.Math.min.code 2 (some .int)) (by decide +kernel)
  have hk7 := hts (.methodLink RX3 15 Lib.Math.max.name) (by decide +kernel)
  have hk8 := hts (.static Lib.Math.max.name) (by decide +kernel)
  have hk9 := hts (.code Lib.Math.max.name Lib.Math.max.code 2 (some .int)) (by decide +kernel)
  have hk10 := hts (.classLink RX3 18 RX0) (by decide +kernel)
  have hk11 := hts (.instantiable RX0 2) (by decide +kernel)
  have hk12 := hts (.initialized RX0) (by decide +kernel)
  have hk13 := hts (.methodLink RX3 20 yX0_init) (by decide +kernel)
  have hk14 := hts (.instanceMethod yX0_init) (by decide +kernel)
  have hk15 := hts (.fieldLink RX3 23 "DesignPages" "disk" "LDesignPages$Pages;") (by decide +kernel)
  have hk16 := hts (.classLink RX3 27 RX2) (by decide +kernel)
  have hk17 := hts (.instantiable RX2 1) (by decide +kernel)
  have hk18 := hts (.initialized RX2) (by decide +kernel)
  have hk19 := hts (.methodLink RX3 29 yX2_init) (by decide +kernel)
  have hk20 := hts (.instanceMethod yX2_init) (by decide +kernel)
  have hk21 := hts (.fieldLink RX3 30 "DesignPages" "reach" "LDesignPages$Reach;") (by decide +kernel)
  have hk22 := hts (.classLink RX3 34 RX1) (by decide +kernel)
  have hk23 := hts (.instantiable RX1 3) (by decide +kernel)
  have hk24 := hts (.initialized RX1) (by decide +kernel)
  have hk25 := hts (.methodLink RX3 36 yX1_init) (by decide +kernel)
  have hk26 := hts (.instanceMethod yX1_init) (by decide +kernel)
  have hk27 := hts (.fieldLink RX3 37 "DesignPages" "power" "LDesignPages$Power;") (by decide +kernel)
  have hk28 := hts (.arrayClass .int) (by decide +kernel)
  have hk29 := hts (.fieldLink RX3 41 "DesignPages" "typed" "[I") (by decide +kernel)
  have hk30 := hts (.fieldLink RX3 45 "DesignPages" "places" "[I") (by decide +kernel)
  have hk31 := hts (.fieldLink RX3 48 "DesignPages" "typedCount" "I") (by decide +kernel)
  have hk32 := hts (.fieldLink RX3 52 "DesignPages" "newest" "I") (by decide +kernel)
  have hk33 := hts (.fieldLink RX3 55 "DesignPages" "oldest" "I") (by decide +kernel)
  have hiX0 : ∀ w ∈ wsX00, w ∈ wsX3_init := by decide +kernel
  have hiX1 : ∀ w ∈ wsX10, w ∈ wsX3_init := by decide +kernel
  have hiX2 : ∀ w ∈ wsX20, w ∈ wsX3_init := by decide +kernel
  have hiX3 : ∀ w ∈ wsX30, w ∈ wsX3_init := by decide +kernel
  refine lv_aload_n hx hb dX3_init_0 rfl (lv_at hl 0 rfl) ?_
  refine W.objInit hx hb hown hk0 hk1 hk2 rfl (by rw [hml]; exact hl.1) rfl dX3_init_1 (Nat.le_of_ble_eq_true rfl) (Nat.le_of_ble_eq_true rfl) ?_
  refine W.eq (g2 := F0 m 4 ls []) rfl ?_
  refine lv_bipush (v := 12) hx hb dX3_init_4 (by decide) ?_
  refine lv_bipush (v := 120) hx hb dX3_init_6 (by decide) ?_
  refine lv_iload_n hx hb dX3_init_8 rfl (lv_at hl 1 rfl) ?_
  refine va_mmin hx hb (hml.trans hl.1.symm) hown hk3 hk4 hk5 hk6 (Nat.le_of_ble_eq_true rfl) (Nat.le_of_ble_eq_true rfl) (Nat.le_of_ble_eq_true rfl) (Nat.le_of_ble_eq_true rfl) dX3_init_9 ?_
  refine va_mmax hx hb (hml.trans hl.1.symm) hown hk7 hk8 hk5 hk9 (Nat.le_of_ble_eq_true rfl) (Nat.le_of_ble_eq_true rfl) (Nat.le_of_ble_eq_true rfl) (Nat.le_of_ble_eq_true rfl) dX3_init_12 ?_
  have ham := amt_sp x
  have ham1 := ham.2.1
  have ham2 := ham.2.2
  refine ct_top (y := nI (amt x)) (amt_c x) ?_
  refine lv_istore_n (lv' := [(2, .int (nI (amt x))), (0, .ref h0), (1, .int x)]) hx hb dX3_init_15 rfl hl (by decide) rfl (fun ls hl => ?_)
  refine lv_aload_n hx hb dX3_init_16 rfl (lv_at hl 1 rfl) ?_
  refine va_new (ci := 0) (fs := [.int 0, .null]) (C := RX0) (T := TX0) (N := 2) hx hb hts hiX0 tyX0 tyX0_ok hown hk10 hk11 hk12 hK hP hD hS hA rfl (fun j hj => by rcases (show j = 0 ∨ j = 1 by omega) with rfl | rfl <;> rfl) (Nat.le_of_ble_eq_true rfl) (Nat.le_of_ble_eq_true rfl) dX3_init_17 (fun q17 H hP hD hS => ?_)
  have hP : va_P D vwCl [(h0, .inr (3, [.null, .null, .null, .null, .null, .int 0, .int 0, .int 0])), (q17, .inr (0, [.int 0, .null]))] _ := hP
  have hD : va_D A [(h0, .inr (3, [.null, .null, .null, .null, .null, .int 0, .int 0, .int 0])), (q17, .inr (0, [.int 0, .null]))] := hD
  refine lv_dup hx hb dX3_init_20 rfl ?_
  refine lv_iload_n hx hb dX3_init_21 rfl (lv_at hl 0 rfl) ?_
  have hFc := va_free (wc := [(q17, .inr (0, [.int 0, .null]))]) hD hS hA [1] rfl
  refine va_callv (va_runI (As := [.int (nI (amt x))]) (rest := [.ref q17, .ref h0]) ⟨hx, hb, hml, hown, hts⟩ (c_X0_init l D cI cZ q17 (amt x) (by omega) _) (cwI 1 hts gX3_init_X0_init rfl rfl rfl hk12 hk13 hk14 rfl (by decide +kernel) ⟨Nat.le_of_ble_eq_true rfl, Nat.le_of_ble_eq_true rfl⟩) ⟨ct_blind, ct_in (As := .ref q17 :: [.int (nI (amt x))]) (w := [(q17, .inr (0, [.int 0, .null]))]) hK hN hP hD [1] (by decide) rfl⟩ rfl rfl hl.1 rfl (lv_room (Nat.le_of_ble_eq_true rfl)) dX3_init_22 ⟨Nat.le_of_ble_eq_true rfl, Nat.le_of_ble_eq_true rfl⟩) hS (fun q _ h => hFc q h) hFc (fun u t H1 locs ht hvm hwq hBq hz1 hk1 hS => ?_)
  obtain ⟨hB, hP1, hD1⟩ := hBq
  rw [ht] at hP1
  obtain ⟨hP, hD⟩ := va_join (wr := [(h0, .inr (3, [.null, .null, .null, .null, .null, .int 0, .int 0, .int 0]))]) (w1 := [(q17, .inr (0, [.int (nI (amt x)), .ref hB])), (hB, .inl (cI, amt x * 48, .inl (fun _ => 0)))]) hP hD [1] [0] rfl rfl (by decide) (by decide) hk1 hFc hP1 hD1
  generalize H1 = H at hP hS ⊢
  have hP : va_P D vwCl [(h0, .inr (3, [.null, .null, .null, .null, .null, .int 0, .int 0, .int 0])), (q17, .inr (0, [.int (nI (amt x)), .ref hB])), (hB, .inl (cI, amt x * 48, .inl (fun _ => 0)))] _ := hP
  have hD : va_D A [(h0, .inr (3, [.null, .null, .null, .null, .null, .int 0, .int 0, .int 0])), (q17, .inr (0, [.int (nI (amt x)), .ref hB])), (hB, .inl (cI, amt x * 48, .inl (fun _ => 0)))] := hD
  refine va_putF (D := D) (cl := vwCl) (ci := 3) (v := .ref q17) (ty := .object "DesignPages$Pages") (C := RX3) (T := TX3) (N := 8) hx hb hts hiX3 tyX3 tyX3_ok nmX3 hown hK hP hD hS 0 rfl rfl 0 (by decide) hk15 (fun _ h9 => h9) rfl hin rfl (by decide +kernel) rfl rfl (Nat.le_of_ble_eq_true rfl) dX3_init_25 (fun H locs hP hD hS => ?_)
  have hP : va_P D vwCl [(h0, .inr (3, [.ref q17, .null, .null, .null, .null, .int 0, .int 0, .int 0])), (q17, .inr (0, [.int (nI (amt x)), .ref hB])), (hB, .inl (cI, amt x * 48, .inl (fun _ => 0)))] _ := hP
  have hD : va_D A [(h0, .inr (3, [.ref q17, .null, .null, .null, .null, .int 0, .int 0, .int 0])), (q17, .inr (0, [.int (nI (amt x)), .ref hB])), (hB, .inl (cI, amt x * 48, .inl (fun _ => 0)))] := hD
  refine lv_aload_n hx hb dX3_init_28 rfl (lv_at hl 1 rfl) ?_
  refine va_new (ci := 2) (fs := [.null]) (C := RX2) (T := TX2) (N := 1) hx hb hts hiX2 tyX2 tyX2_ok hown hk16 hk17 hk18 hK hP hD hS hA rfl (fun j hj => by rcases (show j = 0 by omega) with rfl <;> rfl) (Nat.le_of_ble_eq_true rfl) (Nat.le_of_ble_eq_true rfl) dX3_init_29 (fun q29 H hP hD hS => ?_)
  have hP : va_P D vwCl [(h0, .inr (3, [.ref q17, .null, .null, .null, .null, .int 0, .int 0, .int 0])), (q17, .inr (0, [.int (nI (amt x)), .ref hB])), (hB, .inl (cI, amt x * 48, .inl (fun _ => 0))), (q29, .inr (2, [.null]))] _ := hP
  have hD : va_D A [(h0, .inr (3, [.ref q17, .null, .null, .null, .null, .int 0, .int 0, .int 0])), (q17, .inr (0, [.int (nI (amt x)), .ref hB])), (hB, .inl (cI, amt x * 48, .inl (fun _ => 0))), (q29, .inr (2, [.null]))] := hD
  refine lv_dup hx hb dX3_init_32 rfl ?_
  refine lv_iload_n hx hb dX3_init_33 rfl (lv_at hl 0 rfl) ?_
  have hFc := va_free (wc := [(q29, .inr (2, [.null]))]) hD hS hA [3] rfl
  refine va_callv (va_runI (As := [.int (nI (amt x))]) (rest := [.ref q29, .ref h0]) ⟨hx, hb, hml, hown, hts⟩ (c_X2_init l D cI cZ q29 (amt x) (by omega) _) (cwI 1 hts gX3_init_X2_init rfl rfl rfl hk18 hk19 hk20 rfl (by decide +kernel) ⟨Nat.le_of_ble_eq_true rfl, Nat.le_of_ble_eq_true rfl⟩) ⟨ct_blind, ct_in (As := .ref q29 :: [.int (nI (amt x))]) (w := [(q29, .inr (2, [.null]))]) hK hN hP hD [3] (by decide) rfl⟩ rfl rfl hl.1 rfl (lv_room (Nat.le_of_ble_eq_true rfl)) dX3_init_34 ⟨Nat.le_of_ble_eq_true rfl, Nat.le_of_ble_eq_true rfl⟩) hS (fun q _ h => hFc q h) hFc (fun u t H1 locs ht hvm hwq hBq hz1 hk1 hS => ?_)
  obtain ⟨hM, hP1, hD1⟩ := hBq
  rw [ht] at hP1
  obtain ⟨hP, hD⟩ := va_join (wr := [(h0, .inr (3, [.ref q17, .null, .null, .null, .null, .int 0, .int 0, .int 0])), (q17, .inr (0, [.int (nI (amt x)), .ref hB])), (hB, .inl (cI, amt x * 48, .inl (fun _ => 0)))]) (w1 := [(q29, .inr (2, [.ref hM])), (hM, .inl (cI, amt x, .inl (fun _ => 0)))]) hP hD [3] [0, 1, 2] rfl rfl (by decide) (by decide) hk1 hFc hP1 hD1
  generalize H1 = H at hP hS ⊢
  have hP : va_P D vwCl [(h0, .inr (3, [.ref q17, .null, .null, .null, .null, .int 0, .int 0, .int 0])), (q17, .inr (0, [.int (nI (amt x)), .ref hB])), (hB, .inl (cI, amt x * 48, .inl (fun _ => 0))), (q29, .inr (2, [.ref hM])), (hM, .inl (cI, amt x, .inl (fun _ => 0)))] _ := hP
  have hD : va_D A [(h0, .inr (3, [.ref q17, .null, .null, .null, .null, .int 0, .int 0, .int 0])), (q17, .inr (0, [.int (nI (amt x)), .ref hB])), (hB, .inl (cI, amt x * 48, .inl (fun _ => 0))), (q29, .inr (2, [.ref hM])), (hM, .inl (cI, amt x, .inl (fun _ => 0)))] := hD
  refine va_putF (D := D) (cl := vwCl) (ci := 3) (v := .ref q29) (ty := .object "DesignPages$Reach") (C := RX3) (T := TX3) (N := 8) hx hb hts hiX3 tyX3 tyX3_ok nmX3 hown hK hP hD hS 0 rfl rfl 1 (by decide) hk21 (fun _ h9 => h9) rfl hin rfl (by decide +kernel) rfl rfl (Nat.le_of_ble_eq_true rfl) dX3_init_37 (fun H locs hP hD hS => ?_)
  have hP : va_P D vwCl [(h0, .inr (3, [.ref q17, .ref q29, .null, .null, .null, .int 0, .int 0, .int 0])), (q17, .inr (0, [.int (nI (amt x)), .ref hB])), (hB, .inl (cI, amt x * 48, .inl (fun _ => 0))), (q29, .inr (2, [.ref hM])), (hM, .inl (cI, amt x, .inl (fun _ => 0)))] _ := hP
  have hD : va_D A [(h0, .inr (3, [.ref q17, .ref q29, .null, .null, .null, .int 0, .int 0, .int 0])), (q17, .inr (0, [.int (nI (amt x)), .ref hB])), (hB, .inl (cI, amt x * 48, .inl (fun _ => 0))), (q29, .inr (2, [.ref hM])), (hM, .inl (cI, amt x, .inl (fun _ => 0)))] := hD
  refine lv_aload_n hx hb dX3_init_40 rfl (lv_at hl 1 rfl) ?_
  refine va_new (ci := 1) (fs := [.int 0, .int 0, .int 0]) (C := RX1) (T := TX1) (N := 3) hx hb hts hiX1 tyX1 tyX1_ok hown hk22 hk23 hk24 hK hP hD hS hA rfl (fun j hj => by rcases (show j = 0 ∨ j = 1 ∨ j = 2 by omega) with rfl | rfl | rfl <;> rfl) (Nat.le_of_ble_eq_true rfl) (Nat.le_of_ble_eq_true rfl) dX3_init_41 (fun q41 H hP hD hS => ?_)
  have hP : va_P D vwCl [(h0, .inr (3, [.ref q17, .ref q29, .null, .null, .null, .int 0, .int 0, .int 0])), (q17, .inr (0, [.int (nI (amt x)), .ref hB])), (hB, .inl (cI, amt x * 48, .inl (fun _ => 0))), (q29, .inr (2, [.ref hM])), (hM, .inl (cI, amt x, .inl (fun _ => 0))), (q41, .inr (1, [.int 0, .int 0, .int 0]))] _ := hP
  have hD : va_D A [(h0, .inr (3, [.ref q17, .ref q29, .null, .null, .null, .int 0, .int 0, .int 0])), (q17, .inr (0, [.int (nI (amt x)), .ref hB])), (hB, .inl (cI, amt x * 48, .inl (fun _ => 0))), (q29, .inr (2, [.ref hM])), (hM, .inl (cI, amt x, .inl (fun _ => 0))), (q41, .inr (1, [.int 0, .int 0, .int 0]))] := hD
  refine lv_dup hx hb dX3_init_44 rfl ?_
  have hFc := va_free (wc := [(q41, .inr (1, [.int 0, .int 0, .int 0]))]) hD hS hA [5] rfl
  refine va_callv (va_runI (As := []) (rest := [.ref q41, .ref h0]) ⟨hx, hb, hml, hown, hts⟩ (c_X1_init l D cI cZ q41 _) (cwI 0 hts gX3_init_X1_init rfl rfl rfl hk24 hk25 hk26 rfl (by decide +kernel) ⟨Nat.le_of_ble_eq_true rfl, Nat.le_of_ble_eq_true rfl⟩) ⟨ct_blind, ct_in (As := .ref q41 :: []) (w := [(q41, .inr (1, [.int 0, .int 0, .int 0]))]) hK hN hP hD [5] (by decide) rfl⟩ rfl rfl hl.1 rfl (lv_room (Nat.le_of_ble_eq_true rfl)) dX3_init_45 ⟨Nat.le_of_ble_eq_true rfl, Nat.le_of_ble_eq_true rfl⟩) hS (fun q _ h => hFc q h) hFc (fun u t H1 locs ht hvm hwq hBq hz1 hk1 hS => ?_)
  obtain ⟨hP1, hD1⟩ := hBq
  rw [ht] at hP1
  obtain ⟨hP, hD⟩ := va_join (wr := [(h0, .inr (3, [.ref q17, .ref q29, .null, .null, .null, .int 0, .int 0, .int 0])), (q17, .inr (0, [.int (nI (amt x)), .ref hB])), (hB, .inl (cI, amt x * 48, .inl (fun _ => 0))), (q29, .inr (2, [.ref hM])), (hM, .inl (cI, amt x, .inl (fun _ => 0)))]) (w1 := [(q41, .inr (1, [.int (b2i False), .int (-1), .int 0]))]) hP hD [5] [0, 1, 2, 3, 4] rfl rfl (by decide) (by decide) hk1 hFc hP1 hD1
  generalize H1 = H at hP hS ⊢
  have hP : va_P D vwCl [(h0, .inr (3, [.ref q17, .ref q29, .null, .null, .null, .int 0, .int 0, .int 0])), (q17, .inr (0, [.int (nI (amt x)), .ref hB])), (hB, .inl (cI, amt x * 48, .inl (fun _ => 0))), (q29, .inr (2, [.ref hM])), (hM, .inl (cI, amt x, .inl (fun _ => 0))), (q41, .inr (1, [.int (b2i False), .int (-1), .int 0]))] _ := hP
  have hD : va_D A [(h0, .inr (3, [.ref q17, .ref q29, .null, .null, .null, .int 0, .int 0, .int 0])), (q17, .inr (0, [.int (nI (amt x)), .ref hB])), (hB, .inl (cI, amt x * 48, .inl (fun _ => 0))), (q29, .inr (2, [.ref hM])), (hM, .inl (cI, amt x, .inl (fun _ => 0))), (q41, .inr (1, [.int (b2i False), .int (-1), .int 0]))] := hD
  refine va_putF (D := D) (cl := vwCl) (ci := 3) (v := .ref q41) (ty := .object "DesignPages$Power") (C := RX3) (T := TX3) (N := 8) hx hb hts hiX3 tyX3 tyX3_ok nmX3 hown hK hP hD hS 0 rfl rfl 2 (by decide) hk27 (fun _ h9 => h9) rfl hin rfl (by decide +kernel) rfl rfl (Nat.le_of_ble_eq_true rfl) dX3_init_48 (fun H locs hP hD hS => ?_)
  have hP : va_P D vwCl [(h0, .inr (3, [.ref q17, .ref q29, .ref q41, .null, .null, .int 0, .int 0, .int 0])), (q17, .inr (0, [.int (nI (amt x)), .ref hB])), (hB, .inl (cI, amt x * 48, .inl (fun _ => 0))), (q29, .inr (2, [.ref hM])), (hM, .inl (cI, amt x, .inl (fun _ => 0))), (q41, .inr (1, [.int (b2i False), .int (-1), .int 0]))] _ := hP
  have hD : va_D A [(h0, .inr (3, [.ref q17, .ref q29, .ref q41, .null, .null, .int 0, .int 0, .int 0])), (q17, .inr (0, [.int (nI (amt x)), .ref hB])), (hB, .inl (cI, amt x * 48, .inl (fun _ => 0))), (q29, .inr (2, [.ref hM])), (hM, .inl (cI, amt x, .inl (fun _ => 0))), (q41, .inr (1, [.int (b2i False), .int (-1), .int 0]))] := hD
  refine lv_aload_n hx hb dX3_init_51 rfl (lv_at hl 1 rfl) ?_
  refine lv_bipush (v := 32) hx hb dX3_init_52 (by decide) ?_
  refine ct_newi (n := 32) hx hb hk28 hK hP hD hS hA (by omega) (Nat.le_of_ble_eq_true rfl) (by show _ ≤ 5950; omega) dX3_init_54 (fun q54 H hP hD hS => ?_)
  have hP : va_P D vwCl [(h0, .inr (3, [.ref q17, .ref q29, .ref q41, .null, .null, .int 0, .int 0, .int 0])), (q17, .inr (0, [.int (nI (amt x)), .ref hB])), (hB, .inl (cI, amt x * 48, .inl (fun _ => 0))), (q29, .inr (2, [.ref hM])), (hM, .inl (cI, amt x, .inl (fun _ => 0))), (q41, .inr (1, [.int (b2i False), .int (-1), .int 0])), (q54, .inl (cI, 32, .inl (fun _ => 0)))] _ := hP
  have hD : va_D A [(h0, .inr (3, [.ref q17, .ref q29, .ref q41, .null, .null, .int 0, .int 0, .int 0])), (q17, .inr (0, [.int (nI (amt x)), .ref hB])), (hB, .inl (cI, amt x * 48, .inl (fun _ => 0))), (q29, .inr (2, [.ref hM])), (hM, .inl (cI, amt x, .inl (fun _ => 0))), (q41, .inr (1, [.int (b2i False), .int (-1), .int 0])), (q54, .inl (cI, 32, .inl (fun _ => 0)))] := hD
  refine va_putF (D := D) (cl := vwCl) (ci := 3) (v := .ref q54) (ty := .array .int) (C := RX3) (T := TX3) (N := 8) hx hb hts hiX3 tyX3 tyX3_ok nmX3 hown hK hP hD hS 0 rfl rfl 3 (by decide) hk29 (fun _ h9 => h9) rfl hin rfl (by decide +kernel) rfl rfl (Nat.le_of_ble_eq_true rfl) dX3_init_56 (fun H locs hP hD hS => ?_)
  have hP : va_P D vwCl [(h0, .inr (3, [.ref q17, .ref q29, .ref q41, .ref q54, .null, .int 0, .int 0, .int 0])), (q17, .inr (0, [.int (nI (amt x)), .ref hB])), (hB, .inl (cI, amt x * 48, .inl (fun _ => 0))), (q29, .inr (2, [.ref hM])), (hM, .inl (cI, amt x, .inl (fun _ => 0))), (q41, .inr (1, [.int (b2i False), .int (-1), .int 0])), (q54, .inl (cI, 32, .inl (fun _ => 0)))] _ := hP
  have hD : va_D A [(h0, .inr (3, [.ref q17, .ref q29, .ref q41, .ref q54, .null, .int 0, .int 0, .int 0])), (q17, .inr (0, [.int (nI (amt x)), .ref hB])), (hB, .inl (cI, amt x * 48, .inl (fun _ => 0))), (q29, .inr (2, [.ref hM])), (hM, .inl (cI, amt x, .inl (fun _ => 0))), (q41, .inr (1, [.int (b2i False), .int (-1), .int 0])), (q54, .inl (cI, 32, .inl (fun _ => 0)))] := hD
  refine lv_aload_n hx hb dX3_init_59 rfl (lv_at hl 1 rfl) ?_
  refine lv_bipush (v := 32) hx hb dX3_init_60 (by decide) ?_
  refine ct_newi (n := 32) hx hb hk28 hK hP hD hS hA (by omega) (Nat.le_of_ble_eq_true rfl) (by show _ ≤ 5950; omega) dX3_init_62 (fun q62 H hP hD hS => ?_)
  have hP : va_P D vwCl [(h0, .inr (3, [.ref q17, .ref q29, .ref q41, .ref q54, .null, .int 0, .int 0, .int 0])), (q17, .inr (0, [.int (nI (amt x)), .ref hB])), (hB, .inl (cI, amt x * 48, .inl (fun _ => 0))), (q29, .inr (2, [.ref hM])), (hM, .inl (cI, amt x, .inl (fun _ => 0))), (q41, .inr (1, [.int (b2i False), .int (-1), .int 0])), (q54, .inl (cI, 32, .inl (fun _ => 0))), (q62, .inl (cI, 32, .inl (fun _ => 0)))] _ := hP
  have hD : va_D A [(h0, .inr (3, [.ref q17, .ref q29, .ref q41, .ref q54, .null, .int 0, .int 0, .int 0])), (q17, .inr (0, [.int (nI (amt x)), .ref hB])), (hB, .inl (cI, amt x * 48, .inl (fun _ => 0))), (q29, .inr (2, [.ref hM])), (hM, .inl (cI, amt x, .inl (fun _ => 0))), (q41, .inr (1, [.int (b2i False), .int (-1), .int 0])), (q54, .inl (cI, 32, .inl (fun _ => 0))), (q62, .inl (cI, 32, .inl (fun _ => 0)))] := hD
  refine va_putF (D := D) (cl := vwCl) (ci := 3) (v := .ref q62) (ty := .array .int) (C := RX3) (T := TX3) (N := 8) hx hb hts hiX3 tyX3 tyX3_ok nmX3 hown hK hP hD hS 0 rfl rfl 4 (by decide) hk30 (fun _ h9 => h9) rfl hin rfl (by decide +kernel) rfl rfl (Nat.le_of_ble_eq_true rfl) dX3_init_64 (fun H locs hP hD hS => ?_)
  have hP : va_P D vwCl [(h0, .inr (3, [.ref q17, .ref q29, .ref q41, .ref q54, .ref q62, .int 0, .int 0, .int 0])), (q17, .inr (0, [.int (nI (amt x)), .ref hB])), (hB, .inl (cI, amt x * 48, .inl (fun _ => 0))), (q29, .inr (2, [.ref hM])), (hM, .inl (cI, amt x, .inl (fun _ => 0))), (q41, .inr (1, [.int (b2i False), .int (-1), .int 0])), (q54, .inl (cI, 32, .inl (fun _ => 0))), (q62, .inl (cI, 32, .inl (fun _ => 0)))] _ := hP
  have hD : va_D A [(h0, .inr (3, [.ref q17, .ref q29, .ref q41, .ref q54, .ref q62, .int 0, .int 0, .int 0])), (q17, .inr (0, [.int (nI (amt x)), .ref hB])), (hB, .inl (cI, amt x * 48, .inl (fun _ => 0))), (q29, .inr (2, [.ref hM])), (hM, .inl (cI, amt x, .inl (fun _ => 0))), (q41, .inr (1, [.int (b2i False), .int (-1), .int 0])), (q54, .inl (cI, 32, .inl (fun _ => 0))), (q62, .inl (cI, 32, .inl (fun _ => 0)))] := hD
  refine lv_aload_n hx hb dX3_init_67 rfl (lv_at hl 1 rfl) ?_
  refine lv_iconst (v := 0) hx hb dX3_init_68 (by decide) ?_
  refine va_put (D := D) (cl := vwCl) (ci := 3) (v := .int 0) (ty := .int) (C := RX3) (T := TX3) (N := 8) hx hb hts hiX3 tyX3 tyX3_ok nmX3 hown hK hP hD hS 0 rfl rfl 5 (by decide) hk31 (fun _ h9 => h9) rfl (by decide +kernel) rfl rfl (Nat.le_of_ble_eq_true rfl) dX3_init_69 (fun H locs hP hD hS => ?_)
  have hP : va_P D vwCl [(h0, .inr (3, [.ref q17, .ref q29, .ref q41, .ref q54, .ref q62, .int 0, .int 0, .int 0])), (q17, .inr (0, [.int (nI (amt x)), .ref hB])), (hB, .inl (cI, amt x * 48, .inl (fun _ => 0))), (q29, .inr (2, [.ref hM])), (hM, .inl (cI, amt x, .inl (fun _ => 0))), (q41, .inr (1, [.int (b2i False), .int (-1), .int 0])), (q54, .inl (cI, 32, .inl (fun _ => 0))), (q62, .inl (cI, 32, .inl (fun _ => 0)))] _ := hP
  have hD : va_D A [(h0, .inr (3, [.ref q17, .ref q29, .ref q41, .ref q54, .ref q62, .int 0, .int 0, .int 0])), (q17, .inr (0, [.int (nI (amt x)), .ref hB])), (hB, .inl (cI, amt x * 48, .inl (fun _ => 0))), (q29, .inr (2, [.ref hM])), (hM, .inl (cI, amt x, .inl (fun _ => 0))), (q41, .inr (1, [.int (b2i False), .int (-1), .int 0])), (q54, .inl (cI, 32, .inl (fun _ => 0))), (q62, .inl (cI, 32, .inl (fun _ => 0)))] := hD
  refine lv_aload_n hx hb dX3_init_72 rfl (lv_at hl 1 rfl) ?_
  refine lv_iconst (v := 0) hx hb dX3_init_73 (by decide) ?_
  refine va_put (D := D) (cl := vwCl) (ci := 3) (v := .int 0) (ty := .int) (C := RX3) (T := TX3) (N := 8) hx hb hts hiX3 tyX3 tyX3_ok nmX3 hown hK hP hD hS 0 rfl rfl 6 (by decide) hk32 (fun _ h9 => h9) rfl (by decide +kernel) rfl rfl (Nat.le_of_ble_eq_true rfl) dX3_init_74 (fun H locs hP hD hS => ?_)
  have hP : va_P D vwCl [(h0, .inr (3, [.ref q17, .ref q29, .ref q41, .ref q54, .ref q62, .int 0, .int 0, .int 0])), (q17, .inr (0, [.int (nI (amt x)), .ref hB])), (hB, .inl (cI, amt x * 48, .inl (fun _ => 0))), (q29, .inr (2, [.ref hM])), (hM, .inl (cI, amt x, .inl (fun _ => 0))), (q41, .inr (1, [.int (b2i False), .int (-1), .int 0])), (q54, .inl (cI, 32, .inl (fun _ => 0))), (q62, .inl (cI, 32, .inl (fun _ => 0)))] _ := hP
  have hD : va_D A [(h0, .inr (3, [.ref q17, .ref q29, .ref q41, .ref q54, .ref q62, .int 0, .int 0, .int 0])), (q17, .inr (0, [.int (nI (amt x)), .ref hB])), (hB, .inl (cI, amt x * 48, .inl (fun _ => 0))), (q29, .inr (2, [.ref hM])), (hM, .inl (cI, amt x, .inl (fun _ => 0))), (q41, .inr (1, [.int (b2i False), .int (-1), .int 0])), (q54, .inl (cI, 32, .inl (fun _ => 0))), (q62, .inl (cI, 32, .inl (fun _ => 0)))] := hD
  refine lv_aload_n hx hb dX3_init_77 rfl (lv_at hl 1 rfl) ?_
  refine lv_iconst (v := 1) hx hb dX3_init_78 (by decide) ?_
  refine va_put (D := D) (cl := vwCl) (ci := 3) (v := .int 1) (ty := .int) (C := RX3) (T := TX3) (N := 8) hx hb hts hiX3 tyX3 tyX3_ok nmX3 hown hK hP hD hS 0 rfl rfl 7 (by decide) hk33 (fun _ h9 => h9) rfl (by decide +kernel) rfl rfl (Nat.le_of_ble_eq_true rfl) dX3_init_79 (fun H locs hP hD hS => ?_)
  have hP : va_P D vwCl [(h0, .inr (3, [.ref q17, .ref q29, .ref q41, .ref q54, .ref q62, .int 0, .int 0, .int 1])), (q17, .inr (0, [.int (nI (amt x)), .ref hB])), (hB, .inl (cI, amt x * 48, .inl (fun _ => 0))), (q29, .inr (2, [.ref hM])), (hM, .inl (cI, amt x, .inl (fun _ => 0))), (q41, .inr (1, [.int (b2i False), .int (-1), .int 0])), (q54, .inl (cI, 32, .inl (fun _ => 0))), (q62, .inl (cI, 32, .inl (fun _ => 0)))] _ := hP
  have hD : va_D A [(h0, .inr (3, [.ref q17, .ref q29, .ref q41, .ref q54, .ref q62, .int 0, .int 0, .int 1])), (q17, .inr (0, [.int (nI (amt x)), .ref hB])), (hB, .inl (cI, amt x * 48, .inl (fun _ => 0))), (q29, .inr (2, [.ref hM])), (hM, .inl (cI, amt x, .inl (fun _ => 0))), (q41, .inr (1, [.int (b2i False), .int (-1), .int 0])), (q54, .inl (cI, 32, .inl (fun _ => 0))), (q62, .inl (cI, 32, .inl (fun _ => 0)))] := hD
  have hP9 := hP.sub (ws' := [(h0, .inr (3, [.ref q17, .ref q29, .ref q41, .ref q54, .ref q62, .int 0, .int 0, .int 1])), (q17, .inr (0, [.int (nI (amt x)), .ref hB])), (hB, .inl (cI, amt x * 48, .inl (fun _ => 0))), (q29, .inr (2, [.ref hM])), (hM, .inl (cI, amt x, .inl (fun _ => 0))), (q41, .inr (1, [.int (b2i False), .int (-1), .int 0])), (q54, .inl (cI, 32, .inl (fun _ => 0))), (q62, .inl (cI, 32, .inl (fun _ => 0)))]) [0, 1, 2, 3, 4, 5, 6, 7] rfl
  have hD9 := hD.sub (ws' := [(h0, .inr (3, [.ref q17, .ref q29, .ref q41, .ref q54, .ref q62, .int 0, .int 0, .int 1])), (q17, .inr (0, [.int (nI (amt x)), .ref hB])), (hB, .inl (cI, amt x * 48, .inl (fun _ => 0))), (q29, .inr (2, [.ref hM])), (hM, .inl (cI, amt x, .inl (fun _ => 0))), (q41, .inr (1, [.int (b2i False), .int (-1), .int 0])), (q54, .inl (cI, 32, .inl (fun _ => 0))), (q62, .inl (cI, 32, .inl (fun _ => 0)))]) [0, 1, 2, 3, 4, 5, 6, 7] (by decide) rfl
  refine W.widen (k := 7) (n := 5950) (by omega) (by omega) ?_
  exact W.vret hx hb hr (fun t ht hW => ⟨⟨(), rfl, trivial, q17, hB, q29, hM, q41, q54, q62, by rw [ht]; exact hP9, hD9⟩, hS.F ht⟩) hS.2.2 dX3_init_82 hlocks
set_option maxHeartbeats 4000000 in
set_option maxRecDepth 100000 in
theorem c_X4_init (l : Launch) (D : va_G) (cI cZ : ClassId) (hm : Nat) (x : Int32)  : ∀ sz : Nat, Met l yX4_init wsX4_init ({ frames := 1, cells := 3, slots := 5912, locals := 20 }) (ct_Pre D vwCl (ct_T cI cZ) [.ref hm, .int x] [(hm, .inr (4, [.int 0, .int 0, .null, .int 0, .int 0, .int 0, .int 0, .int 0, .int 0, .null, .null, .int 0]))] sz) ((fun (A : Nat → Prop) => va_Qv (fun (_ : Unit) => True) (fun _ t => ∃ (gB gT gZ : Nat), va_P D vwCl [(hm, .inr (4, [.int 0, .int (nI (amt x)), .ref gB, .int 0, .int 1, .int 0, .int (-1), .int 0, .int 0, .ref gT, .ref gZ, .int 0])), (gB, .inl (cI, 5760, .inl (fun _ => 0))), (gT, .inl (cI, 32, .inl (fun _ => 0))), (gZ, .inl (cZ, 120, .inl (fun _ => 0)))] t.heap ∧ va_D A [(hm, .inr (4, [.int 0, .int (nI (amt x)), .ref gB, .int 0, .int 1, .int 0, .int (-1), .int 0, .int 0, .ref gT, .ref gZ, .int 0])), (gB, .inl (cI, 5760, .inl (fun _ => 0))), (gT, .inl (cI, 32, .inl (fun _ => 0))), (gZ, .inl (cZ, 120, .inl (fun _ => 0)))]) A) (va_A [(hm, .inr (4, [.int 0, .int 0, .null, .int 0, .int 0, .int 0, .int 0, .int 0, .int 0, .null, .null, .int 0]))] sz)) 3 5912 (va_A [(hm, .inr (4, [.int 0, .int 0, .null, .int 0, .int 0, .int 0, .int 0, .int 0, .int 0, .null, .null, .int 0]))] sz) := by
  refine ct_of (Qf := fun (A : Nat → Prop) => va_Qv (fun (_ : Unit) => True) (fun _ t => ∃ (gB gT gZ : Nat), va_P D vwCl [(hm, .inr (4, [.int 0, .int (nI (amt x)), .ref gB, .int 0, .int 1, .int 0, .int (-1), .int 0, .int 0, .ref gT, .ref gZ, .int 0])), (gB, .inl (cI, 5760, .inl (fun _ => 0))), (gT, .inl (cI, 32, .inl (fun _ => 0))), (gZ, .inl (cZ, 120, .inl (fun _ => 0)))] t.heap ∧ va_D A [(hm, .inr (4, [.int 0, .int (nI (amt x)), .ref gB, .int 0, .int 1, .int 0, .int (-1), .int 0, .int 0, .ref gT, .ref gZ, .int 0])), (gB, .inl (cI, 5760, .inl (fun _ => 0))), (gT, .inl (cI, 32, .inl (fun _ => 0))), (gZ, .inl (cZ, 120, .inl (fun _ => 0)))]) A) (cc := cX4_init) (maxL := 2) (ret := none) [(0, .ref hm), (1, .int x)] (by decide) rfl (Nat.le_of_ble_eq_true rfl) rfl ?_
  intro p e s m below meth c hx hb hr hts hown hlocks hml hnm A hA hK hN hP hD hS ls hl
  have hown : s.vm.findClass RX4 = some m.cls := hown
  have hin : meth.name = "<init>" := hnm
  have hk0 := hts (.methodLink RX4 1 objectInit) (by decide +kernel)
  have hk1 := hts (.instanceMethod objectInit) (by decide +kernel)
  have hk2 := hts (.code objectInit ⟨#[0xb1]⟩ 1 none) (by decide +kernel)
  have hk3 := hts (.arrayClass .int) (by decide +kernel)
  have hk4 := hts (.fieldLink RX4 7 "DesignPagesModel" "bytes" "[I") (by decide +kernel)
  have hk5 := hts (.fieldLink RX4 13 "DesignPagesModel" "oldest" "I") (by decide +kernel)
  have hk6 := hts (.fieldLink RX4 17 "DesignPagesModel" "left" "I") (by decide +kernel)
  have hk7 := hts (.fieldLink RX4 20 "DesignPagesModel" "types" "[I") (by decide +kernel)
  have hk8 := hts (.arrayClass .boolean) (by decide +kernel)
  have hk9 := hts (.fieldLink RX4 23 "DesignPagesModel" "reached" "[Z") (by decide +kernel)
  have hk10 := hts (.fieldLink RX4 27 "DesignPagesModel" "pages" "I") (by decide +kernel)
  have hiX4 : ∀ w ∈ wsX40, w ∈ wsX4_init := by decide +kernel
  refine lv_aload_n hx hb dX4_init_0 rfl (lv_at hl 0 rfl) ?_
  refine W.objInit hx hb hown hk0 hk1 hk2 rfl (by rw [hml]; exact hl.1) rfl dX4_init_1 (Nat.le_of_ble_eq_true rfl) (Nat.le_of_ble_eq_true rfl) ?_
  refine W.eq (g2 := F0 m 4 ls []) rfl ?_
  refine lv_aload_n hx hb dX4_init_4 rfl (lv_at hl 0 rfl) ?_
  refine lv_sipush (v := 5760) hx hb dX4_init_5 (by decide) ?_
  refine ct_newi (n := 5760) hx hb hk3 hK hP hD hS hA (by omega) (Nat.le_of_ble_eq_true rfl) (by show _ ≤ 5912; omega) dX4_init_8 (fun q8 H hP hD hS => ?_)
  have hP : va_P D vwCl [(hm, .inr (4, [.int 0, .int 0, .null, .int 0, .int 0, .int 0, .int 0, .int 0, .int 0, .null, .null, .int 0])), (q8, .inl (cI, 5760, .inl (fun _ => 0)))] _ := hP
  have hD : va_D A [(hm, .inr (4, [.int 0, .int 0, .null, .int 0, .int 0, .int 0, .int 0, .int 0, .int 0, .null, .null, .int 0])), (q8, .inl (cI, 5760, .inl (fun _ => 0)))] := hD
  refine va_putF (D := D) (cl := vwCl) (ci := 4) (v := .ref q8) (ty := .array .int) (C := RX4) (T := TX4) (N := 12) hx hb hts hiX4 tyX4 tyX4_ok nmX4 hown hK hP hD hS 0 rfl rfl 2 (by decide) hk4 (fun _ h9 => h9) rfl hin rfl (by decide +kernel) rfl rfl (Nat.le_of_ble_eq_true rfl) dX4_init_10 (fun H locs hP hD hS => ?_)
  have hP : va_P D vwCl [(hm, .inr (4, [.int 0, .int 0, .ref q8, .int 0, .int 0, .int 0, .int 0, .int 0, .int 0, .null, .null, .int 0])), (q8, .inl (cI, 5760, .inl (fun _ => 0)))] _ := hP
  have hD : va_D A [(hm, .inr (4, [.int 0, .int 0, .ref q8, .int 0, .int 0, .int 0, .int 0, .int 0, .int 0, .null, .null, .int 0])), (q8, .inl (cI, 5760, .inl (fun _ => 0)))] := hD
  refine lv_aload_n hx hb dX4_init_13 rfl (lv_at hl 0 rfl) ?_
  refine lv_iconst (v := 1) hx hb dX4_init_14 (by decide) ?_
  refine va_put (D := D) (cl := vwCl) (ci := 4) (v := .int 1) (ty := .int) (C := RX4) (T := TX4) (N := 12) hx hb hts hiX4 tyX4 tyX4_ok nmX4 hown hK hP hD hS 0 rfl rfl 4 (by decide) hk5 (fun _ h9 => h9) rfl (by decide +kernel) rfl rfl (Nat.le_of_ble_eq_true rfl) dX4_init_15 (fun H locs hP hD hS => ?_)
  have hP : va_P D vwCl [(hm, .inr (4, [.int 0, .int 0, .ref q8, .int 0, .int 1, .int 0, .int 0, .int 0, .int 0, .null, .null, .int 0])), (q8, .inl (cI, 5760, .inl (fun _ => 0)))] _ := hP
  have hD : va_D A [(hm, .inr (4, [.int 0, .int 0, .ref q8, .int 0, .int 1, .int 0, .int 0, .int 0, .int 0, .null, .null, .int 0])), (q8, .inl (cI, 5760, .inl (fun _ => 0)))] := hD
  refine lv_aload_n hx hb dX4_init_18 rfl (lv_at hl 0 rfl) ?_
  refine lv_iconst (v := (-1)) hx hb dX4_init_19 (by decide) ?_
  refine va_put (D := D) (cl := vwCl) (ci := 4) (v := .int (-1)) (ty := .int) (C := RX4) (T := TX4) (N := 12) hx hb hts hiX4 tyX4 tyX4_ok nmX4 hown hK hP hD hS 0 rfl rfl 6 (by decide) hk6 (fun _ h9 => h9) rfl (by decide +kernel) rfl rfl (Nat.le_of_ble_eq_true rfl) dX4_init_20 (fun H locs hP hD hS => ?_)
  have hP : va_P D vwCl [(hm, .inr (4, [.int 0, .int 0, .ref q8, .int 0, .int 1, .int 0, .int (-1), .int 0, .int 0, .null, .null, .int 0])), (q8, .inl (cI, 5760, .inl (fun _ => 0)))] _ := hP
  have hD : va_D A [(hm, .inr (4, [.int 0, .int 0, .ref q8, .int 0, .int 1, .int 0, .int (-1), .int 0, .int 0, .null, .null, .int 0])), (q8, .inl (cI, 5760, .inl (fun _ => 0)))] := hD
  refine lv_aload_n hx hb dX4_init_23 rfl (lv_at hl 0 rfl) ?_
  refine lv_bipush (v := 32) hx hb dX4_init_24 (by decide) ?_
  refine ct_newi (n := 32) hx hb hk3 hK hP hD hS hA (by omega) (Nat.le_of_ble_eq_true rfl) (by show _ ≤ 5912; omega) dX4_init_26 (fun q26 H hP hD hS => ?_)
  have hP : va_P D vwCl [(hm, .inr (4, [.int 0, .int 0, .ref q8, .int 0, .int 1, .int 0, .int (-1), .int 0, .int 0, .null, .null, .int 0])), (q8, .inl (cI, 5760, .inl (fun _ => 0))), (q26, .inl (cI, 32, .inl (fun _ => 0)))] _ := hP
  have hD : va_D A [(hm, .inr (4, [.int 0, .int 0, .ref q8, .int 0, .int 1, .int 0, .int (-1), .int 0, .int 0, .null, .null, .int 0])), (q8, .inl (cI, 5760, .inl (fun _ => 0))), (q26, .inl (cI, 32, .inl (fun _ => 0)))] := hD
  refine va_putF (D := D) (cl := vwCl) (ci := 4) (v := .ref q26) (ty := .array .int) (C := RX4) (T := TX4) (N := 12) hx hb hts hiX4 tyX4 tyX4_ok nmX4 hown hK hP hD hS 0 rfl rfl 9 (by decide) hk7 (fun _ h9 => h9) rfl hin rfl (by decide +kernel) rfl rfl (Nat.le_of_ble_eq_true rfl) dX4_init_28 (fun H locs hP hD hS => ?_)
  have hP : va_P D vwCl [(hm, .inr (4, [.int 0, .int 0, .ref q8, .int 0, .int 1, .int 0, .int (-1), .int 0, .int 0, .ref q26, .null, .int 0])), (q8, .inl (cI, 5760, .inl (fun _ => 0))), (q26, .inl (cI, 32, .inl (fun _ => 0)))] _ := hP
  have hD : va_D A [(hm, .inr (4, [.int 0, .int 0, .ref q8, .int 0, .int 1, .int 0, .int (-1), .int 0, .int 0, .ref q26, .null, .int 0])), (q8, .inl (cI, 5760, .inl (fun _ => 0))), (q26, .inl (cI, 32, .inl (fun _ => 0)))] := hD
  refine lv_aload_n hx hb dX4_init_31 rfl (lv_at hl 0 rfl) ?_
  refine lv_bipush (v := 120) hx hb dX4_init_32 (by decide) ?_
  refine ct_newz (n := 120) hx hb hk8 hK hP hD hS hA (by omega) (Nat.le_of_ble_eq_true rfl) (by show _ ≤ 5912; omega) dX4_init_34 (fun q34 H hP hD hS => ?_)
  have hP : va_P D vwCl [(hm, .inr (4, [.int 0, .int 0, .ref q8, .int 0, .int 1, .int 0, .int (-1), .int 0, .int 0, .ref q26, .null, .int 0])), (q8, .inl (cI, 5760, .inl (fun _ => 0))), (q26, .inl (cI, 32, .inl (fun _ => 0))), (q34, .inl (cZ, 120, .inl (fun _ => 0)))] _ := hP
  have hD : va_D A [(hm, .inr (4, [.int 0, .int 0, .ref q8, .int 0, .int 1, .int 0, .int (-1), .int 0, .int 0, .ref q26, .null, .int 0])), (q8, .inl (cI, 5760, .inl (fun _ => 0))), (q26, .inl (cI, 32, .inl (fun _ => 0))), (q34, .inl (cZ, 120, .inl (fun _ => 0)))] := hD
  refine va_putF (D := D) (cl := vwCl) (ci := 4) (v := .ref q34) (ty := .array .boolean) (C := RX4) (T := TX4) (N := 12) hx hb hts hiX4 tyX4 tyX4_ok nmX4 hown hK hP hD hS 0 rfl rfl 10 (by decide) hk9 (fun _ h9 => h9) rfl hin rfl (by decide +kernel) rfl rfl (Nat.le_of_ble_eq_true rfl) dX4_init_36 (fun H locs hP hD hS => ?_)
  have hP : va_P D vwCl [(hm, .inr (4, [.int 0, .int 0, .ref q8, .int 0, .int 1, .int 0, .int (-1), .int 0, .int 0, .ref q26, .ref q34, .int 0])), (q8, .inl (cI, 5760, .inl (fun _ => 0))), (q26, .inl (cI, 32, .inl (fun _ => 0))), (q34, .inl (cZ, 120, .inl (fun _ => 0)))] _ := hP
  have hD : va_D A [(hm, .inr (4, [.int 0, .int 0, .ref q8, .int 0, .int 1, .int 0, .int (-1), .int 0, .int 0, .ref q26, .ref q34, .int 0])), (q8, .inl (cI, 5760, .inl (fun _ => 0))), (q26, .inl (cI, 32, .inl (fun _ => 0))), (q34, .inl (cZ, 120, .inl (fun _ => 0)))] := hD
  refine lv_aload_n hx hb dX4_init_39 rfl (lv_at hl 0 rfl) ?_
  refine lv_iload_n hx hb dX4_init_40 rfl (lv_at hl 1 rfl) ?_
  refine lv_bipush (v := 12) hx hb dX4_init_41 (by decide) ?_
  refine lv_icmp_ge (tgt := 51) hx hb dX4_init_43 (by decide) (fun c43 => ?_) (fun c43 => ?_)
  · skip
    refine lv_iload_n hx hb dX4_init_51 rfl (lv_at hl 1 rfl) ?_
    refine lv_bipush (v := 120) hx hb dX4_init_52 (by decide) ?_
    refine lv_icmp_le (tgt := 62) hx hb dX4_init_54 (by decide) (fun c54 => ?_) (fun c54 => ?_)
    · skip
      refine lv_iload_n hx hb dX4_init_62 rfl (lv_at hl 1 rfl) ?_
      refine ct_top (y := nI (amt x)) (by rw [← (amt_sp x).1, if_neg (Int32.not_lt.mpr c43), if_neg (Int32.not_lt.mpr c54)]) ?_
      refine va_putF (D := D) (cl := vwCl) (ci := 4) (v := .int (nI (amt x))) (ty := .int) (C := RX4) (T := TX4) (N := 12) hx hb hts hiX4 tyX4 tyX4_ok nmX4 hown hK hP hD hS 0 rfl rfl 1 (by decide) hk10 (fun _ h9 => h9) rfl hin rfl (by decide +kernel) rfl rfl (Nat.le_of_ble_eq_true rfl) dX4_init_63 (fun H locs hP hD hS => ?_)
      have hP : va_P D vwCl [(hm, .inr (4, [.int 0, .int (nI (amt x)), .ref q8, .int 0, .int 1, .int 0, .int (-1), .int 0, .int 0, .ref q26, .ref q34, .int 0])), (q8, .inl (cI, 5760, .inl (fun _ => 0))), (q26, .inl (cI, 32, .inl (fun _ => 0))), (q34, .inl (cZ, 120, .inl (fun _ => 0)))] _ := hP
      have hD : va_D A [(hm, .inr (4, [.int 0, .int (nI (amt x)), .ref q8, .int 0, .int 1, .int 0, .int (-1), .int 0, .int 0, .ref q26, .ref q34, .int 0])), (q8, .inl (cI, 5760, .inl (fun _ => 0))), (q26, .inl (cI, 32, .inl (fun _ => 0))), (q34, .inl (cZ, 120, .inl (fun _ => 0)))] := hD
      have hP9 := hP.sub (ws' := [(hm, .inr (4, [.int 0, .int (nI (amt x)), .ref q8, .int 0, .int 1, .int 0, .int (-1), .int 0, .int 0, .ref q26, .ref q34, .int 0])), (q8, .inl (cI, 5760, .inl (fun _ => 0))), (q26, .inl (cI, 32, .inl (fun _ => 0))), (q34, .inl (cZ, 120, .inl (fun _ => 0)))]) [0, 1, 2, 3] rfl
      have hD9 := hD.sub (ws' := [(hm, .inr (4, [.int 0, .int (nI (amt x)), .ref q8, .int 0, .int 1, .int 0, .int (-1), .int 0, .int 0, .ref q26, .ref q34, .int 0])), (q8, .inl (cI, 5760, .inl (fun _ => 0))), (q26, .inl (cI, 32, .inl (fun _ => 0))), (q34, .inl (cZ, 120, .inl (fun _ => 0)))]) [0, 1, 2, 3] (by decide) rfl
      refine W.widen (k := 3) (n := 5912) (by omega) (by omega) ?_
      exact W.vret hx hb hr (fun t ht hW => ⟨⟨(), rfl, trivial, q8, q26, q34, by rw [ht]; exact hP9, hD9⟩, hS.F ht⟩) hS.2.2 dX4_init_66 hlocks
    · skip
      refine lv_bipush (v := 120) hx hb dX4_init_57 (by decide) ?_
      refine lv_goto (tgt := 63) hx hb dX4_init_59 (by decide) ?_
      refine ct_top (y := nI (amt x)) (by rw [← (amt_sp x).1, if_neg (Int32.not_lt.mpr c43), if_pos (Int32.not_le.mp c54)]) ?_
      refine va_putF (D := D) (cl := vwCl) (ci := 4) (v := .int (nI (amt x))) (ty := .int) (C := RX4) (T := TX4) (N := 12) hx hb hts hiX4 tyX4 tyX4_ok nmX4 hown hK hP hD hS 0 rfl rfl 1 (by decide) hk10 (fun _ h9 => h9) rfl hin rfl (by decide +kernel) rfl rfl (Nat.le_of_ble_eq_true rfl) dX4_init_63 (fun H locs hP hD hS => ?_)
      have hP : va_P D vwCl [(hm, .inr (4, [.int 0, .int (nI (amt x)), .ref q8, .int 0, .int 1, .int 0, .int (-1), .int 0, .int 0, .ref q26, .ref q34, .int 0])), (q8, .inl (cI, 5760, .inl (fun _ => 0))), (q26, .inl (cI, 32, .inl (fun _ => 0))), (q34, .inl (cZ, 120, .inl (fun _ => 0)))] _ := hP
      have hD : va_D A [(hm, .inr (4, [.int 0, .int (nI (amt x)), .ref q8, .int 0, .int 1, .int 0, .int (-1), .int 0, .int 0, .ref q26, .ref q34, .int 0])), (q8, .inl (cI, 5760, .inl (fun _ => 0))), (q26, .inl (cI, 32, .inl (fun _ => 0))), (q34, .inl (cZ, 120, .inl (fun _ => 0)))] := hD
      have hP9 := hP.sub (ws' := [(hm, .inr (4, [.int 0, .int (nI (amt x)), .ref q8, .int 0, .int 1, .int 0, .int (-1), .int 0, .int 0, .ref q26, .ref q34, .int 0])), (q8, .inl (cI, 5760, .inl (fun _ => 0))), (q26, .inl (cI, 32, .inl (fun _ => 0))), (q34, .inl (cZ, 120, .inl (fun _ => 0)))]) [0, 1, 2, 3] rfl
      have hD9 := hD.sub (ws' := [(hm, .inr (4, [.int 0, .int (nI (amt x)), .ref q8, .int 0, .int 1, .int 0, .int (-1), .int 0, .int 0, .ref q26, .ref q34, .int 0])), (q8, .inl (cI, 5760, .inl (fun _ => 0))), (q26, .inl (cI, 32, .inl (fun _ => 0))), (q34, .inl (cZ, 120, .inl (fun _ => 0)))]) [0, 1, 2, 3] (by decide) rfl
      refine W.widen (k := 3) (n := 5912) (by omega) (by omega) ?_
      exact W.vret hx hb hr (fun t ht hW => ⟨⟨(), rfl, trivial, q8, q26, q34, by rw [ht]; exact hP9, hD9⟩, hS.F ht⟩) hS.2.2 dX4_init_66 hlocks
  · skip
    refine lv_bipush (v := 12) hx hb dX4_init_46 (by decide) ?_
    refine lv_goto (tgt := 63) hx hb dX4_init_48 (by decide) ?_
    refine ct_top (y := nI (amt x)) (by rw [← (amt_sp x).1, if_pos (Int32.not_le.mp c43)]) ?_
    refine va_putF (D := D) (cl := vwCl) (ci := 4) (v := .int (nI (amt x))) (ty := .int) (C := RX4) (T := TX4) (N := 12) hx hb hts hiX4 tyX4 tyX4_ok nmX4 hown hK hP hD hS 0 rfl rfl 1 (by decide) hk10 (fun _ h9 => h9) rfl hin rfl (by decide +kernel) rfl rfl (Nat.le_of_ble_eq_true rfl) dX4_init_63 (fun H locs hP hD hS => ?_)
    have hP : va_P D vwCl [(hm, .inr (4, [.int 0, .int (nI (amt x)), .ref q8, .int 0, .int 1, .int 0, .int (-1), .int 0, .int 0, .ref q26, .ref q34, .int 0])), (q8, .inl (cI, 5760, .inl (fun _ => 0))), (q26, .inl (cI, 32, .inl (fun _ => 0))), (q34, .inl (cZ, 120, .inl (fun _ => 0)))] _ := hP
    have hD : va_D A [(hm, .inr (4, [.int 0, .int (nI (amt x)), .ref q8, .int 0, .int 1, .int 0, .int (-1), .int 0, .int 0, .ref q26, .ref q34, .int 0])), (q8, .inl (cI, 5760, .inl (fun _ => 0))), (q26, .inl (cI, 32, .inl (fun _ => 0))), (q34, .inl (cZ, 120, .inl (fun _ => 0)))] := hD
    have hP9 := hP.sub (ws' := [(hm, .inr (4, [.int 0, .int (nI (amt x)), .ref q8, .int 0, .int 1, .int 0, .int (-1), .int 0, .int 0, .ref q26, .ref q34, .int 0])), (q8, .inl (cI, 5760, .inl (fun _ => 0))), (q26, .inl (cI, 32, .inl (fun _ => 0))), (q34, .inl (cZ, 120, .inl (fun _ => 0)))]) [0, 1, 2, 3] rfl
    have hD9 := hD.sub (ws' := [(hm, .inr (4, [.int 0, .int (nI (amt x)), .ref q8, .int 0, .int 1, .int 0, .int (-1), .int 0, .int 0, .ref q26, .ref q34, .int 0])), (q8, .inl (cI, 5760, .inl (fun _ => 0))), (q26, .inl (cI, 32, .inl (fun _ => 0))), (q34, .inl (cZ, 120, .inl (fun _ => 0)))]) [0, 1, 2, 3] (by decide) rfl
    refine W.widen (k := 3) (n := 5912) (by omega) (by omega) ?_
    exact W.vret hx hb hr (fun t ht hW => ⟨⟨(), rfl, trivial, q8, q26, q34, by rw [ht]; exact hP9, hD9⟩, hS.F ht⟩) hS.2.2 dX4_init_66 hlocks
