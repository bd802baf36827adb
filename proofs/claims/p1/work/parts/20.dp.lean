set_option maxHeartbeats 4000000 in
set_option maxRecDepth 100000 in
theorem c_X3_isKey (l : Launch) (D : va_G) (cI cZ : ClassId) (x : Int32)  : CtI l yX3_isKey wsX3_isKey ({ frames := 0, cells := 0, slots := 0, locals := 0 }) D vwCl (ct_T cI cZ) [.int x] [] [] (b2i (ky x)) := by
  refine ct_of (Qf := ct_Qi D vwCl [] (b2i (ky x))) (cc := cX3_isKey) (maxL := 1) (ret := (some .boolean)) [(0, .int x)] (by decide) rfl (Nat.le_of_ble_eq_true rfl) rfl ?_
  intro p e s m below meth c hx hb hr hts hown hlocks hml hnm A hA hK hN hP hD hS ls hl
  have hown : s.vm.findClass RX3 = some m.cls := hown
  refine lv_iload_n hx hb dX3_isKey_0 rfl (lv_at hl 0 rfl) ?_
  refine lv_if_lt (tgt := 15) hx hb dX3_isKey_1 (by decide) (fun c1 => ?_) (fun c1 => ?_)
  · skip
    refine lv_iconst (v := 0) hx hb dX3_isKey_15 (by decide) ?_
    exact ct_zret hx hb hr hlocks (rfl) ((b2i_f (fun h => by first | exact h.1 c1 | exact c1 h.1)).symm) (rfl) hP hD hS dX3_isKey_16
  · skip
    refine lv_iload_n hx hb dX3_isKey_4 rfl (lv_at hl 0 rfl) ?_
    refine lv_sipush (v := 1024) hx hb dX3_isKey_5 (by decide) ?_
    refine lv_icmp_ge (tgt := 15) hx hb dX3_isKey_8 (by decide) (fun c8 => ?_) (fun c8 => ?_)
    · skip
      refine lv_iconst (v := 0) hx hb dX3_isKey_15 (by decide) ?_
      exact ct_zret hx hb hr hlocks (rfl) ((b2i_f (fun h => by first | exact h.2 c8 | exact c8 h.2)).symm) (rfl) hP hD hS dX3_isKey_16
    · skip
      refine lv_iconst (v := 1) hx hb dX3_isKey_11 (by decide) ?_
      refine lv_goto (tgt := 16) hx hb dX3_isKey_12 (by decide) ?_
      exact ct_zret hx hb hr hlocks (rfl) ((b2i_t ⟨c1, c8⟩).symm) (rfl) hP hD hS dX3_isKey_16
set_option maxHeartbeats 4000000 in
set_option maxRecDepth 100000 in
theorem c_X3_isKept (l : Launch) (D : va_G) (cI cZ : ClassId) (h0 hd hB hR hM hw hT hJ a tc nw ol : Nat) (f M t pl : Nat → Int32) (O : Prop) (lf us : Int32) (x : Int32) (ha : a ≤ 120) (h12 : 12 ≤ a) (htc : tc ≤ 32) (hnw : nw ≤ 1000000) (hol : ol ≤ nw + 1) : CtI l yX3_isKept wsX3_isKept ({ frames := 0, cells := 0, slots := 0, locals := 0 }) D vwCl (ct_T cI cZ) [.ref h0, .int x] [(h0, .inr (3, [.ref hd, .ref hR, .ref hw, .ref hT, .ref hJ, .int (nI tc), .int (nI nw), .int (nI ol)])), (hd, .inr (0, [.int (nI a), .ref hB])), (hB, .inl (cI, a * 48, .inl f)), (hR, .inr (2, [.ref hM])), (hM, .inl (cI, a, .inl M)), (hw, .inr (1, [.int (b2i O), .int lf, .int us])), (hT, .inl (cI, 32, .inl t)), (hJ, .inl (cI, 32, .inl pl))] [(h0, .inr (3, [.ref hd, .ref hR, .ref hw, .ref hT, .ref hJ, .int (nI tc), .int (nI nw), .int (nI ol)])), (hd, .inr (0, [.int (nI a), .ref hB])), (hB, .inl (cI, a * 48, .inl f)), (hR, .inr (2, [.ref hM])), (hM, .inl (cI, a, .inl M)), (hw, .inr (1, [.int (b2i O), .int lf, .int us])), (hT, .inl (cI, 32, .inl t)), (hJ, .inl (cI, 32, .inl pl))] (b2i (kp ol nw x)) := by
  refine ct_of (Qf := ct_Qi D vwCl [(h0, .inr (3, [.ref hd, .ref hR, .ref hw, .ref hT, .ref hJ, .int (nI tc), .int (nI nw), .int (nI ol)])), (hd, .inr (0, [.int (nI a), .ref hB])), (hB, .inl (cI, a * 48, .inl f)), (hR, .inr (2, [.ref hM])), (hM, .inl (cI, a, .inl M)), (hw, .inr (1, [.int (b2i O), .int lf, .int us])), (hT, .inl (cI, 32, .inl t)), (hJ, .inl (cI, 32, .inl pl))] (b2i (kp ol nw x))) (cc := cX3_isKept) (maxL := 2) (ret := (some .boolean)) [(0, .ref h0), (1, .int x)] (by decide) rfl (Nat.le_of_ble_eq_true rfl) rfl ?_
  intro p e s m below meth c hx hb hr hts hown hlocks hml hnm A hA hK hN hP hD hS ls hl
  have hown : s.vm.findClass RX3 = some m.cls := hown
  have hk0 := hts (.fieldLink RX3 55 "DesignPages" "oldest" "I") (by decide +kernel)
  have hk1 := hts (.fieldLink RX3 52 "DesignPages" "newest" "I") (by decide +kernel)
  have hiX3 : ∀ w ∈ wsX30, w ∈ wsX3_isKept := by decide +kernel
  refine lv_iload_n hx hb dX3_isKept_0 rfl (lv_at hl 1 rfl) ?_
  refine lv_aload_n hx hb dX3_isKept_1 rfl (lv_at hl 0 rfl) ?_
  refine va_get (D := D) (cl := vwCl) (ci := 3) (v := .int (nI ol)) (C := RX3) (T := TX3) (N := 8) hx hb hts hiX3 hown hK hP 0 rfl rfl 7 (by decide) hk0 (fun _ h9 => h9) rfl dX3_isKept_2 ?_
  refine lv_icmp_lt (tgt := 20) hx hb dX3_isKept_5 (by decide) (fun c5 => ?_) (fun c5 => ?_)
  · skip
    refine lv_iconst (v := 0) hx hb dX3_isKept_20 (by decide) ?_
    exact ct_zret hx hb hr hlocks (rfl) ((b2i_f (fun h => by first | exact h.1 c5 | exact c5 h.1)).symm) (rfl) hP hD hS dX3_isKept_21
  · skip
    refine lv_iload_n hx hb dX3_isKept_8 rfl (lv_at hl 1 rfl) ?_
    refine lv_aload_n hx hb dX3_isKept_9 rfl (lv_at hl 0 rfl) ?_
    refine va_get (D := D) (cl := vwCl) (ci := 3) (v := .int (nI nw)) (C := RX3) (T := TX3) (N := 8) hx hb hts hiX3 hown hK hP 0 rfl rfl 6 (by decide) hk1 (fun _ h9 => h9) rfl dX3_isKept_10 ?_
    refine lv_icmp_gt (tgt := 20) hx hb dX3_isKept_13 (by decide) (fun c13 => ?_) (fun c13 => ?_)
    · skip
      refine lv_iconst (v := 0) hx hb dX3_isKept_20 (by decide) ?_
      exact ct_zret hx hb hr hlocks (rfl) ((b2i_f (fun h => by first | exact h.2 c13 | exact c13 h.2)).symm) (rfl) hP hD hS dX3_isKept_21
    · skip
      refine lv_iconst (v := 1) hx hb dX3_isKept_16 (by decide) ?_
      refine lv_goto (tgt := 21) hx hb dX3_isKept_17 (by decide) ?_
      exact ct_zret hx hb hr hlocks (rfl) ((b2i_t ⟨c5, c13⟩).symm) (rfl) hP hD hS dX3_isKept_21
set_option maxHeartbeats 4000000 in
set_option maxRecDepth 100000 in
theorem c_X3_refusalOfWriting (l : Launch) (D : va_G) (cI cZ : ClassId) (h0 hd hB hR hM hw hT hJ a tc nw ol : Nat) (f M t pl : Nat → Int32) (O : Prop) (lf us : Int32) (B : Prop) (ha : a ≤ 120) (h12 : 12 ≤ a) (htc : tc ≤ 32) (hnw : nw ≤ 1000000) (hol : ol ≤ nw + 1) : CtI l yX3_refusalOfWriting wsX3_refusalOfWriting ({ frames := 5, cells := 0, slots := 0, locals := 116 }) D vwCl (ct_T cI cZ) [.ref h0, .int (b2i B)] [(h0, .inr (3, [.ref hd, .ref hR, .ref hw, .ref hT, .ref hJ, .int (nI tc), .int (nI nw), .int (nI ol)])), (hd, .inr (0, [.int (nI a), .ref hB])), (hB, .inl (cI, a * 48, .inl f)), (hR, .inr (2, [.ref hM])), (hM, .inl (cI, a, .inl M)), (hw, .inr (1, [.int (b2i O), .int lf, .int us])), (hT, .inl (cI, 32, .inl t)), (hJ, .inl (cI, 32, .inl pl))] [(h0, .inr (3, [.ref hd, .ref hR, .ref hw, .ref hT, .ref hJ, .int (nI tc), .int (nI nw), .int (nI ol)])), (hd, .inr (0, [.int (nI a), .ref hB])), (hB, .inl (cI, a * 48, .inl f)), (hR, .inr (2, [.ref hM])), (hM, .inl (cI, a, .inl (rwm O B M f a ol nw))), (hw, .inr (1, [.int (b2i O), .int lf, .int us])), (hT, .inl (cI, 32, .inl t)), (hJ, .inl (cI, 32, .inl pl))] (rwr O B f a ol nw) := by
  refine ct_of (Qf := ct_Qi D vwCl [(h0, .inr (3, [.ref hd, .ref hR, .ref hw, .ref hT, .ref hJ, .int (nI tc), .int (nI nw), .int (nI ol)])), (hd, .inr (0, [.int (nI a), .ref hB])), (hB, .inl (cI, a * 48, .inl f)), (hR, .inr (2, [.ref hM])), (hM, .inl (cI, a, .inl (rwm O B M f a ol nw))), (hw, .inr (1, [.int (b2i O), .int lf, .int us])), (hT, .inl (cI, 32, .inl t)), (hJ, .inl (cI, 32, .inl pl))] (rwr O B f a ol nw)) (cc := cX3_refusalOfWriting) (maxL := 2) (ret := (some .int)) [(0, .ref h0), (1, .int (b2i B))] (by decide) rfl (Nat.le_of_ble_eq_true rfl) rfl ?_
  intro p e s m below meth c hx hb hr hts hown hlocks hml hnm A hA hK hN hP hD hS ls hl
  have hown : s.vm.findClass RX3 = some m.cls := hown
  have hk0 := hts (.fieldLink RX3 37 "DesignPages" "power" "LDesignPages$Power;") (by decide +kernel)
  have hk1 := hts (.fieldLink RX3 30 "DesignPages" "reach" "LDesignPages$Reach;") (by decide +kernel)
  have hk2 := hts (.fieldLink RX3 23 "DesignPages" "disk" "LDesignPages$Pages;") (by decide +kernel)
  have hk3 := hts (.fieldLink RX3 55 "DesignPages" "oldest" "I") (by decide +kernel)
  have hk4 := hts (.fieldLink RX3 52 "DesignPages" "newest" "I") (by decide +kernel)
  have hiX3 : ∀ w ∈ wsX30, w ∈ wsX3_refusalOfWriting := by decide +kernel
  refine lv_aload_n hx hb dX3_refusalOfWriting_0 rfl (lv_at hl 0 rfl) ?_
  refine va_get (D := D) (cl := vwCl) (ci := 3) (v := .ref hw) (C := RX3) (T := TX3) (N := 8) hx hb hts hiX3 hown hK hP 0 rfl rfl 2 (by decide) hk0 (fun _ h9 => h9) rfl dX3_refusalOfWriting_1 ?_
  refine ct_calli (w := [(hw, .inr (1, [.int (b2i O), .int lf, .int us]))]) (w' := [(hw, .inr (1, [.int (b2i O), .int lf, .int us]))]) (va_runV (As := []) (rest := []) ⟨hx, hb, hml, hown, hts⟩ (c_X1_isOff l D cI cZ hw O lf us  _) (cwV 0 hts gX3_refusalOfWriting_X1_isOff rfl rfl rfl (by decide +kernel) ⟨Nat.le_of_ble_eq_true rfl, Nat.le_of_ble_eq_true rfl⟩) (ct_preV (w := [(hw, .inr (1, [.int (b2i O), .int lf, .int us]))]) (ci := 1) (i0 := 5) hK hN hP hD [5] (by decide) rfl rfl rfl) rfl rfl hl.1 rfl (lv_room (Nat.le_of_ble_eq_true rfl)) dX3_refusalOfWriting_4 ⟨Nat.le_of_ble_eq_true rfl, Nat.le_of_ble_eq_true rfl⟩) hP hD hS hA [5] rfl [hw] rfl rfl (fun H locs hP hD hS => ?_)
  have hP : va_P D vwCl [(h0, .inr (3, [.ref hd, .ref hR, .ref hw, .ref hT, .ref hJ, .int (nI tc), .int (nI nw), .int (nI ol)])), (hd, .inr (0, [.int (nI a), .ref hB])), (hB, .inl (cI, a * 48, .inl f)), (hR, .inr (2, [.ref hM])), (hM, .inl (cI, a, .inl M)), (hw, .inr (1, [.int (b2i O), .int lf, .int us])), (hT, .inl (cI, 32, .inl t)), (hJ, .inl (cI, 32, .inl pl))] _ := hP
  have hD : va_D A [(h0, .inr (3, [.ref hd, .ref hR, .ref hw, .ref hT, .ref hJ, .int (nI tc), .int (nI nw), .int (nI ol)])), (hd, .inr (0, [.int (nI a), .ref hB])), (hB, .inl (cI, a * 48, .inl f)), (hR, .inr (2, [.ref hM])), (hM, .inl (cI, a, .inl M)), (hw, .inr (1, [.int (b2i O), .int lf, .int us])), (hT, .inl (cI, 32, .inl t)), (hJ, .inl (cI, 32, .inl pl))] := hD
  refine lv_if_eq (tgt := 13) hx hb dX3_refusalOfWriting_7 (by decide) (fun c7 => ?_) (fun c7 => ?_)
  · skip
    refine lv_iload_n hx hb dX3_refusalOfWriting_13 rfl (lv_at hl 1 rfl) ?_
    refine lv_if_ne (tgt := 20) hx hb dX3_refusalOfWriting_14 (by decide) (fun c14 => ?_) (fun c14 => ?_)
    · skip
      refine lv_aload_n hx hb dX3_refusalOfWriting_20 rfl (lv_at hl 0 rfl) ?_
      refine va_get (D := D) (cl := vwCl) (ci := 3) (v := .ref hR) (C := RX3) (T := TX3) (N := 8) hx hb hts hiX3 hown hK hP 0 rfl rfl 1 (by decide) hk1 (fun _ h9 => h9) rfl dX3_refusalOfWriting_21 ?_
      refine lv_aload_n hx hb dX3_refusalOfWriting_24 rfl (lv_at hl 0 rfl) ?_
      refine va_get (D := D) (cl := vwCl) (ci := 3) (v := .ref hd) (C := RX3) (T := TX3) (N := 8) hx hb hts hiX3 hown hK hP 0 rfl rfl 0 (by decide) hk2 (fun _ h9 => h9) rfl dX3_refusalOfWriting_25 ?_
      refine lv_aload_n hx hb dX3_refusalOfWriting_28 rfl (lv_at hl 0 rfl) ?_
      refine va_get (D := D) (cl := vwCl) (ci := 3) (v := .int (nI ol)) (C := RX3) (T := TX3) (N := 8) hx hb hts hiX3 hown hK hP 0 rfl rfl 7 (by decide) hk3 (fun _ h9 => h9) rfl dX3_refusalOfWriting_29 ?_
      refine lv_aload_n hx hb dX3_refusalOfWriting_32 rfl (lv_at hl 0 rfl) ?_
      refine va_get (D := D) (cl := vwCl) (ci := 3) (v := .int (nI nw)) (C := RX3) (T := TX3) (N := 8) hx hb hts hiX3 hown hK hP 0 rfl rfl 6 (by decide) hk4 (fun _ h9 => h9) rfl dX3_refusalOfWriting_33 ?_
      refine ct_callv (w := [(hR, .inr (2, [.ref hM])), (hM, .inl (cI, a, .inl M)), (hd, .inr (0, [.int (nI a), .ref hB])), (hB, .inl (cI, a * 48, .inl f))]) (w' := [(hR, .inr (2, [.ref hM])), (hM, .inl (cI, a, .inl (wk_marks f a ol (nw + 1 - ol)))), (hd, .inr (0, [.int (nI a), .ref hB])), (hB, .inl (cI, a * 48, .inl f))]) (va_runV (As := [.ref hd, .int (nI ol), .int (nI nw)]) (rest := []) ⟨hx, hb, hml, hown, hts⟩ (c_X2_walk l D cI cZ hR hM hd hB a ol nw M f (by omega) (by omega) (by omega) (by omega) _) (cwV 3 hts gX3_refusalOfWriting_X2_walk rfl rfl rfl (by decide +kernel) ⟨Nat.le_of_ble_eq_true rfl, Nat.le_of_ble_eq_true rfl⟩) (ct_preV (w := [(hR, .inr (2, [.ref hM])), (hM, .inl (cI, a, .inl M)), (hd, .inr (0, [.int (nI a), .ref hB])), (hB, .inl (cI, a * 48, .inl f))]) (ci := 2) (i0 := 3) hK hN hP hD [3, 4, 1, 2] (by decide) rfl rfl rfl) rfl rfl hl.1 rfl (lv_room (Nat.le_of_ble_eq_true rfl)) dX3_refusalOfWriting_36 ⟨Nat.le_of_ble_eq_true rfl, Nat.le_of_ble_eq_true rfl⟩) hP hD hS hA [3, 4, 1, 2] rfl [hR, hM, hd, hB] rfl rfl (fun H locs hP hD hS => ?_)
      have hP : va_P D vwCl [(h0, .inr (3, [.ref hd, .ref hR, .ref hw, .ref hT, .ref hJ, .int (nI tc), .int (nI nw), .int (nI ol)])), (hd, .inr (0, [.int (nI a), .ref hB])), (hB, .inl (cI, a * 48, .inl f)), (hR, .inr (2, [.ref hM])), (hM, .inl (cI, a, .inl (wk_marks f a ol (nw + 1 - ol)))), (hw, .inr (1, [.int (b2i O), .int lf, .int us])), (hT, .inl (cI, 32, .inl t)), (hJ, .inl (cI, 32, .inl pl))] _ := hP
      have hD : va_D A [(h0, .inr (3, [.ref hd, .ref hR, .ref hw, .ref hT, .ref hJ, .int (nI tc), .int (nI nw), .int (nI ol)])), (hd, .inr (0, [.int (nI a), .ref hB])), (hB, .inl (cI, a * 48, .inl f)), (hR, .inr (2, [.ref hM])), (hM, .inl (cI, a, .inl (wk_marks f a ol (nw + 1 - ol)))), (hw, .inr (1, [.int (b2i O), .int lf, .int us])), (hT, .inl (cI, 32, .inl t)), (hJ, .inl (cI, 32, .inl pl))] := hD
      refine lv_aload_n hx hb dX3_refusalOfWriting_39 rfl (lv_at hl 0 rfl) ?_
      refine va_get (D := D) (cl := vwCl) (ci := 3) (v := .ref hR) (C := RX3) (T := TX3) (N := 8) hx hb hts hiX3 hown hK hP 0 rfl rfl 1 (by decide) hk1 (fun _ h9 => h9) rfl dX3_refusalOfWriting_40 ?_
      refine ct_calli (w := [(hR, .inr (2, [.ref hM])), (hM, .inl (cI, a, .inl (wk_marks f a ol (nw + 1 - ol))))]) (w' := [(hR, .inr (2, [.ref hM])), (hM, .inl (cI, a, .inl (wk_marks f a ol (nw + 1 - ol))))]) (va_runV (As := []) (rest := []) ⟨hx, hb, hml, hown, hts⟩ (c_X2_leastBad l D cI cZ hR hM a (wk_marks f a ol (nw + 1 - ol))  (by omega) _) (cwV 0 hts gX3_refusalOfWriting_X2_leastBad rfl rfl rfl (by decide +kernel) ⟨Nat.le_of_ble_eq_true rfl, Nat.le_of_ble_eq_true rfl⟩) (ct_preV (w := [(hR, .inr (2, [.ref hM])), (hM, .inl (cI, a, .inl (wk_marks f a ol (nw + 1 - ol))))]) (ci := 2) (i0 := 3) hK hN hP hD [3, 4] (by decide) rfl rfl rfl) rfl rfl hl.1 rfl (lv_room (Nat.le_of_ble_eq_true rfl)) dX3_refusalOfWriting_43 ⟨Nat.le_of_ble_eq_true rfl, Nat.le_of_ble_eq_true rfl⟩) hP hD hS hA [3, 4] rfl [hR, hM] rfl rfl (fun H locs hP hD hS => ?_)
      have hP : va_P D vwCl [(h0, .inr (3, [.ref hd, .ref hR, .ref hw, .ref hT, .ref hJ, .int (nI tc), .int (nI nw), .int (nI ol)])), (hd, .inr (0, [.int (nI a), .ref hB])), (hB, .inl (cI, a * 48, .inl f)), (hR, .inr (2, [.ref hM])), (hM, .inl (cI, a, .inl (wk_marks f a ol (nw + 1 - ol)))), (hw, .inr (1, [.int (b2i O), .int lf, .int us])), (hT, .inl (cI, 32, .inl t)), (hJ, .inl (cI, 32, .inl pl))] _ := hP
      have hD : va_D A [(h0, .inr (3, [.ref hd, .ref hR, .ref hw, .ref hT, .ref hJ, .int (nI tc), .int (nI nw), .int (nI ol)])), (hd, .inr (0, [.int (nI a), .ref hB])), (hB, .inl (cI, a * 48, .inl f)), (hR, .inr (2, [.ref hM])), (hM, .inl (cI, a, .inl (wk_marks f a ol (nw + 1 - ol)))), (hw, .inr (1, [.int (b2i O), .int lf, .int us])), (hT, .inl (cI, 32, .inl t)), (hJ, .inl (cI, 32, .inl pl))] := hD
      refine lv_iconst (v := (-1)) hx hb dX3_refusalOfWriting_46 (by decide) ?_
      refine lv_icmp_ne (tgt := 54) hx hb dX3_refusalOfWriting_47 (by decide) (fun c47 => ?_) (fun c47 => ?_)
      · skip
        refine lv_bipush (v := (-4)) hx hb dX3_refusalOfWriting_54 (by decide) ?_
        have e10 : rwm O B M f a ol nw = wk_marks f a ol (nw + 1 - ol) := by unfold rwm; rw [ifp_t ⟨b2i_0.mp c7, b2i_n0 c14⟩]
        have e9 : rwr O B f a ol nw = -4 := by unfold rwr; rw [ifp_f (b2i_0.mp c7), ifp_t (b2i_n0 c14), ifp_f c47]
        exact ct_iret hx hb hr hlocks (e9.symm) (by rw [e10]) hP hD hS dX3_refusalOfWriting_56
      · skip
        refine lv_iconst (v := 0) hx hb dX3_refusalOfWriting_50 (by decide) ?_
        refine lv_goto (tgt := 56) hx hb dX3_refusalOfWriting_51 (by decide) ?_
        have e10 : rwm O B M f a ol nw = wk_marks f a ol (nw + 1 - ol) := by unfold rwm; rw [ifp_t ⟨b2i_0.mp c7, b2i_n0 c14⟩]
        have e9 : rwr O B f a ol nw = 0 := by unfold rwr; rw [ifp_f (b2i_0.mp c7), ifp_t (b2i_n0 c14), ifp_t c47]
        exact ct_iret hx hb hr hlocks (e9.symm) (by rw [e10]) hP hD hS dX3_refusalOfWriting_56
    · skip
      refine lv_bipush (v := (-2)) hx hb dX3_refusalOfWriting_17 (by decide) ?_
      have e8 := b2i_0.mp c14
      have e9 : rwr O B f a ol nw = -2 := by unfold rwr; rw [ifp_f (b2i_0.mp c7), ifp_f e8]
      have e10 : rwm O B M f a ol nw = M := by unfold rwm; rw [ifp_f (fun h => e8 h.2)]
      exact ct_iret hx hb hr hlocks (e9.symm) (by rw [e10]) hP hD hS dX3_refusalOfWriting_19
  · skip
    refine lv_bipush (v := (-5)) hx hb dX3_refusalOfWriting_10 (by decide) ?_
    have e8 := b2i_n0 c7
    have e9 : rwr O B f a ol nw = -5 := by unfold rwr; rw [ifp_t e8]
    have e10 : rwm O B M f a ol nw = M := by unfold rwm; rw [ifp_f (fun h => h.1 e8)]
    exact ct_iret hx hb hr hlocks (e9.symm) (by rw [e10]) hP hD hS dX3_refusalOfWriting_12
set_option maxHeartbeats 4000000 in
set_option maxRecDepth 100000 in
theorem c_X3_refusalOfReading (l : Launch) (D : va_G) (cI cZ : ClassId) (h0 hd hB hR hM hw hT hJ a tc nw ol : Nat) (f M t pl : Nat → Int32) (O : Prop) (lf us : Int32) (x y : Int32) (ha : a ≤ 120) (h12 : 12 ≤ a) (htc : tc ≤ 32) (hnw : nw ≤ 1000000) (hol : ol ≤ nw + 1) : CtI l yX3_refusalOfReading wsX3_refusalOfReading ({ frames := 1, cells := 0, slots := 0, locals := 21 }) D vwCl (ct_T cI cZ) [.ref h0, .int x, .int y] [(h0, .inr (3, [.ref hd, .ref hR, .ref hw, .ref hT, .ref hJ, .int (nI tc), .int (nI nw), .int (nI ol)])), (hd, .inr (0, [.int (nI a), .ref hB])), (hB, .inl (cI, a * 48, .inl f)), (hR, .inr (2, [.ref hM])), (hM, .inl (cI, a, .inl M)), (hw, .inr (1, [.int (b2i O), .int lf, .int us])), (hT, .inl (cI, 32, .inl t)), (hJ, .inl (cI, 32, .inl pl))] [(h0, .inr (3, [.ref hd, .ref hR, .ref hw, .ref hT, .ref hJ, .int (nI tc), .int (nI nw), .int (nI ol)])), (hd, .inr (0, [.int (nI a), .ref hB])), (hB, .inl (cI, a * 48, .inl f)), (hR, .inr (2, [.ref hM])), (hM, .inl (cI, a, .inl M)), (hw, .inr (1, [.int (b2i O), .int lf, .int us])), (hT, .inl (cI, 32, .inl t)), (hJ, .inl (cI, 32, .inl pl))] (rrd O ol nw x y) := by
  refine ct_of (Qf := ct_Qi D vwCl [(h0, .inr (3, [.ref hd, .ref hR, .ref hw, .ref hT, .ref hJ, .int (nI tc), .int (nI nw), .int (nI ol)])), (hd, .inr (0, [.int (nI a), .ref hB])), (hB, .inl (cI, a * 48, .inl f)), (hR, .inr (2, [.ref hM])), (hM, .inl (cI, a, .inl M)), (hw, .inr (1, [.int (b2i O), .int lf, .int us])), (hT, .inl (cI, 32, .inl t)), (hJ, .inl (cI, 32, .inl pl))] (rrd O ol nw x y)) (cc := cX3_refusalOfReading) (maxL := 3) (ret := (some .int)) [(0, .ref h0), (1, .int x), (2, .int y)] (by decide) rfl (Nat.le_of_ble_eq_true rfl) rfl ?_
  intro p e s m below meth c hx hb hr hts hown hlocks hml hnm A hA hK hN hP hD hS ls hl
  have hown : s.vm.findClass RX3 = some m.cls := hown
  have hk0 := hts (.fieldLink RX3 37 "DesignPages" "power" "LDesignPages$Power;") (by decide +kernel)
  have hiX3 : ∀ w ∈ wsX30, w ∈ wsX3_refusalOfReading := by decide +kernel
  refine lv_aload_n hx hb dX3_refusalOfReading_0 rfl (lv_at hl 0 rfl) ?_
  refine va_get (D := D) (cl := vwCl) (ci := 3) (v := .ref hw) (C := RX3) (T := TX3) (N := 8) hx hb hts hiX3 hown hK hP 0 rfl rfl 2 (by decide) hk0 (fun _ h9 => h9) rfl dX3_refusalOfReading_1 ?_
  refine ct_calli (w := [(hw, .inr (1, [.int (b2i O), .int lf, .int us]))]) (w' := [(hw, .inr (1, [.int (b2i O), .int lf, .int us]))]) (va_runV (As := []) (rest := []) ⟨hx, hb, hml, hown, hts⟩ (c_X1_isOff l D cI cZ hw O lf us  _) (cwV 0 hts gX3_refusalOfReading_X1_isOff rfl rfl rfl (by decide +kernel) ⟨Nat.le_of_ble_eq_true rfl, Nat.le_of_ble_eq_true rfl⟩) (ct_preV (w := [(hw, .inr (1, [.int (b2i O), .int lf, .int us]))]) (ci := 1) (i0 := 5) hK hN hP hD [5] (by decide) rfl rfl rfl) rfl rfl hl.1 rfl (lv_room (Nat.le_of_ble_eq_true rfl)) dX3_refusalOfReading_4 ⟨Nat.le_of_ble_eq_true rfl, Nat.le_of_ble_eq_true rfl⟩) hP hD hS hA [5] rfl [hw] rfl rfl (fun H locs hP hD hS => ?_)
  have hP : va_P D vwCl [(h0, .inr (3, [.ref hd, .ref hR, .ref hw, .ref hT, .ref hJ, .int (nI tc), .int (nI nw), .int (nI ol)])), (hd, .inr (0, [.int (nI a), .ref hB])), (hB, .inl (cI, a * 48, .inl f)), (hR, .inr (2, [.ref hM])), (hM, .inl (cI, a, .inl M)), (hw, .inr (1, [.int (b2i O), .int lf, .int us])), (hT, .inl (cI, 32, .inl t)), (hJ, .inl (cI, 32, .inl pl))] _ := hP
  have hD : va_D A [(h0, .inr (3, [.ref hd, .ref hR, .ref hw, .ref hT, .ref hJ, .int (nI tc), .int (nI nw), .int (nI ol)])), (hd, .inr (0, [.int (nI a), .ref hB])), (hB, .inl (cI, a * 48, .inl f)), (hR, .inr (2, [.ref hM])), (hM, .inl (cI, a, .inl M)), (hw, .inr (1, [.int (b2i O), .int lf, .int us])), (hT, .inl (cI, 32, .inl t)), (hJ, .inl (cI, 32, .inl pl))] := hD
  refine lv_if_eq (tgt := 13) hx hb dX3_refusalOfReading_7 (by decide) (fun c7 => ?_) (fun c7 => ?_)
  · skip
    refine lv_aload_n hx hb dX3_refusalOfReading_13 rfl (lv_at hl 0 rfl) ?_
    refine lv_iload_n hx hb dX3_refusalOfReading_14 rfl (lv_at hl 1 rfl) ?_
    refine ct_calli (w := [(h0, .inr (3, [.ref hd, .ref hR, .ref hw, .ref hT, .ref hJ, .int (nI tc), .int (nI nw), .int (nI ol)])), (hd, .inr (0, [.int (nI a), .ref hB])), (hB, .inl (cI, a * 48, .inl f)), (hR, .inr (2, [.ref hM])), (hM, .inl (cI, a, .inl M)), (hw, .inr (1, [.int (b2i O), .int lf, .int us])), (hT, .inl (cI, 32, .inl t)), (hJ, .inl (cI, 32, .inl pl))]) (w' := [(h0, .inr (3, [.ref hd, .ref hR, .ref hw, .ref hT, .ref hJ, .int (nI tc), .int (nI nw), .int (nI ol)])), (hd, .inr (0, [.int (nI a), .ref hB])), (hB, .inl (cI, a * 48, .inl f)), (hR, .inr (2, [.ref hM])), (hM, .inl (cI, a, .inl M)), (hw, .inr (1, [.int (b2i O), .int lf, .int us])), (hT, .inl (cI, 32, .inl t)), (hJ, .inl (cI, 32, .inl pl))]) (va_runV (As := [.int x]) (rest := []) ⟨hx, hb, hml, hown, hts⟩ (c_X3_isKept l D cI cZ h0 hd hB hR hM hw hT hJ a tc nw ol f M t pl O lf us x (by omega) (by omega) (by omega) (by omega) (by omega)  _) (cwV 1 hts gX3_refusalOfReading_X3_isKept rfl rfl rfl (by decide +kernel) ⟨Nat.le_of_ble_eq_true rfl, Nat.le_of_ble_eq_true rfl⟩) (ct_preV (w := [(h0, .inr (3, [.ref hd, .ref hR, .ref hw, .ref hT, .ref hJ, .int (nI tc), .int (nI nw), .int (nI ol)])), (hd, .inr (0, [.int (nI a), .ref hB])), (hB, .inl (cI, a * 48, .inl f)), (hR, .inr (2, [.ref hM])), (hM, .inl (cI, a, .inl M)), (hw, .inr (1, [.int (b2i O), .int lf, .int us])), (hT, .inl (cI, 32, .inl t)), (hJ, .inl (cI, 32, .inl pl))]) (ci := 3) (i0 := 0) hK hN hP hD [0, 1, 2, 3, 4, 5, 6, 7] (by decide) rfl rfl rfl) rfl rfl hl.1 rfl (lv_room (Nat.le_of_ble_eq_true rfl)) dX3_refusalOfReading_15 ⟨Nat.le_of_ble_eq_true rfl, Nat.le_of_ble_eq_true rfl⟩) hP hD hS hA [0, 1, 2, 3, 4, 5, 6, 7] rfl [h0, hd, hB, hR, hM, hw, hT, hJ] rfl rfl (fun H locs hP hD hS => ?_)
    have hP : va_P D vwCl [(h0, .inr (3, [.ref hd, .ref hR, .ref hw, .ref hT, .ref hJ, .int (nI tc), .int (nI nw), .int (nI ol)])), (hd, .inr (0, [.int (nI a), .ref hB])), (hB, .inl (cI, a * 48, .inl f)), (hR, .inr (2, [.ref hM])), (hM, .inl (cI, a, .inl M)), (hw, .inr (1, [.int (b2i O), .int lf, .int us])), (hT, .inl (cI, 32, .inl t)), (hJ, .inl (cI, 32, .inl pl))] _ := hP
    have hD : va_D A [(h0, .inr (3, [.ref hd, .ref hR, .ref hw, .ref hT, .ref hJ, .int (nI tc), .int (nI nw), .int (nI ol)])), (hd, .inr (0, [.int (nI a), .ref hB])), (hB, .inl (cI, a * 48, .inl f)), (hR, .inr (2, [.ref hM])), (hM, .inl (cI, a, .inl M)), (hw, .inr (1, [.int (b2i O), .int lf, .int us])), (hT, .inl (cI, 32, .inl t)), (hJ, .inl (cI, 32, .inl pl))] := hD
    refine lv_if_eq (tgt := 32) hx hb dX3_refusalOfReading_18 (by decide) (fun c18 => ?_) (fun c18 => ?_)
    · skip
      refine lv_bipush (v := (-2)) hx hb dX3_refusalOfReading_32 (by decide) ?_
      exact ct_iret hx hb hr hlocks (by unfold rrd; rw [ifp_f (b2i_0.mp c7), ifp_f (fun h => b2i_0.mp c18 h.1)]) (rfl) hP hD hS dX3_refusalOfReading_34
    · skip
      refine lv_iload_n hx hb dX3_refusalOfReading_21 rfl (lv_at hl 2 rfl) ?_
      refine ct_calli (w := []) (w' := []) (va_runS (As := [.int y]) (rest := []) ⟨hx, hb, hml, hown, hts⟩ (c_X3_isKey l D cI cZ y _) (va_cwS 1 hts gX3_refusalOfReading_X3_isKey rfl rfl rfl (by decide +kernel) ⟨Nat.le_of_ble_eq_true rfl, Nat.le_of_ble_eq_true rfl⟩) (ct_preS (w := []) hK hN hP hD [] (by decide) rfl) rfl rfl hl.1 rfl (lv_room (Nat.le_of_ble_eq_true rfl)) dX3_refusalOfReading_22 ⟨Nat.le_of_ble_eq_true rfl, Nat.le_of_ble_eq_true rfl⟩) hP hD hS hA [] rfl [] rfl rfl (fun H locs hP hD hS => ?_)
      have hP : va_P D vwCl [(h0, .inr (3, [.ref hd, .ref hR, .ref hw, .ref hT, .ref hJ, .int (nI tc), .int (nI nw), .int (nI ol)])), (hd, .inr (0, [.int (nI a), .ref hB])), (hB, .inl (cI, a * 48, .inl f)), (hR, .inr (2, [.ref hM])), (hM, .inl (cI, a, .inl M)), (hw, .inr (1, [.int (b2i O), .int lf, .int us])), (hT, .inl (cI, 32, .inl t)), (hJ, .inl (cI, 32, .inl pl))] _ := hP
      have hD : va_D A [(h0, .inr (3, [.ref hd, .ref hR, .ref hw, .ref hT, .ref hJ, .int (nI tc), .int (nI nw), .int (nI ol)])), (hd, .inr (0, [.int (nI a), .ref hB])), (hB, .inl (cI, a * 48, .inl f)), (hR, .inr (2, [.ref hM])), (hM, .inl (cI, a, .inl M)), (hw, .inr (1, [.int (b2i O), .int lf, .int us])), (hT, .inl (cI, 32, .inl t)), (hJ, .inl (cI, 32, .inl pl))] := hD
      refine lv_if_eq (tgt := 32) hx hb dX3_refusalOfReading_25 (by decide) (fun c25 => ?_) (fun c25 => ?_)
      · skip
        refine lv_bipush (v := (-2)) hx hb dX3_refusalOfReading_32 (by decide) ?_
        exact ct_iret hx hb hr hlocks (by unfold rrd; rw [ifp_f (b2i_0.mp c7), ifp_f (fun h => b2i_0.mp c25 h.2)]) (rfl) hP hD hS dX3_refusalOfReading_34
      · skip
        refine lv_iconst (v := 0) hx hb dX3_refusalOfReading_28 (by decide) ?_
        refine lv_goto (tgt := 34) hx hb dX3_refusalOfReading_29 (by decide) ?_
        exact ct_iret hx hb hr hlocks (by unfold rrd; rw [ifp_f (b2i_0.mp c7), ifp_t ⟨b2i_n0 c18, b2i_n0 c25⟩]) (rfl) hP hD hS dX3_refusalOfReading_34
  · skip
    refine lv_bipush (v := (-5)) hx hb dX3_refusalOfReading_10 (by decide) ?_
    exact ct_iret hx hb hr hlocks (by unfold rrd; rw [ifp_t (b2i_n0 c7)]) (rfl) hP hD hS dX3_refusalOfReading_12
set_option maxHeartbeats 4000000 in
set_option maxRecDepth 100000 in
theorem c_X3_pageOfThing (l : Launch) (D : va_G) (cI cZ : ClassId) (h0 hd hB hR hM hw hT hJ a tc nw ol : Nat) (f M t pl : Nat → Int32) (O : Prop) (lf us : Int32) (v k : Nat) (ha : a ≤ 120) (h12 : 12 ≤ a) (htc : tc ≤ 32) (hnw : nw ≤ 1000000) (hol : ol ≤ nw + 1) (hv : v < 2 ^ 31) (hk : k < 1024) : CtI l yX3_pageOfThing wsX3_pageOfThing ({ frames := 3, cells := 0, slots := 0, locals := 69 }) D vwCl (ct_T cI cZ) [.ref h0, .int (nI v), .int (nI k)] [(h0, .inr (3, [.ref hd, .ref hR, .ref hw, .ref hT, .ref hJ, .int (nI tc), .int (nI nw), .int (nI ol)])), (hd, .inr (0, [.int (nI a), .ref hB])), (hB, .inl (cI, a * 48, .inl f)), (hR, .inr (2, [.ref hM])), (hM, .inl (cI, a, .inl M)), (hw, .inr (1, [.int (b2i O), .int lf, .int us])), (hT, .inl (cI, 32, .inl t)), (hJ, .inl (cI, 32, .inl pl))] [(h0, .inr (3, [.ref hd, .ref hR, .ref hw, .ref hT, .ref hJ, .int (nI tc), .int (nI nw), .int (nI ol)])), (hd, .inr (0, [.int (nI a), .ref hB])), (hB, .inl (cI, a * 48, .inl f)), (hR, .inr (2, [.ref hM])), (hM, .inl (cI, a, .inl M)), (hw, .inr (1, [.int (b2i O), .int lf, .int us])), (hT, .inl (cI, 32, .inl t)), (hJ, .inl (cI, 32, .inl pl))] (ptg f a v k) := by
  refine ct_of (Qf := ct_Qi D vwCl [(h0, .inr (3, [.ref hd, .ref hR, .ref hw, .ref hT, .ref hJ, .int (nI tc), .int (nI nw), .int (nI ol)])), (hd, .inr (0, [.int (nI a), .ref hB])), (hB, .inl (cI, a * 48, .inl f)), (hR, .inr (2, [.ref hM])), (hM, .inl (cI, a, .inl M)), (hw, .inr (1, [.int (b2i O), .int lf, .int us])), (hT, .inl (cI, 32, .inl t)), (hJ, .inl (cI, 32, .inl pl))] (ptg f a v k)) (cc := cX3_pageOfThing) (maxL := 6) (ret := (some .int)) [(0, .ref h0), (1, .int (nI v)), (2, .int (nI k))] (by decide) rfl (Nat.le_of_ble_eq_true rfl) rfl ?_
  intro p e s m below meth c hx hb hr hts hown hlocks hml hnm A hA hK hN hP hD hS ls hl
  have hown : s.vm.findClass RX3 = some m.cls := hown
  have hk0 := hts (.fieldLink RX3 23 "DesignPages" "disk" "LDesignPages$Pages;") (by decide +kernel)
  have hiX3 : ∀ w ∈ wsX30, w ∈ wsX3_pageOfThing := by decide +kernel
  refine lv_iload_n hx hb dX3_pageOfThing_0 rfl (lv_at hl 1 rfl) ?_
  refine ct_calli (w := []) (w' := []) (va_runS (As := [.int (nI v)]) (rest := []) ⟨hx, hb, hml, hown, hts⟩ (c_X3_pageOfRoot l D cI cZ (nI v) _) (va_cwS 1 hts gX3_pageOfThing_X3_pageOfRoot rfl rfl rfl (by decide +kernel) ⟨Nat.le_of_ble_eq_true rfl, Nat.le_of_ble_eq_true rfl⟩) (ct_preS (w := []) hK hN hP hD [] (by decide) rfl) rfl rfl hl.1 rfl (lv_room (Nat.le_of_ble_eq_true rfl)) dX3_pageOfThing_1 ⟨Nat.le_of_ble_eq_true rfl, Nat.le_of_ble_eq_true rfl⟩) hP hD hS hA [] rfl [] rfl rfl (fun H locs hP hD hS => ?_)
  have hP : va_P D vwCl [(h0, .inr (3, [.ref hd, .ref hR, .ref hw, .ref hT, .ref hJ, .int (nI tc), .int (nI nw), .int (nI ol)])), (hd, .inr (0, [.int (nI a), .ref hB])), (hB, .inl (cI, a * 48, .inl f)), (hR, .inr (2, [.ref hM])), (hM, .inl (cI, a, .inl M)), (hw, .inr (1, [.int (b2i O), .int lf, .int us])), (hT, .inl (cI, 32, .inl t)), (hJ, .inl (cI, 32, .inl pl))] _ := hP
  have hD : va_D A [(h0, .inr (3, [.ref hd, .ref hR, .ref hw, .ref hT, .ref hJ, .int (nI tc), .int (nI nw), .int (nI ol)])), (hd, .inr (0, [.int (nI a), .ref hB])), (hB, .inl (cI, a * 48, .inl f)), (hR, .inr (2, [.ref hM])), (hM, .inl (cI, a, .inl M)), (hw, .inr (1, [.int (b2i O), .int lf, .int us])), (hT, .inl (cI, 32, .inl t)), (hJ, .inl (cI, 32, .inl pl))] := hD
  refine ct_top (y := nI (v % 8)) (pk_rem (by omega) (by decide) (by decide)) ?_
  refine lv_istore_n (lv' := [(3, .int (nI (v % 8))), (0, .ref h0), (1, .int (nI v)), (2, .int (nI k))]) hx hb dX3_pageOfThing_4 rfl hl (by decide) rfl (fun ls hl => ?_)
  refine lv_aload_n hx hb dX3_pageOfThing_5 rfl (lv_at hl 1 rfl) ?_
  refine va_get (D := D) (cl := vwCl) (ci := 3) (v := .ref hd) (C := RX3) (T := TX3) (N := 8) hx hb hts hiX3 hown hK hP 0 rfl rfl 0 (by decide) hk0 (fun _ h9 => h9) rfl dX3_pageOfThing_6 ?_
  refine lv_iload_n hx hb dX3_pageOfThing_9 rfl (lv_at hl 0 rfl) ?_
  refine lv_iconst (v := 1) hx hb dX3_pageOfThing_10 (by decide) ?_
  refine ct_calli (w := [(hd, .inr (0, [.int (nI a), .ref hB])), (hB, .inl (cI, a * 48, .inl f))]) (w' := [(hd, .inr (0, [.int (nI a), .ref hB])), (hB, .inl (cI, a * 48, .inl f))]) (va_runV (As := [.int (nI (v % 8)), .int 1]) (rest := []) ⟨hx, hb, hml, hown, hts⟩ (c_X0_isRight l D cI cZ hd hB a (v % 8) 1 f (by omega) (by omega) _) (cwV 2 hts gX3_pageOfThing_X0_isRight rfl rfl rfl (by decide +kernel) ⟨Nat.le_of_ble_eq_true rfl, Nat.le_of_ble_eq_true rfl⟩) (ct_preV (w := [(hd, .inr (0, [.int (nI a), .ref hB])), (hB, .inl (cI, a * 48, .inl f))]) (ci := 0) (i0 := 1) hK hN hP hD [1, 2] (by decide) rfl rfl rfl) rfl rfl hl.1 rfl (lv_room (Nat.le_of_ble_eq_true rfl)) dX3_pageOfThing_11 ⟨Nat.le_of_ble_eq_true rfl, Nat.le_of_ble_eq_true rfl⟩) hP hD hS hA [1, 2] rfl [hd, hB] rfl rfl (fun H locs hP hD hS => ?_)
  have hP : va_P D vwCl [(h0, .inr (3, [.ref hd, .ref hR, .ref hw, .ref hT, .ref hJ, .int (nI tc), .int (nI nw), .int (nI ol)])), (hd, .inr (0, [.int (nI a), .ref hB])), (hB, .inl (cI, a * 48, .inl f)), (hR, .inr (2, [.ref hM])), (hM, .inl (cI, a, .inl M)), (hw, .inr (1, [.int (b2i O), .int lf, .int us])), (hT, .inl (cI, 32, .inl t)), (hJ, .inl (cI, 32, .inl pl))] _ := hP
  have hD : va_D A [(h0, .inr (3, [.ref hd, .ref hR, .ref hw, .ref hT, .ref hJ, .int (nI tc), .int (nI nw), .int (nI ol)])), (hd, .inr (0, [.int (nI a), .ref hB])), (hB, .inl (cI, a * 48, .inl f)), (hR, .inr (2, [.ref hM])), (hM, .inl (cI, a, .inl M)), (hw, .inr (1, [.int (b2i O), .int lf, .int us])), (hT, .inl (cI, 32, .inl t)), (hJ, .inl (cI, 32, .inl pl))] := hD
  refine lv_if_ne (tgt := 20) hx hb dX3_pageOfThing_14 (by decide) (fun c14 => ?_) (fun c14 => ?_)
  · skip
    refine lv_aload_n hx hb dX3_pageOfThing_20 rfl (lv_at hl 1 rfl) ?_
    refine va_get (D := D) (cl := vwCl) (ci := 3) (v := .ref hd) (C := RX3) (T := TX3) (N := 8) hx hb hts hiX3 hown hK hP 0 rfl rfl 0 (by decide) hk0 (fun _ h9 => h9) rfl dX3_pageOfThing_21 ?_
    refine lv_iload_n hx hb dX3_pageOfThing_24 rfl (lv_at hl 0 rfl) ?_
    refine lv_bipush (v := 9) hx hb dX3_pageOfThing_25 (by decide) ?_
    refine lv_iload_n hx hb dX3_pageOfThing_27 rfl (lv_at hl 3 rfl) ?_
    refine lv_bipush (v := 32) hx hb dX3_pageOfThing_28 (by decide) ?_
    refine lv_idiv hx hb dX3_pageOfThing_30 (by decide) ?_
    refine ct_top (y := nI (k / 32)) (pk_div (by omega) (by decide) (by decide)) ?_
    refine lv_iadd hx hb dX3_pageOfThing_31 ?_
    refine ct_top (y := nI (9 + (k / 32))) (nI_add 9 (k / 32)) ?_
    refine ct_calli (w := [(hd, .inr (0, [.int (nI a), .ref hB])), (hB, .inl (cI, a * 48, .inl f))]) (w' := [(hd, .inr (0, [.int (nI a), .ref hB])), (hB, .inl (cI, a * 48, .inl f))]) (va_runV (As := [.int (nI (v % 8)), .int (nI (9 + (k / 32)))]) (rest := []) ⟨hx, hb, hml, hown, hts⟩ (c_X0_at l D cI cZ hd hB a (v % 8) (9 + (k / 32)) f (by omega) (by omega) (by omega) _) (cwV 2 hts gX3_pageOfThing_X0_at rfl rfl rfl (by decide +kernel) ⟨Nat.le_of_ble_eq_true rfl, Nat.le_of_ble_eq_true rfl⟩) (ct_preV (w := [(hd, .inr (0, [.int (nI a), .ref hB])), (hB, .inl (cI, a * 48, .inl f))]) (ci := 0) (i0 := 1) hK hN hP hD [1, 2] (by decide) rfl rfl rfl) rfl rfl hl.1 rfl (lv_room (Nat.le_of_ble_eq_true rfl)) dX3_pageOfThing_32 ⟨Nat.le_of_ble_eq_true rfl, Nat.le_of_ble_eq_true rfl⟩) hP hD hS hA [1, 2] rfl [hd, hB] rfl rfl (fun H locs hP hD hS => ?_)
    have hP : va_P D vwCl [(h0, .inr (3, [.ref hd, .ref hR, .ref hw, .ref hT, .ref hJ, .int (nI tc), .int (nI nw), .int (nI ol)])), (hd, .inr (0, [.int (nI a), .ref hB])), (hB, .inl (cI, a * 48, .inl f)), (hR, .inr (2, [.ref hM])), (hM, .inl (cI, a, .inl M)), (hw, .inr (1, [.int (b2i O), .int lf, .int us])), (hT, .inl (cI, 32, .inl t)), (hJ, .inl (cI, 32, .inl pl))] _ := hP
    have hD : va_D A [(h0, .inr (3, [.ref hd, .ref hR, .ref hw, .ref hT, .ref hJ, .int (nI tc), .int (nI nw), .int (nI ol)])), (hd, .inr (0, [.int (nI a), .ref hB])), (hB, .inl (cI, a * 48, .inl f)), (hR, .inr (2, [.ref hM])), (hM, .inl (cI, a, .inl M)), (hw, .inr (1, [.int (b2i O), .int lf, .int us])), (hT, .inl (cI, 32, .inl t)), (hJ, .inl (cI, 32, .inl pl))] := hD
    have hn1 := rt_nv (i := k / 32) (b2i_n0 c14) ha (by omega) (by omega)
    have hn2 := hn1.2.1
    refine ct_top (y := nI (nv (f (v % 8 * 48 + (9 + k / 32))))) (hn1.1) ?_
    refine lv_istore (lv' := [(4, .int (nI (nv (f (v % 8 * 48 + (9 + k / 32)))))), (3, .int (nI (v % 8))), (0, .ref h0), (1, .int (nI v)), (2, .int (nI k))]) hx hb dX3_pageOfThing_35 hl (by decide) rfl (fun ls hl => ?_)
    refine lv_iload hx hb dX3_pageOfThing_37 (lv_at hl 0 rfl) ?_
    refine lv_if_ne (tgt := 44) hx hb dX3_pageOfThing_39 (by decide) (fun c39 => ?_) (fun c39 => ?_)
    · skip
      have c39 : ¬ (nv (f (v % 8 * 48 + (9 + k / 32)))) = 0 := fun h => c39 ((nI_eq (a := (nv (f (v % 8 * 48 + (9 + k / 32))))) (b := 0) (by omega) (by omega)).mpr h)
      refine lv_aload_n hx hb dX3_pageOfThing_44 rfl (lv_at hl 2 rfl) ?_
      refine va_get (D := D) (cl := vwCl) (ci := 3) (v := .ref hd) (C := RX3) (T := TX3) (N := 8) hx hb hts hiX3 hown hK hP 0 rfl rfl 0 (by decide) hk0 (fun _ h9 => h9) rfl dX3_pageOfThing_45 ?_
      refine lv_iload hx hb dX3_pageOfThing_48 (lv_at hl 0 rfl) ?_
      refine lv_iconst (v := 2) hx hb dX3_pageOfThing_50 (by decide) ?_
      refine ct_calli (w := [(hd, .inr (0, [.int (nI a), .ref hB])), (hB, .inl (cI, a * 48, .inl f))]) (w' := [(hd, .inr (0, [.int (nI a), .ref hB])), (hB, .inl (cI, a * 48, .inl f))]) (va_runV (As := [.int (nI (nv (f (v % 8 * 48 + (9 + k / 32))))), .int 2]) (rest := []) ⟨hx, hb, hml, hown, hts⟩ (c_X0_isRight l D cI cZ hd hB a (nv (f (v % 8 * 48 + (9 + k / 32)))) 2 f (by omega) (by omega) _) (cwV 2 hts gX3_pageOfThing_X0_isRight rfl rfl rfl (by decide +kernel) ⟨Nat.le_of_ble_eq_true rfl, Nat.le_of_ble_eq_true rfl⟩) (ct_preV (w := [(hd, .inr (0, [.int (nI a), .ref hB])), (hB, .inl (cI, a * 48, .inl f))]) (ci := 0) (i0 := 1) hK hN hP hD [1, 2] (by decide) rfl rfl rfl) rfl rfl hl.1 rfl (lv_room (Nat.le_of_ble_eq_true rfl)) dX3_pageOfThing_51 ⟨Nat.le_of_ble_eq_true rfl, Nat.le_of_ble_eq_true rfl⟩) hP hD hS hA [1, 2] rfl [hd, hB] rfl rfl (fun H locs hP hD hS => ?_)
      have hP : va_P D vwCl [(h0, .inr (3, [.ref hd, .ref hR, .ref hw, .ref hT, .ref hJ, .int (nI tc), .int (nI nw), .int (nI ol)])), (hd, .inr (0, [.int (nI a), .ref hB])), (hB, .inl (cI, a * 48, .inl f)), (hR, .inr (2, [.ref hM])), (hM, .inl (cI, a, .inl M)), (hw, .inr (1, [.int (b2i O), .int lf, .int us])), (hT, .inl (cI, 32, .inl t)), (hJ, .inl (cI, 32, .inl pl))] _ := hP
      have hD : va_D A [(h0, .inr (3, [.ref hd, .ref hR, .ref hw, .ref hT, .ref hJ, .int (nI tc), .int (nI nw), .int (nI ol)])), (hd, .inr (0, [.int (nI a), .ref hB])), (hB, .inl (cI, a * 48, .inl f)), (hR, .inr (2, [.ref hM])), (hM, .inl (cI, a, .inl M)), (hw, .inr (1, [.int (b2i O), .int lf, .int us])), (hT, .inl (cI, 32, .inl t)), (hJ, .inl (cI, 32, .inl pl))] := hD
      refine lv_if_ne (tgt := 60) hx hb dX3_pageOfThing_54 (by decide) (fun c54 => ?_) (fun c54 => ?_)
      · skip
        refine lv_aload_n hx hb dX3_pageOfThing_60 rfl (lv_at hl 2 rfl) ?_
        refine va_get (D := D) (cl := vwCl) (ci := 3) (v := .ref hd) (C := RX3) (T := TX3) (N := 8) hx hb hts hiX3 hown hK hP 0 rfl rfl 0 (by decide) hk0 (fun _ h9 => h9) rfl dX3_pageOfThing_61 ?_
        refine lv_iload hx hb dX3_pageOfThing_64 (lv_at hl 0 rfl) ?_
        refine lv_iconst (v := 2) hx hb dX3_pageOfThing_66 (by decide) ?_
        refine lv_iload_n hx hb dX3_pageOfThing_67 rfl (lv_at hl 4 rfl) ?_
        refine lv_bipush (v := 32) hx hb dX3_pageOfThing_68 (by decide) ?_
        refine lv_irem hx hb dX3_pageOfThing_70 (by decide) ?_
        refine ct_top (y := nI (k % 32)) (pk_rem (by omega) (by decide) (by decide)) ?_
        refine lv_iadd hx hb dX3_pageOfThing_71 ?_
        refine ct_top (y := nI (2 + (k % 32))) (nI_add 2 (k % 32)) ?_
        refine ct_calli (w := [(hd, .inr (0, [.int (nI a), .ref hB])), (hB, .inl (cI, a * 48, .inl f))]) (w' := [(hd, .inr (0, [.int (nI a), .ref hB])), (hB, .inl (cI, a * 48, .inl f))]) (va_runV (As := [.int (nI (nv (f (v % 8 * 48 + (9 + k / 32))))), .int (nI (2 + (k % 32)))]) (rest := []) ⟨hx, hb, hml, hown, hts⟩ (c_X0_at l D cI cZ hd hB a (nv (f (v % 8 * 48 + (9 + k / 32)))) (2 + (k % 32)) f (by omega) (by omega) (by omega) _) (cwV 2 hts gX3_pageOfThing_X0_at rfl rfl rfl (by decide +kernel) ⟨Nat.le_of_ble_eq_true rfl, Nat.le_of_ble_eq_true rfl⟩) (ct_preV (w := [(hd, .inr (0, [.int (nI a), .ref hB])), (hB, .inl (cI, a * 48, .inl f))]) (ci := 0) (i0 := 1) hK hN hP hD [1, 2] (by decide) rfl rfl rfl) rfl rfl hl.1 rfl (lv_room (Nat.le_of_ble_eq_true rfl)) dX3_pageOfThing_72 ⟨Nat.le_of_ble_eq_true rfl, Nat.le_of_ble_eq_true rfl⟩) hP hD hS hA [1, 2] rfl [hd, hB] rfl rfl (fun H locs hP hD hS => ?_)
        have hP : va_P D vwCl [(h0, .inr (3, [.ref hd, .ref hR, .ref hw, .ref hT, .ref hJ, .int (nI tc), .int (nI nw), .int (nI ol)])), (hd, .inr (0, [.int (nI a), .ref hB])), (hB, .inl (cI, a * 48, .inl f)), (hR, .inr (2, [.ref hM])), (hM, .inl (cI, a, .inl M)), (hw, .inr (1, [.int (b2i O), .int lf, .int us])), (hT, .inl (cI, 32, .inl t)), (hJ, .inl (cI, 32, .inl pl))] _ := hP
        have hD : va_D A [(h0, .inr (3, [.ref hd, .ref hR, .ref hw, .ref hT, .ref hJ, .int (nI tc), .int (nI nw), .int (nI ol)])), (hd, .inr (0, [.int (nI a), .ref hB])), (hB, .inl (cI, a * 48, .inl f)), (hR, .inr (2, [.ref hM])), (hM, .inl (cI, a, .inl M)), (hw, .inr (1, [.int (b2i O), .int lf, .int us])), (hT, .inl (cI, 32, .inl t)), (hJ, .inl (cI, 32, .inl pl))] := hD
        have hn3 := nd_nv (i := k % 32) (b2i_n0 c54) ha (by omega) (by omega)
        have hn4 := hn3.2.1
        refine ct_top (y := nI (nv (f (nv (f (v % 8 * 48 + (9 + k / 32))) * 48 + (2 + k % 32))))) (hn3.1) ?_
        refine lv_istore (lv' := [(5, .int (nI (nv (f (nv (f (v % 8 * 48 + (9 + k / 32))) * 48 + (2 + k % 32)))))), (4, .int (nI (nv (f (v % 8 * 48 + (9 + k / 32)))))), (3, .int (nI (v % 8))), (0, .ref h0), (1, .int (nI v)), (2, .int (nI k))]) hx hb dX3_pageOfThing_75 hl (by decide) rfl (fun ls hl => ?_)
        refine lv_iload hx hb dX3_pageOfThing_77 (lv_at hl 0 rfl) ?_
        refine lv_if_ne (tgt := 84) hx hb dX3_pageOfThing_79 (by decide) (fun c79 => ?_) (fun c79 => ?_)
        · skip
          have c79 : ¬ (nv (f (nv (f (v % 8 * 48 + (9 + k / 32))) * 48 + (2 + k % 32)))) = 0 := fun h => c79 ((nI_eq (a := (nv (f (nv (f (v % 8 * 48 + (9 + k / 32))) * 48 + (2 + k % 32))))) (b := 0) (by omega) (by omega)).mpr h)
          refine lv_aload_n hx hb dX3_pageOfThing_84 rfl (lv_at hl 3 rfl) ?_
          refine va_get (D := D) (cl := vwCl) (ci := 3) (v := .ref hd) (C := RX3) (T := TX3) (N := 8) hx hb hts hiX3 hown hK hP 0 rfl rfl 0 (by decide) hk0 (fun _ h9 => h9) rfl dX3_pageOfThing_85 ?_
          refine lv_iload hx hb dX3_pageOfThing_88 (lv_at hl 0 rfl) ?_
          refine lv_iconst (v := 3) hx hb dX3_pageOfThing_90 (by decide) ?_
          refine ct_calli (w := [(hd, .inr (0, [.int (nI a), .ref hB])), (hB, .inl (cI, a * 48, .inl f))]) (w' := [(hd, .inr (0, [.int (nI a), .ref hB])), (hB, .inl (cI, a * 48, .inl f))]) (va_runV (As := [.int (nI (nv (f (nv (f (v % 8 * 48 + (9 + k / 32))) * 48 + (2 + k % 32))))), .int 3]) (rest := []) ⟨hx, hb, hml, hown, hts⟩ (c_X0_isRight l D cI cZ hd hB a (nv (f (nv (f (v % 8 * 48 + (9 + k / 32))) * 48 + (2 + k % 32)))) 3 f (by omega) (by omega) _) (cwV 2 hts gX3_pageOfThing_X0_isRight rfl rfl rfl (by decide +kernel) ⟨Nat.le_of_ble_eq_true rfl, Nat.le_of_ble_eq_true rfl⟩) (ct_preV (w := [(hd, .inr (0, [.int (nI a), .ref hB])), (hB, .inl (cI, a * 48, .inl f))]) (ci := 0) (i0 := 1) hK hN hP hD [1, 2] (by decide) rfl rfl rfl) rfl rfl hl.1 rfl (lv_room (Nat.le_of_ble_eq_true rfl)) dX3_pageOfThing_91 ⟨Nat.le_of_ble_eq_true rfl, Nat.le_of_ble_eq_true rfl⟩) hP hD hS hA [1, 2] rfl [hd, hB] rfl rfl (fun H locs hP hD hS => ?_)
          have hP : va_P D vwCl [(h0, .inr (3, [.ref hd, .ref hR, .ref hw, .ref hT, .ref hJ, .int (nI tc), .int (nI nw), .int (nI ol)])), (hd, .inr (0, [.int (nI a), .ref hB])), (hB, .inl (cI, a * 48, .inl f)), (hR, .inr (2, [.ref hM])), (hM, .inl (cI, a, .inl M)), (hw, .inr (1, [.int (b2i O), .int lf, .int us])), (hT, .inl (cI, 32, .inl t)), (hJ, .inl (cI, 32, .inl pl))] _ := hP
          have hD : va_D A [(h0, .inr (3, [.ref hd, .ref hR, .ref hw, .ref hT, .ref hJ, .int (nI tc), .int (nI nw), .int (nI ol)])), (hd, .inr (0, [.int (nI a), .ref hB])), (hB, .inl (cI, a * 48, .inl f)), (hR, .inr (2, [.ref hM])), (hM, .inl (cI, a, .inl M)), (hw, .inr (1, [.int (b2i O), .int lf, .int us])), (hT, .inl (cI, 32, .inl t)), (hJ, .inl (cI, 32, .inl pl))] := hD
          refine lv_if_eq (tgt := 102) hx hb dX3_pageOfThing_94 (by decide) (fun c94 => ?_) (fun c94 => ?_)
          · skip
            refine lv_bipush (v := (-4)) hx hb dX3_pageOfThing_102 (by decide) ?_
            exact ct_iret hx hb hr hlocks (by unfold ptg; rw [ifp_t (b2i_n0 c14), ifp_f (fun h => c39 ((nv_0 hn1.1).mpr h)), ifp_t (b2i_n0 c54), ifp_f (fun h => c79 ((nv_0 hn3.1).mpr h)), ifp_f (b2i_0.mp c94)]) (rfl) hP hD hS dX3_pageOfThing_104
          · skip
            refine lv_iload hx hb dX3_pageOfThing_97 (lv_at hl 0 rfl) ?_
            refine lv_goto (tgt := 104) hx hb dX3_pageOfThing_99 (by decide) ?_
            exact ct_iret hx hb hr hlocks (by unfold ptg; rw [ifp_t (b2i_n0 c14), ifp_f (fun h => c39 ((nv_0 hn1.1).mpr h)), ifp_t (b2i_n0 c54), ifp_f (fun h => c79 ((nv_0 hn3.1).mpr h)), ifp_t (b2i_n0 c94)]; exact hn3.1.symm) (rfl) hP hD hS dX3_pageOfThing_104
        · skip
          have c79 : (nv (f (nv (f (v % 8 * 48 + (9 + k / 32))) * 48 + (2 + k % 32)))) = 0 := (nI_eq (a := (nv (f (nv (f (v % 8 * 48 + (9 + k / 32))) * 48 + (2 + k % 32))))) (b := 0) (by omega) (by omega)).mp c79
          refine lv_iconst (v := (-1)) hx hb dX3_pageOfThing_82 (by decide) ?_
          exact ct_iret hx hb hr hlocks (by unfold ptg; rw [ifp_t (b2i_n0 c14), ifp_f (fun h => c39 ((nv_0 hn1.1).mpr h)), ifp_t (b2i_n0 c54), ifp_t ((nv_0 hn3.1).mp c79)]) (rfl) hP hD hS dX3_pageOfThing_83
      · skip
        refine lv_bipush (v := (-4)) hx hb dX3_pageOfThing_57 (by decide) ?_
        exact ct_iret hx hb hr hlocks (by unfold ptg; rw [ifp_t (b2i_n0 c14), ifp_f (fun h => c39 ((nv_0 hn1.1).mpr h)), ifp_f (b2i_0.mp c54)]) (rfl) hP hD hS dX3_pageOfThing_59
    · skip
      have c39 : (nv (f (v % 8 * 48 + (9 + k / 32)))) = 0 := (nI_eq (a := (nv (f (v % 8 * 48 + (9 + k / 32))))) (b := 0) (by omega) (by omega)).mp c39
      refine lv_iconst (v := (-1)) hx hb dX3_pageOfThing_42 (by decide) ?_
      exact ct_iret hx hb hr hlocks (by unfold ptg; rw [ifp_t (b2i_n0 c14), ifp_t ((nv_0 hn1.1).mp c39)]) (rfl) hP hD hS dX3_pageOfThing_43
  · skip
    refine lv_bipush (v := (-4)) hx hb dX3_pageOfThing_17 (by decide) ?_
    exact ct_iret hx hb hr hlocks (by unfold ptg; rw [ifp_f (b2i_0.mp c14)]) (rfl) hP hD hS dX3_pageOfThing_19
set_option maxHeartbeats 4000000 in
set_option maxRecDepth 100000 in
theorem c_X3_lookUp (l : Launch) (D : va_G) (cI cZ : ClassId) (h0 hd hB hR hM hw hT hJ a tc nw ol : Nat) (f M t pl : Nat → Int32) (O : Prop) (lf us : Int32) (x y : Int32) (ha : a ≤ 120) (h12 : 12 ≤ a) (htc : tc ≤ 32) (hnw : nw ≤ 1000000) (hol : ol ≤ nw + 1) : CtI l yX3_lookUp wsX3_lookUp ({ frames := 4, cells := 0, slots := 0, locals := 94 }) D vwCl (ct_T cI cZ) [.ref h0, .int x, .int y] [(h0, .inr (3, [.ref hd, .ref hR, .ref hw, .ref hT, .ref hJ, .int (nI tc), .int (nI nw), .int (nI ol)])), (hd, .inr (0, [.int (nI a), .ref hB])), (hB, .inl (cI, a * 48, .inl f)), (hR, .inr (2, [.ref hM])), (hM, .inl (cI, a, .inl M)), (hw, .inr (1, [.int (b2i O), .int lf, .int us])), (hT, .inl (cI, 32, .inl t)), (hJ, .inl (cI, 32, .inl pl))] [(h0, .inr (3, [.ref hd, .ref hR, .ref hw, .ref hT, .ref hJ, .int (nI tc), .int (nI nw), .int (nI ol)])), (hd, .inr (0, [.int (nI a), .ref hB])), (hB, .inl (cI, a * 48, .inl f)), (hR, .inr (2, [.ref hM])), (hM, .inl (cI, a, .inl M)), (hw, .inr (1, [.int (b2i O), .int lf, .int us])), (hT, .inl (cI, 32, .inl t)), (hJ, .inl (cI, 32, .inl pl))] (lku O f a ol nw x y) := by
  refine ct_of (Qf := ct_Qi D vwCl [(h0, .inr (3, [.ref hd, .ref hR, .ref hw, .ref hT, .ref hJ, .int (nI tc), .int (nI nw), .int (nI ol)])), (hd, .inr (0, [.int (nI a), .ref hB])), (hB, .inl (cI, a * 48, .inl f)), (hR, .inr (2, [.ref hM])), (hM, .inl (cI, a, .inl M)), (hw, .inr (1, [.int (b2i O), .int lf, .int us])), (hT, .inl (cI, 32, .inl t)), (hJ, .inl (cI, 32, .inl pl))] (lku O f a ol nw x y)) (cc := cX3_lookUp) (maxL := 4) (ret := (some .int)) [(0, .ref h0), (1, .int x), (2, .int y)] (by decide) rfl (Nat.le_of_ble_eq_true rfl) rfl ?_
  intro p e s m below meth c hx hb hr hts hown hlocks hml hnm A hA hK hN hP hD hS ls hl
  have hown : s.vm.findClass RX3 = some m.cls := hown
  refine lv_aload_n hx hb dX3_lookUp_0 rfl (lv_at hl 0 rfl) ?_
  refine lv_iload_n hx hb dX3_lookUp_1 rfl (lv_at hl 1 rfl) ?_
  refine lv_iload_n hx hb dX3_lookUp_2 rfl (lv_at hl 2 rfl) ?_
  refine ct_calli (w := [(h0, .inr (3, [.ref hd, .ref hR, .ref hw, .ref hT, .ref hJ, .int (nI tc), .int (nI nw), .int (nI ol)])), (hd, .inr (0, [.int (nI a), .ref hB])), (hB, .inl (cI, a * 48, .inl f)), (hR, .inr (2, [.ref hM])), (hM, .inl (cI, a, .inl M)), (hw, .inr (1, [.int (b2i O), .int lf, .int us])), (hT, .inl (cI, 32, .inl t)), (hJ, .inl (cI, 32, .inl pl))]) (w' := [(h0, .inr (3, [.ref hd, .ref hR, .ref hw, .ref hT, .ref hJ, .int (nI tc), .int (nI nw), .int (nI ol)])), (hd, .inr (0, [.int (nI a), .ref hB])), (hB, .inl (cI, a * 48, .inl f)), (hR, .inr (2, [.ref hM])), (hM, .inl (cI, a, .inl M)), (hw, .inr (1, [.int (b2i O), .int lf, .int us])), (hT, .inl (cI, 32, .inl t)), (hJ, .inl (cI, 32, .inl pl))]) (va_runV (As := [.int x, .int y]) (rest := []) ⟨hx, hb, hml, hown, hts⟩ (c_X3_refusalOfReading l D cI cZ h0 hd hB hR hM hw hT hJ a tc nw ol f M t pl O lf us x y (by omega) (by omega) (by omega) (by omega) (by omega)  _) (cwV 2 hts gX3_lookUp_X3_refusalOfReading rfl rfl rfl (by decide +kernel) ⟨Nat.le_of_ble_eq_true rfl, Nat.le_of_ble_eq_true rfl⟩) (ct_preV (w := [(h0, .inr (3, [.ref hd, .ref hR, .ref hw, .ref hT, .ref hJ, .int (nI tc), .int (nI nw), .int (nI ol)])), (hd, .inr (0, [.int (nI a), .ref hB])), (hB, .inl (cI, a * 48, .inl f)), (hR, .inr (2, [.ref hM])), (hM, .inl (cI, a, .inl M)), (hw, .inr (1, [.int (b2i O), .int lf, .int us])), (hT, .inl (cI, 32, .inl t)), (hJ, .inl (cI, 32, .inl pl))]) (ci := 3) (i0 := 0) hK hN hP hD [0, 1, 2, 3, 4, 5, 6, 7] (by decide) rfl rfl rfl) rfl rfl hl.1 rfl (lv_room (Nat.le_of_ble_eq_true rfl)) dX3_lookUp_3 ⟨Nat.le_of_ble_eq_true rfl, Nat.le_of_ble_eq_true rfl⟩) hP hD hS hA [0, 1, 2, 3, 4, 5, 6, 7] rfl [h0, hd, hB, hR, hM, hw, hT, hJ] rfl rfl (fun H locs hP hD hS => ?_)
  have hP : va_P D vwCl [(h0, .inr (3, [.ref hd, .ref hR, .ref hw, .ref hT, .ref hJ, .int (nI tc), .int (nI nw), .int (nI ol)])), (hd, .inr (0, [.int (nI a), .ref hB])), (hB, .inl (cI, a * 48, .inl f)), (hR, .inr (2, [.ref hM])), (hM, .inl (cI, a, .inl M)), (hw, .inr (1, [.int (b2i O), .int lf, .int us])), (hT, .inl (cI, 32, .inl t)), (hJ, .inl (cI, 32, .inl pl))] _ := hP
  have hD : va_D A [(h0, .inr (3, [.ref hd, .ref hR, .ref hw, .ref hT, .ref hJ, .int (nI tc), .int (nI nw), .int (nI ol)])), (hd, .inr (0, [.int (nI a), .ref hB])), (hB, .inl (cI, a * 48, .inl f)), (hR, .inr (2, [.ref hM])), (hM, .inl (cI, a, .inl M)), (hw, .inr (1, [.int (b2i O), .int lf, .int us])), (hT, .inl (cI, 32, .inl t)), (hJ, .inl (cI, 32, .inl pl))] := hD
  refine lv_istore_n (lv' := [(3, .int (rrd O ol nw x y)), (0, .ref h0), (1, .int x), (2, .int y)]) hx hb dX3_lookUp_6 rfl hl (by decide) rfl (fun ls hl => ?_)
  refine lv_iload_n hx hb dX3_lookUp_7 rfl (lv_at hl 0 rfl) ?_
  refine lv_if_eq (tgt := 15) hx hb dX3_lookUp_8 (by decide) (fun c8 => ?_) (fun c8 => ?_)
  · skip
    obtain ⟨e1, e2, e3⟩ := rrd_0 c8
    obtain ⟨v, hv1, hv2, rfl⟩ := kp_nat e2 (by omega) (by omega)
    obtain ⟨k, hk1, rfl⟩ := ky_nat e3
    refine lv_aload_n hx hb dX3_lookUp_15 rfl (lv_at hl 1 rfl) ?_
    refine lv_iload_n hx hb dX3_lookUp_16 rfl (lv_at hl 2 rfl) ?_
    refine lv_iload_n hx hb dX3_lookUp_17 rfl (lv_at hl 3 rfl) ?_
    refine ct_calli (w := [(h0, .inr (3, [.ref hd, .ref hR, .ref hw, .ref hT, .ref hJ, .int (nI tc), .int (nI nw), .int (nI ol)])), (hd, .inr (0, [.int (nI a), .ref hB])), (hB, .inl (cI, a * 48, .inl f)), (hR, .inr (2, [.ref hM])), (hM, .inl (cI, a, .inl M)), (hw, .inr (1, [.int (b2i O), .int lf, .int us])), (hT, .inl (cI, 32, .inl t)), (hJ, .inl (cI, 32, .inl pl))]) (w' := [(h0, .inr (3, [.ref hd, .ref hR, .ref hw, .ref hT, .ref hJ, .int (nI tc), .int (nI nw), .int (nI ol)])), (hd, .inr (0, [.int (nI a), .ref hB])), (hB, .inl (cI, a * 48, .inl f)), (hR, .inr (2, [.ref hM])), (hM, .inl (cI, a, .inl M)), (hw, .inr (1, [.int (b2i O), .int lf, .int us])), (hT, .inl (cI, 32, .inl t)), (hJ, .inl (cI, 32, .inl pl))]) (va_runV (As := [.int (nI v), .int (nI k)]) (rest := []) ⟨hx, hb, hml, hown, hts⟩ (c_X3_pageOfThing l D cI cZ h0 hd hB hR hM hw hT hJ a tc nw ol f M t pl O lf us v k (by omega) (by omega) (by omega) (by omega) (by omega) (by omega) (by omega) _) (cwV 2 hts gX3_lookUp_X3_pageOfThing rfl rfl rfl (by decide +kernel) ⟨Nat.le_of_ble_eq_true rfl, Nat.le_of_ble_eq_true rfl⟩) (ct_preV (w := [(h0, .inr (3, [.ref hd, .ref hR, .ref hw, .ref hT, .ref hJ, .int (nI tc), .int (nI nw), .int (nI ol)])), (hd, .inr (0, [.int (nI a), .ref hB])), (hB, .inl (cI, a * 48, .inl f)), (hR, .inr (2, [.ref hM])), (hM, .inl (cI, a, .inl M)), (hw, .inr (1, [.int (b2i O), .int lf, .int us])), (hT, .inl (cI, 32, .inl t)), (hJ, .inl (cI, 32, .inl pl))]) (ci := 3) (i0 := 0) hK hN hP hD [0, 1, 2, 3, 4, 5, 6, 7] (by decide) rfl rfl rfl) rfl rfl hl.1 rfl (lv_room (Nat.le_of_ble_eq_true rfl)) dX3_lookUp_18 ⟨Nat.le_of_ble_eq_true rfl, Nat.le_of_ble_eq_true rfl⟩) hP hD hS hA [0, 1, 2, 3, 4, 5, 6, 7] rfl [h0, hd, hB, hR, hM, hw, hT, hJ] rfl rfl (fun H locs hP hD hS => ?_)
    have hP : va_P D vwCl [(h0, .inr (3, [.ref hd, .ref hR, .ref hw, .ref hT, .ref hJ, .int (nI tc), .int (nI nw), .int (nI ol)])), (hd, .inr (0, [.int (nI a), .ref hB])), (hB, .inl (cI, a * 48, .inl f)), (hR, .inr (2, [.ref hM])), (hM, .inl (cI, a, .inl M)), (hw, .inr (1, [.int (b2i O), .int lf, .int us])), (hT, .inl (cI, 32, .inl t)), (hJ, .inl (cI, 32, .inl pl))] _ := hP
    have hD : va_D A [(h0, .inr (3, [.ref hd, .ref hR, .ref hw, .ref hT, .ref hJ, .int (nI tc), .int (nI nw), .int (nI ol)])), (hd, .inr (0, [.int (nI a), .ref hB])), (hB, .inl (cI, a * 48, .inl f)), (hR, .inr (2, [.ref hM])), (hM, .inl (cI, a, .inl M)), (hw, .inr (1, [.int (b2i O), .int lf, .int us])), (hT, .inl (cI, 32, .inl t)), (hJ, .inl (cI, 32, .inl pl))] := hD
    exact ct_iret hx hb hr hlocks (by unfold lku; rw [ifp_f e1, ifp_t ⟨e2, e3⟩, nv_nI (by omega), nv_nI (by omega)]) (rfl) hP hD hS dX3_lookUp_21
  · skip
    refine lv_iload_n hx hb dX3_lookUp_11 rfl (lv_at hl 0 rfl) ?_
    refine lv_goto (tgt := 21) hx hb dX3_lookUp_12 (by decide) ?_
    exact ct_iret hx hb hr hlocks (lku_n c8) (rfl) hP hD hS dX3_lookUp_21
set_option maxHeartbeats 4000000 in
set_option maxRecDepth 100000 in
theorem c_X3_finishPage (l : Launch) (D : va_G) (cI cZ : ClassId) (h0 hd hB hR hM hw hT hJ a tc nw ol : Nat) (f M t pl : Nat → Int32) (O : Prop) (lf us : Int32) (q : Nat) (ha : a ≤ 120) (h12 : 12 ≤ a) (htc : tc ≤ 32) (hnw : nw ≤ 1000000) (hol : ol ≤ nw + 1) (hq : q < a) : CtI l yX3_finishPage wsX3_finishPage ({ frames := 3, cells := 0, slots := 0, locals := 67 }) D vwCl (ct_T cI cZ) [.ref h0, .int (nI q)] [(h0, .inr (3, [.ref hd, .ref hR, .ref hw, .ref hT, .ref hJ, .int (nI tc), .int (nI nw), .int (nI ol)])), (hd, .inr (0, [.int (nI a), .ref hB])), (hB, .inl (cI, a * 48, .inl f)), (hR, .inr (2, [.ref hM])), (hM, .inl (cI, a, .inl M)), (hw, .inr (1, [.int (b2i O), .int lf, .int us])), (hT, .inl (cI, 32, .inl t)), (hJ, .inl (cI, 32, .inl pl))] [(h0, .inr (3, [.ref hd, .ref hR, .ref hw, .ref hT, .ref hJ, .int (nI tc), .int (nI nw), .int (nI ol)])), (hd, .inr (0, [.int (nI a), .ref hB])), (hB, .inl (cI, a * 48, .inl (pg_seal f q))), (hR, .inr (2, [.ref hM])), (hM, .inl (cI, a, .inl M)), (hw, .inr (1, [.int (b2i (pw_off O lf)), .int (pw_left lf), .int (us + 1)])), (hT, .inl (cI, 32, .inl t)), (hJ, .inl (cI, 32, .inl pl))] (b2i (¬ pw_off O lf)) := by
  refine ct_of (Qf := ct_Qi D vwCl [(h0, .inr (3, [.ref hd, .ref hR, .ref hw, .ref hT, .ref hJ, .int (nI tc), .int (nI nw), .int (nI ol)])), (hd, .inr (0, [.int (nI a), .ref hB])), (hB, .inl (cI, a * 48, .inl (pg_seal f q))), (hR, .inr (2, [.ref hM])), (hM, .inl (cI, a, .inl M)), (hw, .inr (1, [.int (b2i (pw_off O lf)), .int (pw_left lf), .int (us + 1)])), (hT, .inl (cI, 32, .inl t)), (hJ, .inl (cI, 32, .inl pl))] (b2i (¬ pw_off O lf))) (cc := cX3_finishPage) (maxL := 2) (ret := (some .boolean)) [(0, .ref h0), (1, .int (nI q))] (by decide) rfl (Nat.le_of_ble_eq_true rfl) rfl ?_
  intro p e s m below meth c hx hb hr hts hown hlocks hml hnm A hA hK hN hP hD hS ls hl
  have hown : s.vm.findClass RX3 = some m.cls := hown
  have hk0 := hts (.fieldLink RX3 23 "DesignPages" "disk" "LDesignPages$Pages;") (by decide +kernel)
  have hk1 := hts (.fieldLink RX3 37 "DesignPages" "power" "LDesignPages$Power;") (by decide +kernel)
  have hiX3 : ∀ w ∈ wsX30, w ∈ wsX3_finishPage := by decide +kernel
  refine lv_aload_n hx hb dX3_finishPage_0 rfl (lv_at hl 0 rfl) ?_
  refine va_get (D := D) (cl := vwCl) (ci := 3) (v := .ref hd) (C := RX3) (T := TX3) (N := 8) hx hb hts hiX3 hown hK hP 0 rfl rfl 0 (by decide) hk0 (fun _ h9 => h9) rfl dX3_finishPage_1 ?_
  refine lv_iload_n hx hb dX3_finishPage_4 rfl (lv_at hl 1 rfl) ?_
  refine ct_callv (w := [(hd, .inr (0, [.int (nI a), .ref hB])), (hB, .inl (cI, a * 48, .inl f))]) (w' := [(hd, .inr (0, [.int (nI a), .ref hB])), (hB, .inl (cI, a * 48, .inl (pg_setn f (q * 48 + 44) (pg_sum f (q * 48) 44))))]) (va_runV (As := [.int (nI q)]) (rest := []) ⟨hx, hb, hml, hown, hts⟩ (c_X0_seal l D cI cZ hd hB a q f (by omega) (by omega) _) (cwV 1 hts gX3_finishPage_X0_seal rfl rfl rfl (by decide +kernel) ⟨Nat.le_of_ble_eq_true rfl, Nat.le_of_ble_eq_true rfl⟩) (ct_preV (w := [(hd, .inr (0, [.int (nI a), .ref hB])), (hB, .inl (cI, a * 48, .inl f))]) (ci := 0) (i0 := 1) hK hN hP hD [1, 2] (by decide) rfl rfl rfl) rfl rfl hl.1 rfl (lv_room (Nat.le_of_ble_eq_true rfl)) dX3_finishPage_5 ⟨Nat.le_of_ble_eq_true rfl, Nat.le_of_ble_eq_true rfl⟩) hP hD hS hA [1, 2] rfl [hd, hB] rfl rfl (fun H locs hP hD hS => ?_)
  have hP : va_P D vwCl [(h0, .inr (3, [.ref hd, .ref hR, .ref hw, .ref hT, .ref hJ, .int (nI tc), .int (nI nw), .int (nI ol)])), (hd, .inr (0, [.int (nI a), .ref hB])), (hB, .inl (cI, a * 48, .inl (pg_setn f (q * 48 + 44) (pg_sum f (q * 48) 44)))), (hR, .inr (2, [.ref hM])), (hM, .inl (cI, a, .inl M)), (hw, .inr (1, [.int (b2i O), .int lf, .int us])), (hT, .inl (cI, 32, .inl t)), (hJ, .inl (cI, 32, .inl pl))] _ := hP
  have hD : va_D A [(h0, .inr (3, [.ref hd, .ref hR, .ref hw, .ref hT, .ref hJ, .int (nI tc), .int (nI nw), .int (nI ol)])), (hd, .inr (0, [.int (nI a), .ref hB])), (hB, .inl (cI, a * 48, .inl (pg_setn f (q * 48 + 44) (pg_sum f (q * 48) 44)))), (hR, .inr (2, [.ref hM])), (hM, .inl (cI, a, .inl M)), (hw, .inr (1, [.int (b2i O), .int lf, .int us])), (hT, .inl (cI, 32, .inl t)), (hJ, .inl (cI, 32, .inl pl))] := hD
  refine lv_aload_n hx hb dX3_finishPage_8 rfl (lv_at hl 0 rfl) ?_
  refine va_get (D := D) (cl := vwCl) (ci := 3) (v := .ref hw) (C := RX3) (T := TX3) (N := 8) hx hb hts hiX3 hown hK hP 0 rfl rfl 2 (by decide) hk1 (fun _ h9 => h9) rfl dX3_finishPage_9 ?_
  refine ct_callv (w := [(hw, .inr (1, [.int (b2i O), .int lf, .int us]))]) (w' := [(hw, .inr (1, [.int (b2i (pw_off O lf)), .int (pw_left lf), .int (us + 1)]))]) (va_runV (As := []) (rest := []) ⟨hx, hb, hml, hown, hts⟩ (c_X1_usePage l D cI cZ hw O lf us  _) (cwV 0 hts gX3_finishPage_X1_usePage rfl rfl rfl (by decide +kernel) ⟨Nat.le_of_ble_eq_true rfl, Nat.le_of_ble_eq_true rfl⟩) (ct_preV (w := [(hw, .inr (1, [.int (b2i O), .int lf, .int us]))]) (ci := 1) (i0 := 5) hK hN hP hD [5] (by decide) rfl rfl rfl) rfl rfl hl.1 rfl (lv_room (Nat.le_of_ble_eq_true rfl)) dX3_finishPage_12 ⟨Nat.le_of_ble_eq_true rfl, Nat.le_of_ble_eq_true rfl⟩) hP hD hS hA [5] rfl [hw] rfl rfl (fun H locs hP hD hS => ?_)
  have hP : va_P D vwCl [(h0, .inr (3, [.ref hd, .ref hR, .ref hw, .ref hT, .ref hJ, .int (nI tc), .int (nI nw), .int (nI ol)])), (hd, .inr (0, [.int (nI a), .ref hB])), (hB, .inl (cI, a * 48, .inl (pg_setn f (q * 48 + 44) (pg_sum f (q * 48) 44)))), (hR, .inr (2, [.ref hM])), (hM, .inl (cI, a, .inl M)), (hw, .inr (1, [.int (b2i (pw_off O lf)), .int (pw_left lf), .int (us + 1)])), (hT, .inl (cI, 32, .inl t)), (hJ, .inl (cI, 32, .inl pl))] _ := hP
  have hD : va_D A [(h0, .inr (3, [.ref hd, .ref hR, .ref hw, .ref hT, .ref hJ, .int (nI tc), .int (nI nw), .int (nI ol)])), (hd, .inr (0, [.int (nI a), .ref hB])), (hB, .inl (cI, a * 48, .inl (pg_setn f (q * 48 + 44) (pg_sum f (q * 48) 44)))), (hR, .inr (2, [.ref hM])), (hM, .inl (cI, a, .inl M)), (hw, .inr (1, [.int (b2i (pw_off O lf)), .int (pw_left lf), .int (us + 1)])), (hT, .inl (cI, 32, .inl t)), (hJ, .inl (cI, 32, .inl pl))] := hD
  refine lv_aload_n hx hb dX3_finishPage_15 rfl (lv_at hl 0 rfl) ?_
  refine va_get (D := D) (cl := vwCl) (ci := 3) (v := .ref hw) (C := RX3) (T := TX3) (N := 8) hx hb hts hiX3 hown hK hP 0 rfl rfl 2 (by decide) hk1 (fun _ h9 => h9) rfl dX3_finishPage_16 ?_
  refine ct_calli (w := [(hw, .inr (1, [.int (b2i (pw_off O lf)), .int (pw_left lf), .int (us + 1)]))]) (w' := [(hw, .inr (1, [.int (b2i (pw_off O lf)), .int (pw_left lf), .int (us + 1)]))]) (va_runV (As := []) (rest := []) ⟨hx, hb, hml, hown, hts⟩ (c_X1_isOff l D cI cZ hw (pw_off O lf) (pw_left lf) (us + 1)  _) (cwV 0 hts gX3_finishPage_X1_isOff rfl rfl rfl (by decide +kernel) ⟨Nat.le_of_ble_eq_true rfl, Nat.le_of_ble_eq_true rfl⟩) (ct_preV (w := [(hw, .inr (1, [.int (b2i (pw_off O lf)), .int (pw_left lf), .int (us + 1)]))]) (ci := 1) (i0 := 5) hK hN hP hD [5] (by decide) rfl rfl rfl) rfl rfl hl.1 rfl (lv_room (Nat.le_of_ble_eq_true rfl)) dX3_finishPage_19 ⟨Nat.le_of_ble_eq_true rfl, Nat.le_of_ble_eq_true rfl⟩) hP hD hS hA [5] rfl [hw] rfl rfl (fun H locs hP hD hS => ?_)
  have hP : va_P D vwCl [(h0, .inr (3, [.ref hd, .ref hR, .ref hw, .ref hT, .ref hJ, .int (nI tc), .int (nI nw), .int (nI ol)])), (hd, .inr (0, [.int (nI a), .ref hB])), (hB, .inl (cI, a * 48, .inl (pg_setn f (q * 48 + 44) (pg_sum f (q * 48) 44)))), (hR, .inr (2, [.ref hM])), (hM, .inl (cI, a, .inl M)), (hw, .inr (1, [.int (b2i (pw_off O lf)), .int (pw_left lf), .int (us + 1)])), (hT, .inl (cI, 32, .inl t)), (hJ, .inl (cI, 32, .inl pl))] _ := hP
  have hD : va_D A [(h0, .inr (3, [.ref hd, .ref hR, .ref hw, .ref hT, .ref hJ, .int (nI tc), .int (nI nw), .int (nI ol)])), (hd, .inr (0, [.int (nI a), .ref hB])), (hB, .inl (cI, a * 48, .inl (pg_setn f (q * 48 + 44) (pg_sum f (q * 48) 44)))), (hR, .inr (2, [.ref hM])), (hM, .inl (cI, a, .inl M)), (hw, .inr (1, [.int (b2i (pw_off O lf)), .int (pw_left lf), .int (us + 1)])), (hT, .inl (cI, 32, .inl t)), (hJ, .inl (cI, 32, .inl pl))] := hD
  refine lv_if_ne (tgt := 29) hx hb dX3_finishPage_22 (by decide) (fun c22 => ?_) (fun c22 => ?_)
  · skip
    refine lv_iconst (v := 0) hx hb dX3_finishPage_29 (by decide) ?_
    exact ct_zret hx hb hr hlocks (rfl) ((b2i_f (fun h => h (b2i_n0 c22))).symm) (rfl) hP hD hS dX3_finishPage_30
  · skip
    refine lv_iconst (v := 1) hx hb dX3_finishPage_25 (by decide) ?_
    refine lv_goto (tgt := 30) hx hb dX3_finishPage_26 (by decide) ?_
    exact ct_zret hx hb hr hlocks (rfl) ((b2i_t (b2i_0.mp c22)).symm) (rfl) hP hD hS dX3_finishPage_30
