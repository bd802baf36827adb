set_option maxHeartbeats 4000000 in
set_option maxRecDepth 100000 in
theorem c_X3_crash (l : Launch) (D : va_G) (cI cZ : ClassId) (h0 hd hB hR hM hw hT hJ a tc nw ol : Nat) (f M t pl : Nat → Int32) (O : Prop) (lf us : Int32) (x : Int32) (ha : a ≤ 120) (h12 : 12 ≤ a) (htc : tc ≤ 32) (hnw : nw ≤ 1000000) (hol : ol ≤ nw + 1) : CtI l yX3_crash wsX3_crash ({ frames := 1, cells := 0, slots := 0, locals := 21 }) D vwCl (ct_T cI cZ) [.ref h0, .int x] [(h0, .inr (3, [.ref hd, .ref hR, .ref hw, .ref hT, .ref hJ, .int (nI tc), .int (nI nw), .int (nI ol)])), (hd, .inr (0, [.int (nI a), .ref hB])), (hB, .inl (cI, a * 48, .inl f)), (hR, .inr (2, [.ref hM])), (hM, .inl (cI, a, .inl M)), (hw, .inr (1, [.int (b2i O), .int lf, .int us])), (hT, .inl (cI, 32, .inl t)), (hJ, .inl (cI, 32, .inl pl))] [(h0, .inr (3, [.ref hd, .ref hR, .ref hw, .ref hT, .ref hJ, .int (nI tc), .int (nI nw), .int (nI ol)])), (hd, .inr (0, [.int (nI a), .ref hB])), (hB, .inl (cI, a * 48, .inl f)), (hR, .inr (2, [.ref hM])), (hM, .inl (cI, a, .inl M)), (hw, .inr (1, [.int (b2i ((sp_crash O lf x).2.1)), .int ((sp_crash O lf x).2.2), .int us])), (hT, .inl (cI, 32, .inl t)), (hJ, .inl (cI, 32, .inl pl))] ((sp_crash O lf x).1) := by
  refine ct_of (Qf := ct_Qi D vwCl [(h0, .inr (3, [.ref hd, .ref hR, .ref hw, .ref hT, .ref hJ, .int (nI tc), .int (nI nw), .int (nI ol)])), (hd, .inr (0, [.int (nI a), .ref hB])), (hB, .inl (cI, a * 48, .inl f)), (hR, .inr (2, [.ref hM])), (hM, .inl (cI, a, .inl M)), (hw, .inr (1, [.int (b2i ((sp_crash O lf x).2.1)), .int ((sp_crash O lf x).2.2), .int us])), (hT, .inl (cI, 32, .inl t)), (hJ, .inl (cI, 32, .inl pl))] ((sp_crash O lf x).1)) (cc := cX3_crash) (maxL := 2) (ret := (some .int)) [(0, .ref h0), (1, .int x)] (by decide) rfl (Nat.le_of_ble_eq_true rfl) rfl ?_
  intro p e s m below meth c hx hb hr hts hown hlocks hml hnm A hA hK hN hP hD hS ls hl
  have hown : s.vm.findClass RX3 = some m.cls := hown
  have hk0 := hts (.fieldLink RX3 37 "DesignPages" "power" "LDesignPages$Power;") (by decide +kernel)
  have hiX3 : ∀ w ∈ wsX30, w ∈ wsX3_crash := by decide +kernel
  refine lv_aload_n hx hb dX3_crash_0 rfl (lv_at hl 0 rfl) ?_
  refine va_get (D := D) (cl := vwCl) (ci := 3) (v := .ref hw) (C := RX3) (T := TX3) (N := 8) hx hb hts hiX3 hown hK hP 0 rfl rfl 2 (by decide) hk0 (fun _ h9 => h9) rfl dX3_crash_1 ?_
  refine ct_calli (w := [(hw, .inr (1, [.int (b2i O), .int lf, .int us]))]) (w' := [(hw, .inr (1, [.int (b2i O), .int lf, .int us]))]) (va_runV (As := []) (rest := []) ⟨hx, hb, hml, hown, hts⟩ (c_X1_isOff l D cI cZ hw O lf us  _) (cwV 0 hts gX3_crash_X1_isOff rfl rfl rfl (by decide +kernel) ⟨Nat.le_of_ble_eq_true rfl, Nat.le_of_ble_eq_true rfl⟩) (ct_preV (w := [(hw, .inr (1, [.int (b2i O), .int lf, .int us]))]) (ci := 1) (i0 := 5) hK hN hP hD [5] (by decide) rfl rfl rfl) rfl rfl hl.1 rfl (lv_room (Nat.le_of_ble_eq_true rfl)) dX3_crash_4 ⟨Nat.le_of_ble_eq_true rfl, Nat.le_of_ble_eq_true rfl⟩) hP hD hS hA [5] rfl [hw] rfl rfl (fun H locs hP hD hS => ?_)
  have hP : va_P D vwCl [(h0, .inr (3, [.ref hd, .ref hR, .ref hw, .ref hT, .ref hJ, .int (nI tc), .int (nI nw), .int (nI ol)])), (hd, .inr (0, [.int (nI a), .ref hB])), (hB, .inl (cI, a * 48, .inl f)), (hR, .inr (2, [.ref hM])), (hM, .inl (cI, a, .inl M)), (hw, .inr (1, [.int (b2i O), .int lf, .int us])), (hT, .inl (cI, 32, .inl t)), (hJ, .inl (cI, 32, .inl pl))] _ := hP
  have hD : va_D A [(h0, .inr (3, [.ref hd, .ref hR, .ref hw, .ref hT, .ref hJ, .int (nI tc), .int (nI nw), .int (nI ol)])), (hd, .inr (0, [.int (nI a), .ref hB])), (hB, .inl (cI, a * 48, .inl f)), (hR, .inr (2, [.ref hM])), (hM, .inl (cI, a, .inl M)), (hw, .inr (1, [.int (b2i O), .int lf, .int us])), (hT, .inl (cI, 32, .inl t)), (hJ, .inl (cI, 32, .inl pl))] := hD
  refine lv_if_eq (tgt := 13) hx hb dX3_crash_7 (by decide) (fun c7 => ?_) (fun c7 => ?_)
  · skip
    refine lv_iload_n hx hb dX3_crash_13 rfl (lv_at hl 1 rfl) ?_
    refine lv_iconst (v := (-1)) hx hb dX3_crash_14 (by decide) ?_
    refine lv_icmp_lt (tgt := 25) hx hb dX3_crash_15 (by decide) (fun c15 => ?_) (fun c15 => ?_)
    · skip
      refine lv_bipush (v := (-2)) hx hb dX3_crash_25 (by decide) ?_
      have e9 : sp_crash O lf x = ((-2), O, lf) := by unfold sp_crash; rw [ifp_f (b2i_0.mp c7), ifp_t (Or.inl c15)]
      exact ct_iret hx hb hr hlocks (by rw [e9]) (by rw [e9]) hP hD hS dX3_crash_27
    · skip
      refine lv_iload_n hx hb dX3_crash_18 rfl (lv_at hl 1 rfl) ?_
      refine lv_sipush (v := 1000) hx hb dX3_crash_19 (by decide) ?_
      refine lv_icmp_le (tgt := 28) hx hb dX3_crash_22 (by decide) (fun c22 => ?_) (fun c22 => ?_)
      · skip
        refine lv_aload_n hx hb dX3_crash_28 rfl (lv_at hl 0 rfl) ?_
        refine va_get (D := D) (cl := vwCl) (ci := 3) (v := .ref hw) (C := RX3) (T := TX3) (N := 8) hx hb hts hiX3 hown hK hP 0 rfl rfl 2 (by decide) hk0 (fun _ h9 => h9) rfl dX3_crash_29 ?_
        refine lv_iload_n hx hb dX3_crash_32 rfl (lv_at hl 1 rfl) ?_
        refine ct_callv (w := [(hw, .inr (1, [.int (b2i O), .int lf, .int us]))]) (w' := [(hw, .inr (1, [.int (b2i (x = 0)), .int x, .int us]))]) (va_runV (As := [.int x]) (rest := []) ⟨hx, hb, hml, hown, hts⟩ (c_X1_failAfter l D cI cZ hw O lf us x _) (cwV 1 hts gX3_crash_X1_failAfter rfl rfl rfl (by decide +kernel) ⟨Nat.le_of_ble_eq_true rfl, Nat.le_of_ble_eq_true rfl⟩) (ct_preV (w := [(hw, .inr (1, [.int (b2i O), .int lf, .int us]))]) (ci := 1) (i0 := 5) hK hN hP hD [5] (by decide) rfl rfl rfl) rfl rfl hl.1 rfl (lv_room (Nat.le_of_ble_eq_true rfl)) dX3_crash_33 ⟨Nat.le_of_ble_eq_true rfl, Nat.le_of_ble_eq_true rfl⟩) hP hD hS hA [5] rfl [hw] rfl rfl (fun H locs hP hD hS => ?_)
        have hP : va_P D vwCl [(h0, .inr (3, [.ref hd, .ref hR, .ref hw, .ref hT, .ref hJ, .int (nI tc), .int (nI nw), .int (nI ol)])), (hd, .inr (0, [.int (nI a), .ref hB])), (hB, .inl (cI, a * 48, .inl f)), (hR, .inr (2, [.ref hM])), (hM, .inl (cI, a, .inl M)), (hw, .inr (1, [.int (b2i (x = 0)), .int x, .int us])), (hT, .inl (cI, 32, .inl t)), (hJ, .inl (cI, 32, .inl pl))] _ := hP
        have hD : va_D A [(h0, .inr (3, [.ref hd, .ref hR, .ref hw, .ref hT, .ref hJ, .int (nI tc), .int (nI nw), .int (nI ol)])), (hd, .inr (0, [.int (nI a), .ref hB])), (hB, .inl (cI, a * 48, .inl f)), (hR, .inr (2, [.ref hM])), (hM, .inl (cI, a, .inl M)), (hw, .inr (1, [.int (b2i (x = 0)), .int x, .int us])), (hT, .inl (cI, 32, .inl t)), (hJ, .inl (cI, 32, .inl pl))] := hD
        refine lv_iconst (v := 1) hx hb dX3_crash_36 (by decide) ?_
        have e9 : sp_crash O lf x = (1, (x = 0), x) := by unfold sp_crash; rw [ifp_f (b2i_0.mp c7), ifp_f (fun h => h.elim c15 (Int32.not_lt.mpr c22))]
        exact ct_iret hx hb hr hlocks (by rw [e9]) (by rw [e9]) hP hD hS dX3_crash_37
      · skip
        refine lv_bipush (v := (-2)) hx hb dX3_crash_25 (by decide) ?_
        have e9 : sp_crash O lf x = ((-2), O, lf) := by unfold sp_crash; rw [ifp_f (b2i_0.mp c7), ifp_t (Or.inr (Int32.not_le.mp c22))]
        exact ct_iret hx hb hr hlocks (by rw [e9]) (by rw [e9]) hP hD hS dX3_crash_27
  · skip
    refine lv_bipush (v := (-5)) hx hb dX3_crash_10 (by decide) ?_
    have e9 : sp_crash O lf x = ((-5), O, lf) := by unfold sp_crash; rw [ifp_t (b2i_n0 c7)]
    exact ct_iret hx hb hr hlocks (by rw [e9]) (by rw [e9]) hP hD hS dX3_crash_12
set_option maxHeartbeats 4000000 in
set_option maxRecDepth 100000 in
theorem c_X3_reopen (l : Launch) (D : va_G) (cI cZ : ClassId) (h0 hd hB hR hM hw hT hJ a tc nw ol : Nat) (f M t pl : Nat → Int32) (O : Prop) (lf us : Int32) (ha : a ≤ 120) (h12 : 12 ≤ a) (htc : tc ≤ 32) (hnw : nw ≤ 1000000) (hol : ol ≤ nw + 1) : CtI l yX3_reopen wsX3_reopen ({ frames := 3, cells := 0, slots := 0, locals := 69 }) D vwCl (ct_T cI cZ) [.ref h0] [(h0, .inr (3, [.ref hd, .ref hR, .ref hw, .ref hT, .ref hJ, .int (nI tc), .int (nI nw), .int (nI ol)])), (hd, .inr (0, [.int (nI a), .ref hB])), (hB, .inl (cI, a * 48, .inl f)), (hR, .inr (2, [.ref hM])), (hM, .inl (cI, a, .inl M)), (hw, .inr (1, [.int (b2i O), .int lf, .int us])), (hT, .inl (cI, 32, .inl t)), (hJ, .inl (cI, 32, .inl pl))] [(h0, .inr (3, [.ref hd, .ref hR, .ref hw, .ref hT, .ref hJ, .int (nI 0), .int (nI ((ro f a 8).1)), .int (nI ((ro f a 8).2))])), (hd, .inr (0, [.int (nI a), .ref hB])), (hB, .inl (cI, a * 48, .inl f)), (hR, .inr (2, [.ref hM])), (hM, .inl (cI, a, .inl M)), (hw, .inr (1, [.int (b2i False), .int (-1), .int us])), (hT, .inl (cI, 32, .inl t)), (hJ, .inl (cI, 32, .inl pl))] (nI (ro f a 8).1) := by
  refine ct_of (Qf := ct_Qi D vwCl [(h0, .inr (3, [.ref hd, .ref hR, .ref hw, .ref hT, .ref hJ, .int (nI 0), .int (nI ((ro f a 8).1)), .int (nI ((ro f a 8).2))])), (hd, .inr (0, [.int (nI a), .ref hB])), (hB, .inl (cI, a * 48, .inl f)), (hR, .inr (2, [.ref hM])), (hM, .inl (cI, a, .inl M)), (hw, .inr (1, [.int (b2i False), .int (-1), .int us])), (hT, .inl (cI, 32, .inl t)), (hJ, .inl (cI, 32, .inl pl))] (nI (ro f a 8).1)) (cc := cX3_reopen) (maxL := 2) (ret := (some .int)) [(0, .ref h0)] (by decide) rfl (Nat.le_of_ble_eq_true rfl) rfl ?_
  intro p e s m below meth c hx hb hr hts hown hlocks hml hnm A hA hK hN hP hD hS ls hl
  have hown : s.vm.findClass RX3 = some m.cls := hown
  have hk0 := hts (.fieldLink RX3 37 "DesignPages" "power" "LDesignPages$Power;") (by decide +kernel)
  have hk1 := hts (.fieldLink RX3 48 "DesignPages" "typedCount" "I") (by decide +kernel)
  have hk2 := hts (.fieldLink RX3 52 "DesignPages" "newest" "I") (by decide +kernel)
  have hk3 := hts (.fieldLink RX3 55 "DesignPages" "oldest" "I") (by decide +kernel)
  have hk4 := hts (.fieldLink RX3 23 "DesignPages" "disk" "LDesignPages$Pages;") (by decide +kernel)
  have hiX3 : ∀ w ∈ wsX30, w ∈ wsX3_reopen := by decide +kernel
  refine lv_aload_n hx hb dX3_reopen_0 rfl (lv_at hl 0 rfl) ?_
  refine va_get (D := D) (cl := vwCl) (ci := 3) (v := .ref hw) (C := RX3) (T := TX3) (N := 8) hx hb hts hiX3 hown hK hP 0 rfl rfl 2 (by decide) hk0 (fun _ h9 => h9) rfl dX3_reopen_1 ?_
  refine ct_callv (w := [(hw, .inr (1, [.int (b2i O), .int lf, .int us]))]) (w' := [(hw, .inr (1, [.int (b2i False), .int (-1), .int us]))]) (va_runV (As := []) (rest := []) ⟨hx, hb, hml, hown, hts⟩ (c_X1_restore l D cI cZ hw O lf us  _) (cwV 0 hts gX3_reopen_X1_restore rfl rfl rfl (by decide +kernel) ⟨Nat.le_of_ble_eq_true rfl, Nat.le_of_ble_eq_true rfl⟩) (ct_preV (w := [(hw, .inr (1, [.int (b2i O), .int lf, .int us]))]) (ci := 1) (i0 := 5) hK hN hP hD [5] (by decide) rfl rfl rfl) rfl rfl hl.1 rfl (lv_room (Nat.le_of_ble_eq_true rfl)) dX3_reopen_4 ⟨Nat.le_of_ble_eq_true rfl, Nat.le_of_ble_eq_true rfl⟩) hP hD hS hA [5] rfl [hw] rfl rfl (fun H locs hP hD hS => ?_)
  have hP : va_P D vwCl [(h0, .inr (3, [.ref hd, .ref hR, .ref hw, .ref hT, .ref hJ, .int (nI tc), .int (nI nw), .int (nI ol)])), (hd, .inr (0, [.int (nI a), .ref hB])), (hB, .inl (cI, a * 48, .inl f)), (hR, .inr (2, [.ref hM])), (hM, .inl (cI, a, .inl M)), (hw, .inr (1, [.int (b2i False), .int (-1), .int us])), (hT, .inl (cI, 32, .inl t)), (hJ, .inl (cI, 32, .inl pl))] _ := hP
  have hD : va_D A [(h0, .inr (3, [.ref hd, .ref hR, .ref hw, .ref hT, .ref hJ, .int (nI tc), .int (nI nw), .int (nI ol)])), (hd, .inr (0, [.int (nI a), .ref hB])), (hB, .inl (cI, a * 48, .inl f)), (hR, .inr (2, [.ref hM])), (hM, .inl (cI, a, .inl M)), (hw, .inr (1, [.int (b2i False), .int (-1), .int us])), (hT, .inl (cI, 32, .inl t)), (hJ, .inl (cI, 32, .inl pl))] := hD
  refine lv_aload_n hx hb dX3_reopen_7 rfl (lv_at hl 0 rfl) ?_
  refine lv_iconst (v := 0) hx hb dX3_reopen_8 (by decide) ?_
  refine va_put (D := D) (cl := vwCl) (ci := 3) (v := .int 0) (ty := .int) (C := RX3) (T := TX3) (N := 8) hx hb hts hiX3 tyX3 tyX3_ok nmX3 hown hK hP hD hS 0 rfl rfl 5 (by decide) hk1 (fun _ h9 => h9) rfl (by decide +kernel) rfl rfl (Nat.le_of_ble_eq_true rfl) dX3_reopen_9 (fun H locs hP hD hS => ?_)
  have hP : va_P D vwCl [(h0, .inr (3, [.ref hd, .ref hR, .ref hw, .ref hT, .ref hJ, .int 0, .int (nI nw), .int (nI ol)])), (hd, .inr (0, [.int (nI a), .ref hB])), (hB, .inl (cI, a * 48, .inl f)), (hR, .inr (2, [.ref hM])), (hM, .inl (cI, a, .inl M)), (hw, .inr (1, [.int (b2i False), .int (-1), .int us])), (hT, .inl (cI, 32, .inl t)), (hJ, .inl (cI, 32, .inl pl))] _ := hP
  have hD : va_D A [(h0, .inr (3, [.ref hd, .ref hR, .ref hw, .ref hT, .ref hJ, .int 0, .int (nI nw), .int (nI ol)])), (hd, .inr (0, [.int (nI a), .ref hB])), (hB, .inl (cI, a * 48, .inl f)), (hR, .inr (2, [.ref hM])), (hM, .inl (cI, a, .inl M)), (hw, .inr (1, [.int (b2i False), .int (-1), .int us])), (hT, .inl (cI, 32, .inl t)), (hJ, .inl (cI, 32, .inl pl))] := hD
  refine lv_aload_n hx hb dX3_reopen_12 rfl (lv_at hl 0 rfl) ?_
  refine lv_iconst (v := 0) hx hb dX3_reopen_13 (by decide) ?_
  refine va_put (D := D) (cl := vwCl) (ci := 3) (v := .int 0) (ty := .int) (C := RX3) (T := TX3) (N := 8) hx hb hts hiX3 tyX3 tyX3_ok nmX3 hown hK hP hD hS 0 rfl rfl 6 (by decide) hk2 (fun _ h9 => h9) rfl (by decide +kernel) rfl rfl (Nat.le_of_ble_eq_true rfl) dX3_reopen_14 (fun H locs hP hD hS => ?_)
  have hP : va_P D vwCl [(h0, .inr (3, [.ref hd, .ref hR, .ref hw, .ref hT, .ref hJ, .int 0, .int 0, .int (nI ol)])), (hd, .inr (0, [.int (nI a), .ref hB])), (hB, .inl (cI, a * 48, .inl f)), (hR, .inr (2, [.ref hM])), (hM, .inl (cI, a, .inl M)), (hw, .inr (1, [.int (b2i False), .int (-1), .int us])), (hT, .inl (cI, 32, .inl t)), (hJ, .inl (cI, 32, .inl pl))] _ := hP
  have hD : va_D A [(h0, .inr (3, [.ref hd, .ref hR, .ref hw, .ref hT, .ref hJ, .int 0, .int 0, .int (nI ol)])), (hd, .inr (0, [.int (nI a), .ref hB])), (hB, .inl (cI, a * 48, .inl f)), (hR, .inr (2, [.ref hM])), (hM, .inl (cI, a, .inl M)), (hw, .inr (1, [.int (b2i False), .int (-1), .int us])), (hT, .inl (cI, 32, .inl t)), (hJ, .inl (cI, 32, .inl pl))] := hD
  refine lv_aload_n hx hb dX3_reopen_17 rfl (lv_at hl 0 rfl) ?_
  refine lv_iconst (v := 1) hx hb dX3_reopen_18 (by decide) ?_
  refine va_put (D := D) (cl := vwCl) (ci := 3) (v := .int 1) (ty := .int) (C := RX3) (T := TX3) (N := 8) hx hb hts hiX3 tyX3 tyX3_ok nmX3 hown hK hP hD hS 0 rfl rfl 7 (by decide) hk3 (fun _ h9 => h9) rfl (by decide +kernel) rfl rfl (Nat.le_of_ble_eq_true rfl) dX3_reopen_19 (fun H locs hP hD hS => ?_)
  have hP : va_P D vwCl [(h0, .inr (3, [.ref hd, .ref hR, .ref hw, .ref hT, .ref hJ, .int 0, .int 0, .int 1])), (hd, .inr (0, [.int (nI a), .ref hB])), (hB, .inl (cI, a * 48, .inl f)), (hR, .inr (2, [.ref hM])), (hM, .inl (cI, a, .inl M)), (hw, .inr (1, [.int (b2i False), .int (-1), .int us])), (hT, .inl (cI, 32, .inl t)), (hJ, .inl (cI, 32, .inl pl))] _ := hP
  have hD : va_D A [(h0, .inr (3, [.ref hd, .ref hR, .ref hw, .ref hT, .ref hJ, .int 0, .int 0, .int 1])), (hd, .inr (0, [.int (nI a), .ref hB])), (hB, .inl (cI, a * 48, .inl f)), (hR, .inr (2, [.ref hM])), (hM, .inl (cI, a, .inl M)), (hw, .inr (1, [.int (b2i False), .int (-1), .int us])), (hT, .inl (cI, 32, .inl t)), (hJ, .inl (cI, 32, .inl pl))] := hD
  refine lv_iconst (v := 0) hx hb dX3_reopen_22 (by decide) ?_
  refine lv_istore_n (lv' := [(1, .int 0), (0, .ref h0)]) hx hb dX3_reopen_23 rfl hl (by decide) rfl (fun ls hl => ?_)
  have loop24 : ∀ (n24 : Nat) (i u v : Nat), i ≤ 8 → u ≤ 1000000 → (u, v) = ro f a i → 8 - i < n24 → ∀ (H : Heap) (locs : List Loc), va_P D vwCl [(h0, .inr (3, [.ref hd, .ref hR, .ref hw, .ref hT, .ref hJ, .int (nI 0), .int (nI u), .int (nI v)])), (hd, .inr (0, [.int (nI a), .ref hB])), (hB, .inl (cI, a * 48, .inl f)), (hR, .inr (2, [.ref hM])), (hM, .inl (cI, a, .inl M)), (hw, .inr (1, [.int (b2i False), .int (-1), .int us])), (hT, .inl (cI, 32, .inl t)), (hJ, .inl (cI, 32, .inl pl))] H → va_D A [(h0, .inr (3, [.ref hd, .ref hR, .ref hw, .ref hT, .ref hJ, .int (nI 0), .int (nI u), .int (nI v)])), (hd, .inr (0, [.int (nI a), .ref hB])), (hB, .inl (cI, a * 48, .inl f)), (hR, .inr (2, [.ref hM])), (hM, .inl (cI, a, .inl M)), (hw, .inr (1, [.int (b2i False), .int (-1), .int us])), (hT, .inl (cI, 32, .inl t)), (hJ, .inl (cI, 32, .inl pl))] → va_S A s.heap H locs → ∀ (ls : Array Slot), lv_has ls 2 [(1, .int (nI i)), (0, .ref h0)] → W p l e ({ frames := 3, cells := 0, slots := 0, locals := 69 }) s m ([.ref h0] : List Value).toArray below meth c H locs 0 0 (MQ below (ct_Qi D vwCl [(h0, .inr (3, [.ref hd, .ref hR, .ref hw, .ref hT, .ref hJ, .int (nI 0), .int (nI ((ro f a 8).1)), .int (nI ((ro f a 8).2))])), (hd, .inr (0, [.int (nI a), .ref hB])), (hB, .inl (cI, a * 48, .inl f)), (hR, .inr (2, [.ref hM])), (hM, .inl (cI, a, .inl M)), (hw, .inr (1, [.int (b2i False), .int (-1), .int us])), (hT, .inl (cI, 32, .inl t)), (hJ, .inl (cI, 32, .inl pl))] (nI (ro f a 8).1) A) ([.ref h0] : List Value).toArray s 0 0 A) (F0 m 24 ls []) := by
    intro n24
    induction n24 with
    | zero =>
      intro i u v _ _ _ hm
      exact absurd hm (Nat.not_lt_zero _)
    | succ n24 ih24 =>
      intro i u v hi hu ex hm24 H locs hP hD hS ls hl
      refine lv_iload_n hx hb dX3_reopen_24 rfl (lv_at hl 0 rfl) ?_
      refine lv_bipush (v := 8) hx hb dX3_reopen_25 (by decide) ?_
      refine lv_icmp_ge (tgt := 90) hx hb dX3_reopen_27 (by decide) (fun c27 => ?_) (fun c27 => ?_)
      · skip
        have c27 : 8 ≤ i := (nI_leI (a := 8) (b := i) (by omega) (by omega)).mp c27
        refine lv_aload_n hx hb dX3_reopen_90 rfl (lv_at hl 1 rfl) ?_
        refine va_get (D := D) (cl := vwCl) (ci := 3) (v := .int (nI u)) (C := RX3) (T := TX3) (N := 8) hx hb hts hiX3 hown hK hP 0 rfl rfl 6 (by decide) hk2 (fun _ h9 => h9) rfl dX3_reopen_91 ?_
        have e1 : i = 8 := by omega
        subst e1
        exact ct_iret hx hb hr hlocks (by rw [← ex]) (by rw [← ex]) hP hD hS dX3_reopen_94
      · skip
        have c27 : ¬ 8 ≤ i := fun h => c27 ((nI_leI (a := 8) (b := i) (by omega) (by omega)).mpr h)
        refine lv_aload_n hx hb dX3_reopen_30 rfl (lv_at hl 1 rfl) ?_
        refine va_get (D := D) (cl := vwCl) (ci := 3) (v := .ref hd) (C := RX3) (T := TX3) (N := 8) hx hb hts hiX3 hown hK hP 0 rfl rfl 0 (by decide) hk4 (fun _ h9 => h9) rfl dX3_reopen_31 ?_
        refine lv_iload_n hx hb dX3_reopen_34 rfl (lv_at hl 0 rfl) ?_
        refine lv_iconst (v := 1) hx hb dX3_reopen_35 (by decide) ?_
        refine ct_calli (w := [(hd, .inr (0, [.int (nI a), .ref hB])), (hB, .inl (cI, a * 48, .inl f))]) (w' := [(hd, .inr (0, [.int (nI a), .ref hB])), (hB, .inl (cI, a * 48, .inl f))]) (va_runV (As := [.int (nI i), .int 1]) (rest := []) ⟨hx, hb, hml, hown, hts⟩ (c_X0_isRight l D cI cZ hd hB a i 1 f (by omega) (by omega) _) (cwV 2 hts gX3_reopen_X0_isRight rfl rfl rfl (by decide +kernel) ⟨Nat.le_of_ble_eq_true rfl, Nat.le_of_ble_eq_true rfl⟩) (ct_preV (w := [(hd, .inr (0, [.int (nI a), .ref hB])), (hB, .inl (cI, a * 48, .inl f))]) (ci := 0) (i0 := 1) hK hN hP hD [1, 2] (by decide) rfl rfl rfl) rfl rfl hl.1 rfl (lv_room (Nat.le_of_ble_eq_true rfl)) dX3_reopen_36 ⟨Nat.le_of_ble_eq_true rfl, Nat.le_of_ble_eq_true rfl⟩) hP hD hS hA [1, 2] rfl [hd, hB] rfl rfl (fun H locs hP hD hS => ?_)
        have hP : va_P D vwCl [(h0, .inr (3, [.ref hd, .ref hR, .ref hw, .ref hT, .ref hJ, .int (nI 0), .int (nI u), .int (nI v)])), (hd, .inr (0, [.int (nI a), .ref hB])), (hB, .inl (cI, a * 48, .inl f)), (hR, .inr (2, [.ref hM])), (hM, .inl (cI, a, .inl M)), (hw, .inr (1, [.int (b2i False), .int (-1), .int us])), (hT, .inl (cI, 32, .inl t)), (hJ, .inl (cI, 32, .inl pl))] _ := hP
        have hD : va_D A [(h0, .inr (3, [.ref hd, .ref hR, .ref hw, .ref hT, .ref hJ, .int (nI 0), .int (nI u), .int (nI v)])), (hd, .inr (0, [.int (nI a), .ref hB])), (hB, .inl (cI, a * 48, .inl f)), (hR, .inr (2, [.ref hM])), (hM, .inl (cI, a, .inl M)), (hw, .inr (1, [.int (b2i False), .int (-1), .int us])), (hT, .inl (cI, 32, .inl t)), (hJ, .inl (cI, 32, .inl pl))] := hD
        refine lv_if_eq (tgt := 84) hx hb dX3_reopen_39 (by decide) (fun c39 => ?_) (fun c39 => ?_)
        · skip
          refine lv_iinc (v := nI (i + 1)) (lv' := [(1, .int (nI (i + 1))), (0, .ref h0)]) hx hb dX3_reopen_84 hl (k := 0) rfl (nI_add i 1) (by decide) rfl (fun ls hl => ?_)
          refine lv_goto (tgt := 24) hx hb dX3_reopen_87 (by decide) ?_
          exact ih24 (i + 1) u v (by omega) (by omega) (ro_f ex (b2i_0.mp c39)) (by omega) _ _ hP hD hS ls (lv_sub hl [0, 1] rfl)
        · skip
          refine lv_aload_n hx hb dX3_reopen_42 rfl (lv_at hl 1 rfl) ?_
          refine va_get (D := D) (cl := vwCl) (ci := 3) (v := .ref hd) (C := RX3) (T := TX3) (N := 8) hx hb hts hiX3 hown hK hP 0 rfl rfl 0 (by decide) hk4 (fun _ h9 => h9) rfl dX3_reopen_43 ?_
          refine lv_iload_n hx hb dX3_reopen_46 rfl (lv_at hl 0 rfl) ?_
          refine lv_iconst (v := 1) hx hb dX3_reopen_47 (by decide) ?_
          refine ct_calli (w := [(hd, .inr (0, [.int (nI a), .ref hB])), (hB, .inl (cI, a * 48, .inl f))]) (w' := [(hd, .inr (0, [.int (nI a), .ref hB])), (hB, .inl (cI, a * 48, .inl f))]) (va_runV (As := [.int (nI i), .int 1]) (rest := []) ⟨hx, hb, hml, hown, hts⟩ (c_X0_numberAt l D cI cZ hd hB a i 1 f (by omega) (by omega) (by omega) _) (cwV 2 hts gX3_reopen_X0_numberAt rfl rfl rfl (by decide +kernel) ⟨Nat.le_of_ble_eq_true rfl, Nat.le_of_ble_eq_true rfl⟩) (ct_preV (w := [(hd, .inr (0, [.int (nI a), .ref hB])), (hB, .inl (cI, a * 48, .inl f))]) (ci := 0) (i0 := 1) hK hN hP hD [1, 2] (by decide) rfl rfl rfl) rfl rfl hl.1 rfl (lv_room (Nat.le_of_ble_eq_true rfl)) dX3_reopen_48 ⟨Nat.le_of_ble_eq_true rfl, Nat.le_of_ble_eq_true rfl⟩) hP hD hS hA [1, 2] rfl [hd, hB] rfl rfl (fun H locs hP hD hS => ?_)
          have hP : va_P D vwCl [(h0, .inr (3, [.ref hd, .ref hR, .ref hw, .ref hT, .ref hJ, .int (nI 0), .int (nI u), .int (nI v)])), (hd, .inr (0, [.int (nI a), .ref hB])), (hB, .inl (cI, a * 48, .inl f)), (hR, .inr (2, [.ref hM])), (hM, .inl (cI, a, .inl M)), (hw, .inr (1, [.int (b2i False), .int (-1), .int us])), (hT, .inl (cI, 32, .inl t)), (hJ, .inl (cI, 32, .inl pl))] _ := hP
          have hD : va_D A [(h0, .inr (3, [.ref hd, .ref hR, .ref hw, .ref hT, .ref hJ, .int (nI 0), .int (nI u), .int (nI v)])), (hd, .inr (0, [.int (nI a), .ref hB])), (hB, .inl (cI, a * 48, .inl f)), (hR, .inr (2, [.ref hM])), (hM, .inl (cI, a, .inl M)), (hw, .inr (1, [.int (b2i False), .int (-1), .int us])), (hT, .inl (cI, 32, .inl t)), (hJ, .inl (cI, 32, .inl pl))] := hD
          have hvn := vers_nv (b2i_n0 c39) (by omega)
          obtain ⟨hv1, hv2, hv3, hv4, hv5, hv6, hv7, hv8⟩ := hvn
          refine ct_top (y := nI (nv (pg_num f (i * 48 + 1)))) (hv1) ?_
          refine lv_aload_n hx hb dX3_reopen_51 rfl (lv_at hl 1 rfl) ?_
          refine va_get (D := D) (cl := vwCl) (ci := 3) (v := .int (nI u)) (C := RX3) (T := TX3) (N := 8) hx hb hts hiX3 hown hK hP 0 rfl rfl 6 (by decide) hk2 (fun _ h9 => h9) rfl dX3_reopen_52 ?_
          refine lv_icmp_le (tgt := 84) hx hb dX3_reopen_55 (by decide) (fun c55 => ?_) (fun c55 => ?_)
          · skip
            have c55 : (nv (pg_num f (i * 48 + 1))) ≤ u := (nI_leI (a := (nv (pg_num f (i * 48 + 1)))) (b := u) (by omega) (by omega)).mp c55
            refine lv_iinc (v := nI (i + 1)) (lv' := [(1, .int (nI (i + 1))), (0, .ref h0)]) hx hb dX3_reopen_84 hl (k := 0) rfl (nI_add i 1) (by decide) rfl (fun ls hl => ?_)
            refine lv_goto (tgt := 24) hx hb dX3_reopen_87 (by decide) ?_
            exact ih24 (i + 1) u v (by omega) (by omega) (ro_n ex (b2i_n0 c39) (Nat.not_lt.mpr c55)) (by omega) _ _ hP hD hS ls (lv_sub hl [0, 1] rfl)
          · skip
            have c55 : ¬ (nv (pg_num f (i * 48 + 1))) ≤ u := fun h => c55 ((nI_leI (a := (nv (pg_num f (i * 48 + 1)))) (b := u) (by omega) (by omega)).mpr h)
            refine lv_aload_n hx hb dX3_reopen_58 rfl (lv_at hl 1 rfl) ?_
            refine lv_aload_n hx hb dX3_reopen_59 rfl (lv_at hl 1 rfl) ?_
            refine va_get (D := D) (cl := vwCl) (ci := 3) (v := .ref hd) (C := RX3) (T := TX3) (N := 8) hx hb hts hiX3 hown hK hP 0 rfl rfl 0 (by decide) hk4 (fun _ h9 => h9) rfl dX3_reopen_60 ?_
            refine lv_iload_n hx hb dX3_reopen_63 rfl (lv_at hl 0 rfl) ?_
            refine lv_iconst (v := 1) hx hb dX3_reopen_64 (by decide) ?_
            refine ct_calli (w := [(hd, .inr (0, [.int (nI a), .ref hB])), (hB, .inl (cI, a * 48, .inl f))]) (w' := [(hd, .inr (0, [.int (nI a), .ref hB])), (hB, .inl (cI, a * 48, .inl f))]) (va_runV (As := [.int (nI i), .int 1]) (rest := [.ref h0]) ⟨hx, hb, hml, hown, hts⟩ (c_X0_numberAt l D cI cZ hd hB a i 1 f (by omega) (by omega) (by omega) _) (cwV 2 hts gX3_reopen_X0_numberAt rfl rfl rfl (by decide +kernel) ⟨Nat.le_of_ble_eq_true rfl, Nat.le_of_ble_eq_true rfl⟩) (ct_preV (w := [(hd, .inr (0, [.int (nI a), .ref hB])), (hB, .inl (cI, a * 48, .inl f))]) (ci := 0) (i0 := 1) hK hN hP hD [1, 2] (by decide) rfl rfl rfl) rfl rfl hl.1 rfl (lv_room (Nat.le_of_ble_eq_true rfl)) dX3_reopen_65 ⟨Nat.le_of_ble_eq_true rfl, Nat.le_of_ble_eq_true rfl⟩) hP hD hS hA [1, 2] rfl [hd, hB] rfl rfl (fun H locs hP hD hS => ?_)
            have hP : va_P D vwCl [(h0, .inr (3, [.ref hd, .ref hR, .ref hw, .ref hT, .ref hJ, .int (nI 0), .int (nI u), .int (nI v)])), (hd, .inr (0, [.int (nI a), .ref hB])), (hB, .inl (cI, a * 48, .inl f)), (hR, .inr (2, [.ref hM])), (hM, .inl (cI, a, .inl M)), (hw, .inr (1, [.int (b2i False), .int (-1), .int us])), (hT, .inl (cI, 32, .inl t)), (hJ, .inl (cI, 32, .inl pl))] _ := hP
            have hD : va_D A [(h0, .inr (3, [.ref hd, .ref hR, .ref hw, .ref hT, .ref hJ, .int (nI 0), .int (nI u), .int (nI v)])), (hd, .inr (0, [.int (nI a), .ref hB])), (hB, .inl (cI, a * 48, .inl f)), (hR, .inr (2, [.ref hM])), (hM, .inl (cI, a, .inl M)), (hw, .inr (1, [.int (b2i False), .int (-1), .int us])), (hT, .inl (cI, 32, .inl t)), (hJ, .inl (cI, 32, .inl pl))] := hD
            refine ct_top (y := nI (nv (pg_num f (i * 48 + 1)))) (hv1) ?_
            refine va_put (D := D) (cl := vwCl) (ci := 3) (v := .int (nI (nv (pg_num f (i * 48 + 1))))) (ty := .int) (C := RX3) (T := TX3) (N := 8) hx hb hts hiX3 tyX3 tyX3_ok nmX3 hown hK hP hD hS 0 rfl rfl 6 (by decide) hk2 (fun _ h9 => h9) rfl (by decide +kernel) rfl rfl (Nat.le_of_ble_eq_true rfl) dX3_reopen_68 (fun H locs hP hD hS => ?_)
            have hP : va_P D vwCl [(h0, .inr (3, [.ref hd, .ref hR, .ref hw, .ref hT, .ref hJ, .int (nI 0), .int (nI (nv (pg_num f (i * 48 + 1)))), .int (nI v)])), (hd, .inr (0, [.int (nI a), .ref hB])), (hB, .inl (cI, a * 48, .inl f)), (hR, .inr (2, [.ref hM])), (hM, .inl (cI, a, .inl M)), (hw, .inr (1, [.int (b2i False), .int (-1), .int us])), (hT, .inl (cI, 32, .inl t)), (hJ, .inl (cI, 32, .inl pl))] _ := hP
            have hD : va_D A [(h0, .inr (3, [.ref hd, .ref hR, .ref hw, .ref hT, .ref hJ, .int (nI 0), .int (nI (nv (pg_num f (i * 48 + 1)))), .int (nI v)])), (hd, .inr (0, [.int (nI a), .ref hB])), (hB, .inl (cI, a * 48, .inl f)), (hR, .inr (2, [.ref hM])), (hM, .inl (cI, a, .inl M)), (hw, .inr (1, [.int (b2i False), .int (-1), .int us])), (hT, .inl (cI, 32, .inl t)), (hJ, .inl (cI, 32, .inl pl))] := hD
            refine lv_aload_n hx hb dX3_reopen_71 rfl (lv_at hl 1 rfl) ?_
            refine lv_aload_n hx hb dX3_reopen_72 rfl (lv_at hl 1 rfl) ?_
            refine va_get (D := D) (cl := vwCl) (ci := 3) (v := .ref hd) (C := RX3) (T := TX3) (N := 8) hx hb hts hiX3 hown hK hP 0 rfl rfl 0 (by decide) hk4 (fun _ h9 => h9) rfl dX3_reopen_73 ?_
            refine lv_iload_n hx hb dX3_reopen_76 rfl (lv_at hl 0 rfl) ?_
            refine lv_iconst (v := 5) hx hb dX3_reopen_77 (by decide) ?_
            refine ct_calli (w := [(hd, .inr (0, [.int (nI a), .ref hB])), (hB, .inl (cI, a * 48, .inl f))]) (w' := [(hd, .inr (0, [.int (nI a), .ref hB])), (hB, .inl (cI, a * 48, .inl f))]) (va_runV (As := [.int (nI i), .int 5]) (rest := [.ref h0]) ⟨hx, hb, hml, hown, hts⟩ (c_X0_numberAt l D cI cZ hd hB a i 5 f (by omega) (by omega) (by omega) _) (cwV 2 hts gX3_reopen_X0_numberAt rfl rfl rfl (by decide +kernel) ⟨Nat.le_of_ble_eq_true rfl, Nat.le_of_ble_eq_true rfl⟩) (ct_preV (w := [(hd, .inr (0, [.int (nI a), .ref hB])), (hB, .inl (cI, a * 48, .inl f))]) (ci := 0) (i0 := 1) hK hN hP hD [1, 2] (by decide) rfl rfl rfl) rfl rfl hl.1 rfl (lv_room (Nat.le_of_ble_eq_true rfl)) dX3_reopen_78 ⟨Nat.le_of_ble_eq_true rfl, Nat.le_of_ble_eq_true rfl⟩) hP hD hS hA [1, 2] rfl [hd, hB] rfl rfl (fun H locs hP hD hS => ?_)
            have hP : va_P D vwCl [(h0, .inr (3, [.ref hd, .ref hR, .ref hw, .ref hT, .ref hJ, .int (nI 0), .int (nI (nv (pg_num f (i * 48 + 1)))), .int (nI v)])), (hd, .inr (0, [.int (nI a), .ref hB])), (hB, .inl (cI, a * 48, .inl f)), (hR, .inr (2, [.ref hM])), (hM, .inl (cI, a, .inl M)), (hw, .inr (1, [.int (b2i False), .int (-1), .int us])), (hT, .inl (cI, 32, .inl t)), (hJ, .inl (cI, 32, .inl pl))] _ := hP
            have hD : va_D A [(h0, .inr (3, [.ref hd, .ref hR, .ref hw, .ref hT, .ref hJ, .int (nI 0), .int (nI (nv (pg_num f (i * 48 + 1)))), .int (nI v)])), (hd, .inr (0, [.int (nI a), .ref hB])), (hB, .inl (cI, a * 48, .inl f)), (hR, .inr (2, [.ref hM])), (hM, .inl (cI, a, .inl M)), (hw, .inr (1, [.int (b2i False), .int (-1), .int us])), (hT, .inl (cI, 32, .inl t)), (hJ, .inl (cI, 32, .inl pl))] := hD
            refine ct_top (y := nI (nv (pg_num f (i * 48 + 5)))) (hv5) ?_
            refine va_put (D := D) (cl := vwCl) (ci := 3) (v := .int (nI (nv (pg_num f (i * 48 + 5))))) (ty := .int) (C := RX3) (T := TX3) (N := 8) hx hb hts hiX3 tyX3 tyX3_ok nmX3 hown hK hP hD hS 0 rfl rfl 7 (by decide) hk3 (fun _ h9 => h9) rfl (by decide +kernel) rfl rfl (Nat.le_of_ble_eq_true rfl) dX3_reopen_81 (fun H locs hP hD hS => ?_)
            have hP : va_P D vwCl [(h0, .inr (3, [.ref hd, .ref hR, .ref hw, .ref hT, .ref hJ, .int (nI 0), .int (nI (nv (pg_num f (i * 48 + 1)))), .int (nI (nv (pg_num f (i * 48 + 5))))])), (hd, .inr (0, [.int (nI a), .ref hB])), (hB, .inl (cI, a * 48, .inl f)), (hR, .inr (2, [.ref hM])), (hM, .inl (cI, a, .inl M)), (hw, .inr (1, [.int (b2i False), .int (-1), .int us])), (hT, .inl (cI, 32, .inl t)), (hJ, .inl (cI, 32, .inl pl))] _ := hP
            have hD : va_D A [(h0, .inr (3, [.ref hd, .ref hR, .ref hw, .ref hT, .ref hJ, .int (nI 0), .int (nI (nv (pg_num f (i * 48 + 1)))), .int (nI (nv (pg_num f (i * 48 + 5))))])), (hd, .inr (0, [.int (nI a), .ref hB])), (hB, .inl (cI, a * 48, .inl f)), (hR, .inr (2, [.ref hM])), (hM, .inl (cI, a, .inl M)), (hw, .inr (1, [.int (b2i False), .int (-1), .int us])), (hT, .inl (cI, 32, .inl t)), (hJ, .inl (cI, 32, .inl pl))] := hD
            refine lv_iinc (v := nI (i + 1)) (lv' := [(1, .int (nI (i + 1))), (0, .ref h0)]) hx hb dX3_reopen_84 hl (k := 0) rfl (nI_add i 1) (by decide) rfl (fun ls hl => ?_)
            refine lv_goto (tgt := 24) hx hb dX3_reopen_87 (by decide) ?_
            exact ih24 (i + 1) (nv (pg_num f (i * 48 + 1))) (nv (pg_num f (i * 48 + 5))) (by omega) (by omega) (ro_t ex (b2i_n0 c39) (Nat.lt_of_not_le c55)) (by omega) _ _ hP hD hS ls (lv_sub hl [0, 1] rfl)
  exact loop24 _ 0 0 1 (by omega) (by omega) (rfl) (Nat.lt_succ_self _) _ _ hP hD hS ls (lv_sub hl [0, 1] rfl)
set_option maxHeartbeats 4000000 in
set_option maxRecDepth 100000 in
theorem c_X3_poke (l : Launch) (D : va_G) (cI cZ : ClassId) (h0 hd hB hR hM hw hT hJ a tc nw ol : Nat) (f M t pl : Nat → Int32) (O : Prop) (lf us : Int32) (x y z : Int32) (ha : a ≤ 120) (h12 : 12 ≤ a) (htc : tc ≤ 32) (hnw : nw ≤ 1000000) (hol : ol ≤ nw + 1) : CtI l yX3_poke wsX3_poke ({ frames := 1, cells := 0, slots := 0, locals := 23 }) D vwCl (ct_T cI cZ) [.ref h0, .int x, .int y, .int z] [(h0, .inr (3, [.ref hd, .ref hR, .ref hw, .ref hT, .ref hJ, .int (nI tc), .int (nI nw), .int (nI ol)])), (hd, .inr (0, [.int (nI a), .ref hB])), (hB, .inl (cI, a * 48, .inl f)), (hR, .inr (2, [.ref hM])), (hM, .inl (cI, a, .inl M)), (hw, .inr (1, [.int (b2i O), .int lf, .int us])), (hT, .inl (cI, 32, .inl t)), (hJ, .inl (cI, 32, .inl pl))] [(h0, .inr (3, [.ref hd, .ref hR, .ref hw, .ref hT, .ref hJ, .int (nI tc), .int (nI nw), .int (nI ol)])), (hd, .inr (0, [.int (nI a), .ref hB])), (hB, .inl (cI, a * 48, .inl ((sp_poke f a x y z).2))), (hR, .inr (2, [.ref hM])), (hM, .inl (cI, a, .inl M)), (hw, .inr (1, [.int (b2i O), .int lf, .int us])), (hT, .inl (cI, 32, .inl t)), (hJ, .inl (cI, 32, .inl pl))] ((sp_poke f a x y z).1) := by
  refine ct_of (Qf := ct_Qi D vwCl [(h0, .inr (3, [.ref hd, .ref hR, .ref hw, .ref hT, .ref hJ, .int (nI tc), .int (nI nw), .int (nI ol)])), (hd, .inr (0, [.int (nI a), .ref hB])), (hB, .inl (cI, a * 48, .inl ((sp_poke f a x y z).2))), (hR, .inr (2, [.ref hM])), (hM, .inl (cI, a, .inl M)), (hw, .inr (1, [.int (b2i O), .int lf, .int us])), (hT, .inl (cI, 32, .inl t)), (hJ, .inl (cI, 32, .inl pl))] ((sp_poke f a x y z).1)) (cc := cX3_poke) (maxL := 4) (ret := (some .int)) [(0, .ref h0), (1, .int x), (2, .int y), (3, .int z)] (by decide) rfl (Nat.le_of_ble_eq_true rfl) rfl ?_
  intro p e s m below meth c hx hb hr hts hown hlocks hml hnm A hA hK hN hP hD hS ls hl
  have hown : s.vm.findClass RX3 = some m.cls := hown
  have hk0 := hts (.fieldLink RX3 23 "DesignPages" "disk" "LDesignPages$Pages;") (by decide +kernel)
  have hiX3 : ∀ w ∈ wsX30, w ∈ wsX3_poke := by decide +kernel
  refine lv_aload_n hx hb dX3_poke_0 rfl (lv_at hl 0 rfl) ?_
  refine va_get (D := D) (cl := vwCl) (ci := 3) (v := .ref hd) (C := RX3) (T := TX3) (N := 8) hx hb hts hiX3 hown hK hP 0 rfl rfl 0 (by decide) hk0 (fun _ h9 => h9) rfl dX3_poke_1 ?_
  refine lv_iload_n hx hb dX3_poke_4 rfl (lv_at hl 1 rfl) ?_
  refine lv_iload_n hx hb dX3_poke_5 rfl (lv_at hl 2 rfl) ?_
  refine ct_calli (w := [(hd, .inr (0, [.int (nI a), .ref hB])), (hB, .inl (cI, a * 48, .inl f))]) (w' := [(hd, .inr (0, [.int (nI a), .ref hB])), (hB, .inl (cI, a * 48, .inl f))]) (va_runV (As := [.int x, .int y]) (rest := []) ⟨hx, hb, hml, hown, hts⟩ (c_X0_has l D cI cZ hd hB a x y f _) (cwV 2 hts gX3_poke_X0_has rfl rfl rfl (by decide +kernel) ⟨Nat.le_of_ble_eq_true rfl, Nat.le_of_ble_eq_true rfl⟩) (ct_preV (w := [(hd, .inr (0, [.int (nI a), .ref hB])), (hB, .inl (cI, a * 48, .inl f))]) (ci := 0) (i0 := 1) hK hN hP hD [1, 2] (by decide) rfl rfl rfl) rfl rfl hl.1 rfl (lv_room (Nat.le_of_ble_eq_true rfl)) dX3_poke_6 ⟨Nat.le_of_ble_eq_true rfl, Nat.le_of_ble_eq_true rfl⟩) hP hD hS hA [1, 2] rfl [hd, hB] rfl rfl (fun H locs hP hD hS => ?_)
  have hP : va_P D vwCl [(h0, .inr (3, [.ref hd, .ref hR, .ref hw, .ref hT, .ref hJ, .int (nI tc), .int (nI nw), .int (nI ol)])), (hd, .inr (0, [.int (nI a), .ref hB])), (hB, .inl (cI, a * 48, .inl f)), (hR, .inr (2, [.ref hM])), (hM, .inl (cI, a, .inl M)), (hw, .inr (1, [.int (b2i O), .int lf, .int us])), (hT, .inl (cI, 32, .inl t)), (hJ, .inl (cI, 32, .inl pl))] _ := hP
  have hD : va_D A [(h0, .inr (3, [.ref hd, .ref hR, .ref hw, .ref hT, .ref hJ, .int (nI tc), .int (nI nw), .int (nI ol)])), (hd, .inr (0, [.int (nI a), .ref hB])), (hB, .inl (cI, a * 48, .inl f)), (hR, .inr (2, [.ref hM])), (hM, .inl (cI, a, .inl M)), (hw, .inr (1, [.int (b2i O), .int lf, .int us])), (hT, .inl (cI, 32, .inl t)), (hJ, .inl (cI, 32, .inl pl))] := hD
  refine lv_if_eq (tgt := 24) hx hb dX3_poke_9 (by decide) (fun c9 => ?_) (fun c9 => ?_)
  · skip
    refine lv_bipush (v := (-2)) hx hb dX3_poke_24 (by decide) ?_
    have e9 : sp_poke f a x y z = ((-2), f) := by unfold sp_poke; rw [ifp_f (fun h => b2i_0.mp c9 h.1)]
    exact ct_iret hx hb hr hlocks (by rw [e9]) (by rw [e9]) hP hD hS dX3_poke_26
  · skip
    refine lv_iload_n hx hb dX3_poke_12 rfl (lv_at hl 3 rfl) ?_
    refine lv_iconst (v := 1) hx hb dX3_poke_13 (by decide) ?_
    refine lv_icmp_lt (tgt := 24) hx hb dX3_poke_14 (by decide) (fun c14 => ?_) (fun c14 => ?_)
    · skip
      refine lv_bipush (v := (-2)) hx hb dX3_poke_24 (by decide) ?_
      have e9 : sp_poke f a x y z = ((-2), f) := by unfold sp_poke; rw [ifp_f (fun h => h.2.1 c14)]
      exact ct_iret hx hb hr hlocks (by rw [e9]) (by rw [e9]) hP hD hS dX3_poke_26
    · skip
      refine lv_iload_n hx hb dX3_poke_17 rfl (lv_at hl 3 rfl) ?_
      refine lv_sipush (v := 255) hx hb dX3_poke_18 (by decide) ?_
      refine lv_icmp_le (tgt := 27) hx hb dX3_poke_21 (by decide) (fun c21 => ?_) (fun c21 => ?_)
      · skip
        have g1 : hs a x y := b2i_n0 c9
        obtain ⟨q, i, hq, hi, rfl, rfl⟩ := hs_nat g1 (by omega)
        refine lv_aload_n hx hb dX3_poke_27 rfl (lv_at hl 0 rfl) ?_
        refine va_get (D := D) (cl := vwCl) (ci := 3) (v := .ref hd) (C := RX3) (T := TX3) (N := 8) hx hb hts hiX3 hown hK hP 0 rfl rfl 0 (by decide) hk0 (fun _ h9 => h9) rfl dX3_poke_28 ?_
        refine lv_iload_n hx hb dX3_poke_31 rfl (lv_at hl 1 rfl) ?_
        refine lv_iload_n hx hb dX3_poke_32 rfl (lv_at hl 2 rfl) ?_
        refine lv_aload_n hx hb dX3_poke_33 rfl (lv_at hl 0 rfl) ?_
        refine va_get (D := D) (cl := vwCl) (ci := 3) (v := .ref hd) (C := RX3) (T := TX3) (N := 8) hx hb hts hiX3 hown hK hP 0 rfl rfl 0 (by decide) hk0 (fun _ h9 => h9) rfl dX3_poke_34 ?_
        refine lv_iload_n hx hb dX3_poke_37 rfl (lv_at hl 1 rfl) ?_
        refine lv_iload_n hx hb dX3_poke_38 rfl (lv_at hl 2 rfl) ?_
        refine ct_calli (w := [(hd, .inr (0, [.int (nI a), .ref hB])), (hB, .inl (cI, a * 48, .inl f))]) (w' := [(hd, .inr (0, [.int (nI a), .ref hB])), (hB, .inl (cI, a * 48, .inl f))]) (va_runV (As := [.int (nI q), .int (nI i)]) (rest := [.int (nI i), .int (nI q), .ref hd]) ⟨hx, hb, hml, hown, hts⟩ (c_X0_at l D cI cZ hd hB a q i f (by omega) (by omega) (by omega) _) (cwV 2 hts gX3_poke_X0_at rfl rfl rfl (by decide +kernel) ⟨Nat.le_of_ble_eq_true rfl, Nat.le_of_ble_eq_true rfl⟩) (ct_preV (w := [(hd, .inr (0, [.int (nI a), .ref hB])), (hB, .inl (cI, a * 48, .inl f))]) (ci := 0) (i0 := 1) hK hN hP hD [1, 2] (by decide) rfl rfl rfl) rfl rfl hl.1 rfl (lv_room (Nat.le_of_ble_eq_true rfl)) dX3_poke_39 ⟨Nat.le_of_ble_eq_true rfl, Nat.le_of_ble_eq_true rfl⟩) hP hD hS hA [1, 2] rfl [hd, hB] rfl rfl (fun H locs hP hD hS => ?_)
        have hP : va_P D vwCl [(h0, .inr (3, [.ref hd, .ref hR, .ref hw, .ref hT, .ref hJ, .int (nI tc), .int (nI nw), .int (nI ol)])), (hd, .inr (0, [.int (nI a), .ref hB])), (hB, .inl (cI, a * 48, .inl f)), (hR, .inr (2, [.ref hM])), (hM, .inl (cI, a, .inl M)), (hw, .inr (1, [.int (b2i O), .int lf, .int us])), (hT, .inl (cI, 32, .inl t)), (hJ, .inl (cI, 32, .inl pl))] _ := hP
        have hD : va_D A [(h0, .inr (3, [.ref hd, .ref hR, .ref hw, .ref hT, .ref hJ, .int (nI tc), .int (nI nw), .int (nI ol)])), (hd, .inr (0, [.int (nI a), .ref hB])), (hB, .inl (cI, a * 48, .inl f)), (hR, .inr (2, [.ref hM])), (hM, .inl (cI, a, .inl M)), (hw, .inr (1, [.int (b2i O), .int lf, .int us])), (hT, .inl (cI, 32, .inl t)), (hJ, .inl (cI, 32, .inl pl))] := hD
        refine lv_iload_n hx hb dX3_poke_42 rfl (lv_at hl 3 rfl) ?_
        refine lv_ixor hx hb dX3_poke_43 ?_
        refine ct_callv (w := [(hd, .inr (0, [.int (nI a), .ref hB])), (hB, .inl (cI, a * 48, .inl f))]) (w' := [(hd, .inr (0, [.int (nI a), .ref hB])), (hB, .inl (cI, a * 48, .inl (upd f (q * 48 + i) ((f (q * 48 + i)) ^^^ z))))]) (va_runV (As := [.int (nI q), .int (nI i), .int ((f (q * 48 + i)) ^^^ z)]) (rest := []) ⟨hx, hb, hml, hown, hts⟩ (c_X0_set l D cI cZ hd hB a q i ((f (q * 48 + i)) ^^^ z) f (by omega) (by omega) (by omega) _) (cwV 3 hts gX3_poke_X0_set rfl rfl rfl (by decide +kernel) ⟨Nat.le_of_ble_eq_true rfl, Nat.le_of_ble_eq_true rfl⟩) (ct_preV (w := [(hd, .inr (0, [.int (nI a), .ref hB])), (hB, .inl (cI, a * 48, .inl f))]) (ci := 0) (i0 := 1) hK hN hP hD [1, 2] (by decide) rfl rfl rfl) rfl rfl hl.1 rfl (lv_room (Nat.le_of_ble_eq_true rfl)) dX3_poke_44 ⟨Nat.le_of_ble_eq_true rfl, Nat.le_of_ble_eq_true rfl⟩) hP hD hS hA [1, 2] rfl [hd, hB] rfl rfl (fun H locs hP hD hS => ?_)
        have hP : va_P D vwCl [(h0, .inr (3, [.ref hd, .ref hR, .ref hw, .ref hT, .ref hJ, .int (nI tc), .int (nI nw), .int (nI ol)])), (hd, .inr (0, [.int (nI a), .ref hB])), (hB, .inl (cI, a * 48, .inl (upd f (q * 48 + i) ((f (q * 48 + i)) ^^^ z)))), (hR, .inr (2, [.ref hM])), (hM, .inl (cI, a, .inl M)), (hw, .inr (1, [.int (b2i O), .int lf, .int us])), (hT, .inl (cI, 32, .inl t)), (hJ, .inl (cI, 32, .inl pl))] _ := hP
        have hD : va_D A [(h0, .inr (3, [.ref hd, .ref hR, .ref hw, .ref hT, .ref hJ, .int (nI tc), .int (nI nw), .int (nI ol)])), (hd, .inr (0, [.int (nI a), .ref hB])), (hB, .inl (cI, a * 48, .inl (upd f (q * 48 + i) ((f (q * 48 + i)) ^^^ z)))), (hR, .inr (2, [.ref hM])), (hM, .inl (cI, a, .inl M)), (hw, .inr (1, [.int (b2i O), .int lf, .int us])), (hT, .inl (cI, 32, .inl t)), (hJ, .inl (cI, 32, .inl pl))] := hD
        refine lv_aload_n hx hb dX3_poke_47 rfl (lv_at hl 0 rfl) ?_
        refine va_get (D := D) (cl := vwCl) (ci := 3) (v := .ref hd) (C := RX3) (T := TX3) (N := 8) hx hb hts hiX3 hown hK hP 0 rfl rfl 0 (by decide) hk0 (fun _ h9 => h9) rfl dX3_poke_48 ?_
        refine lv_iload_n hx hb dX3_poke_51 rfl (lv_at hl 1 rfl) ?_
        refine lv_iload_n hx hb dX3_poke_52 rfl (lv_at hl 2 rfl) ?_
        refine ct_calli (w := [(hd, .inr (0, [.int (nI a), .ref hB])), (hB, .inl (cI, a * 48, .inl (upd f (q * 48 + i) ((f (q * 48 + i)) ^^^ z))))]) (w' := [(hd, .inr (0, [.int (nI a), .ref hB])), (hB, .inl (cI, a * 48, .inl (upd f (q * 48 + i) ((f (q * 48 + i)) ^^^ z))))]) (va_runV (As := [.int (nI q), .int (nI i)]) (rest := []) ⟨hx, hb, hml, hown, hts⟩ (c_X0_at l D cI cZ hd hB a q i (upd f (q * 48 + i) ((f (q * 48 + i)) ^^^ z)) (by omega) (by omega) (by omega) _) (cwV 2 hts gX3_poke_X0_at rfl rfl rfl (by decide +kernel) ⟨Nat.le_of_ble_eq_true rfl, Nat.le_of_ble_eq_true rfl⟩) (ct_preV (w := [(hd, .inr (0, [.int (nI a), .ref hB])), (hB, .inl (cI, a * 48, .inl (upd f (q * 48 + i) ((f (q * 48 + i)) ^^^ z))))]) (ci := 0) (i0 := 1) hK hN hP hD [1, 2] (by decide) rfl rfl rfl) rfl rfl hl.1 rfl (lv_room (Nat.le_of_ble_eq_true rfl)) dX3_poke_53 ⟨Nat.le_of_ble_eq_true rfl, Nat.le_of_ble_eq_true rfl⟩) hP hD hS hA [1, 2] rfl [hd, hB] rfl rfl (fun H locs hP hD hS => ?_)
        have hP : va_P D vwCl [(h0, .inr (3, [.ref hd, .ref hR, .ref hw, .ref hT, .ref hJ, .int (nI tc), .int (nI nw), .int (nI ol)])), (hd, .inr (0, [.int (nI a), .ref hB])), (hB, .inl (cI, a * 48, .inl (upd f (q * 48 + i) ((f (q * 48 + i)) ^^^ z)))), (hR, .inr (2, [.ref hM])), (hM, .inl (cI, a, .inl M)), (hw, .inr (1, [.int (b2i O), .int lf, .int us])), (hT, .inl (cI, 32, .inl t)), (hJ, .inl (cI, 32, .inl pl))] _ := hP
        have hD : va_D A [(h0, .inr (3, [.ref hd, .ref hR, .ref hw, .ref hT, .ref hJ, .int (nI tc), .int (nI nw), .int (nI ol)])), (hd, .inr (0, [.int (nI a), .ref hB])), (hB, .inl (cI, a * 48, .inl (upd f (q * 48 + i) ((f (q * 48 + i)) ^^^ z)))), (hR, .inr (2, [.ref hM])), (hM, .inl (cI, a, .inl M)), (hw, .inr (1, [.int (b2i O), .int lf, .int us])), (hT, .inl (cI, 32, .inl t)), (hJ, .inl (cI, 32, .inl pl))] := hD
        have e9 : sp_poke f a (nI q) (nI i) z = ((upd f (q * 48 + i) ((f (q * 48 + i)) ^^^ z)) (q * 48 + i), upd f (q * 48 + i) ((f (q * 48 + i)) ^^^ z)) := by unfold sp_poke; rw [ifp_t ⟨g1, c14, Int32.not_lt.mpr c21⟩, nv_nI (by omega), nv_nI (by omega), pk_us]
        exact ct_iret hx hb hr hlocks (by rw [e9]) (by rw [e9]) hP hD hS dX3_poke_56
      · skip
        refine lv_bipush (v := (-2)) hx hb dX3_poke_24 (by decide) ?_
        have e9 : sp_poke f a x y z = ((-2), f) := by unfold sp_poke; rw [ifp_f (fun h => h.2.2 (Int32.not_le.mp c21))]
        exact ct_iret hx hb hr hlocks (by rw [e9]) (by rw [e9]) hP hD hS dX3_poke_26
set_option maxHeartbeats 4000000 in
set_option maxRecDepth 100000 in
theorem c_X3_byteAt (l : Launch) (D : va_G) (cI cZ : ClassId) (h0 hd hB hR hM hw hT hJ a tc nw ol : Nat) (f M t pl : Nat → Int32) (O : Prop) (lf us : Int32) (x y : Int32) (ha : a ≤ 120) (h12 : 12 ≤ a) (htc : tc ≤ 32) (hnw : nw ≤ 1000000) (hol : ol ≤ nw + 1) : CtI l yX3_byteAt wsX3_byteAt ({ frames := 1, cells := 0, slots := 0, locals := 22 }) D vwCl (ct_T cI cZ) [.ref h0, .int x, .int y] [(h0, .inr (3, [.ref hd, .ref hR, .ref hw, .ref hT, .ref hJ, .int (nI tc), .int (nI nw), .int (nI ol)])), (hd, .inr (0, [.int (nI a), .ref hB])), (hB, .inl (cI, a * 48, .inl f)), (hR, .inr (2, [.ref hM])), (hM, .inl (cI, a, .inl M)), (hw, .inr (1, [.int (b2i O), .int lf, .int us])), (hT, .inl (cI, 32, .inl t)), (hJ, .inl (cI, 32, .inl pl))] [(h0, .inr (3, [.ref hd, .ref hR, .ref hw, .ref hT, .ref hJ, .int (nI tc), .int (nI nw), .int (nI ol)])), (hd, .inr (0, [.int (nI a), .ref hB])), (hB, .inl (cI, a * 48, .inl f)), (hR, .inr (2, [.ref hM])), (hM, .inl (cI, a, .inl M)), (hw, .inr (1, [.int (b2i O), .int lf, .int us])), (hT, .inl (cI, 32, .inl t)), (hJ, .inl (cI, 32, .inl pl))] (sp_byte f a x y) := by
  refine ct_of (Qf := ct_Qi D vwCl [(h0, .inr (3, [.ref hd, .ref hR, .ref hw, .ref hT, .ref hJ, .int (nI tc), .int (nI nw), .int (nI ol)])), (hd, .inr (0, [.int (nI a), .ref hB])), (hB, .inl (cI, a * 48, .inl f)), (hR, .inr (2, [.ref hM])), (hM, .inl (cI, a, .inl M)), (hw, .inr (1, [.int (b2i O), .int lf, .int us])), (hT, .inl (cI, 32, .inl t)), (hJ, .inl (cI, 32, .inl pl))] (sp_byte f a x y)) (cc := cX3_byteAt) (maxL := 3) (ret := (some .int)) [(0, .ref h0), (1, .int x), (2, .int y)] (by decide) rfl (Nat.le_of_ble_eq_true rfl) rfl ?_
  intro p e s m below meth c hx hb hr hts hown hlocks hml hnm A hA hK hN hP hD hS ls hl
  have hown : s.vm.findClass RX3 = some m.cls := hown
  have hk0 := hts (.fieldLink RX3 23 "DesignPages" "disk" "LDesignPages$Pages;") (by decide +kernel)
  have hiX3 : ∀ w ∈ wsX30, w ∈ wsX3_byteAt := by decide +kernel
  refine lv_aload_n hx hb dX3_byteAt_0 rfl (lv_at hl 0 rfl) ?_
  refine va_get (D := D) (cl := vwCl) (ci := 3) (v := .ref hd) (C := RX3) (T := TX3) (N := 8) hx hb hts hiX3 hown hK hP 0 rfl rfl 0 (by decide) hk0 (fun _ h9 => h9) rfl dX3_byteAt_1 ?_
  refine lv_iload_n hx hb dX3_byteAt_4 rfl (lv_at hl 1 rfl) ?_
  refine lv_iload_n hx hb dX3_byteAt_5 rfl (lv_at hl 2 rfl) ?_
  refine ct_calli (w := [(hd, .inr (0, [.int (nI a), .ref hB])), (hB, .inl (cI, a * 48, .inl f))]) (w' := [(hd, .inr (0, [.int (nI a), .ref hB])), (hB, .inl (cI, a * 48, .inl f))]) (va_runV (As := [.int x, .int y]) (rest := []) ⟨hx, hb, hml, hown, hts⟩ (c_X0_has l D cI cZ hd hB a x y f _) (cwV 2 hts gX3_byteAt_X0_has rfl rfl rfl (by decide +kernel) ⟨Nat.le_of_ble_eq_true rfl, Nat.le_of_ble_eq_true rfl⟩) (ct_preV (w := [(hd, .inr (0, [.int (nI a), .ref hB])), (hB, .inl (cI, a * 48, .inl f))]) (ci := 0) (i0 := 1) hK hN hP hD [1, 2] (by decide) rfl rfl rfl) rfl rfl hl.1 rfl (lv_room (Nat.le_of_ble_eq_true rfl)) dX3_byteAt_6 ⟨Nat.le_of_ble_eq_true rfl, Nat.le_of_ble_eq_true rfl⟩) hP hD hS hA [1, 2] rfl [hd, hB] rfl rfl (fun H locs hP hD hS => ?_)
  have hP : va_P D vwCl [(h0, .inr (3, [.ref hd, .ref hR, .ref hw, .ref hT, .ref hJ, .int (nI tc), .int (nI nw), .int (nI ol)])), (hd, .inr (0, [.int (nI a), .ref hB])), (hB, .inl (cI, a * 48, .inl f)), (hR, .inr (2, [.ref hM])), (hM, .inl (cI, a, .inl M)), (hw, .inr (1, [.int (b2i O), .int lf, .int us])), (hT, .inl (cI, 32, .inl t)), (hJ, .inl (cI, 32, .inl pl))] _ := hP
  have hD : va_D A [(h0, .inr (3, [.ref hd, .ref hR, .ref hw, .ref hT, .ref hJ, .int (nI tc), .int (nI nw), .int (nI ol)])), (hd, .inr (0, [.int (nI a), .ref hB])), (hB, .inl (cI, a * 48, .inl f)), (hR, .inr (2, [.ref hM])), (hM, .inl (cI, a, .inl M)), (hw, .inr (1, [.int (b2i O), .int lf, .int us])), (hT, .inl (cI, 32, .inl t)), (hJ, .inl (cI, 32, .inl pl))] := hD
  refine lv_if_eq (tgt := 24) hx hb dX3_byteAt_9 (by decide) (fun c9 => ?_) (fun c9 => ?_)
  · skip
    refine lv_bipush (v := (-2)) hx hb dX3_byteAt_24 (by decide) ?_
    exact ct_iret hx hb hr hlocks (by unfold sp_byte; rw [ifp_f (P := hs a x y) (b2i_0.mp c9)]) (rfl) hP hD hS dX3_byteAt_26
  · skip
    have g1 : hs a x y := b2i_n0 c9
    obtain ⟨q, i, hq, hi, rfl, rfl⟩ := hs_nat g1 (by omega)
    refine lv_aload_n hx hb dX3_byteAt_12 rfl (lv_at hl 0 rfl) ?_
    refine va_get (D := D) (cl := vwCl) (ci := 3) (v := .ref hd) (C := RX3) (T := TX3) (N := 8) hx hb hts hiX3 hown hK hP 0 rfl rfl 0 (by decide) hk0 (fun _ h9 => h9) rfl dX3_byteAt_13 ?_
    refine lv_iload_n hx hb dX3_byteAt_16 rfl (lv_at hl 1 rfl) ?_
    refine lv_iload_n hx hb dX3_byteAt_17 rfl (lv_at hl 2 rfl) ?_
    refine ct_calli (w := [(hd, .inr (0, [.int (nI a), .ref hB])), (hB, .inl (cI, a * 48, .inl f))]) (w' := [(hd, .inr (0, [.int (nI a), .ref hB])), (hB, .inl (cI, a * 48, .inl f))]) (va_runV (As := [.int (nI q), .int (nI i)]) (rest := []) ⟨hx, hb, hml, hown, hts⟩ (c_X0_at l D cI cZ hd hB a q i f (by omega) (by omega) (by omega) _) (cwV 2 hts gX3_byteAt_X0_at rfl rfl rfl (by decide +kernel) ⟨Nat.le_of_ble_eq_true rfl, Nat.le_of_ble_eq_true rfl⟩) (ct_preV (w := [(hd, .inr (0, [.int (nI a), .ref hB])), (hB, .inl (cI, a * 48, .inl f))]) (ci := 0) (i0 := 1) hK hN hP hD [1, 2] (by decide) rfl rfl rfl) rfl rfl hl.1 rfl (lv_room (Nat.le_of_ble_eq_true rfl)) dX3_byteAt_18 ⟨Nat.le_of_ble_eq_true rfl, Nat.le_of_ble_eq_true rfl⟩) hP hD hS hA [1, 2] rfl [hd, hB] rfl rfl (fun H locs hP hD hS => ?_)
    have hP : va_P D vwCl [(h0, .inr (3, [.ref hd, .ref hR, .ref hw, .ref hT, .ref hJ, .int (nI tc), .int (nI nw), .int (nI ol)])), (hd, .inr (0, [.int (nI a), .ref hB])), (hB, .inl (cI, a * 48, .inl f)), (hR, .inr (2, [.ref hM])), (hM, .inl (cI, a, .inl M)), (hw, .inr (1, [.int (b2i O), .int lf, .int us])), (hT, .inl (cI, 32, .inl t)), (hJ, .inl (cI, 32, .inl pl))] _ := hP
    have hD : va_D A [(h0, .inr (3, [.ref hd, .ref hR, .ref hw, .ref hT, .ref hJ, .int (nI tc), .int (nI nw), .int (nI ol)])), (hd, .inr (0, [.int (nI a), .ref hB])), (hB, .inl (cI, a * 48, .inl f)), (hR, .inr (2, [.ref hM])), (hM, .inl (cI, a, .inl M)), (hw, .inr (1, [.int (b2i O), .int lf, .int us])), (hT, .inl (cI, 32, .inl t)), (hJ, .inl (cI, 32, .inl pl))] := hD
    refine lv_goto (tgt := 26) hx hb dX3_byteAt_21 (by decide) ?_
    exact ct_iret hx hb hr hlocks (by unfold sp_byte; rw [ifp_t g1, nv_nI (by omega), nv_nI (by omega)]) (rfl) hP hD hS dX3_byteAt_26
set_option maxHeartbeats 4000000 in
set_option maxRecDepth 100000 in
theorem c_X3_badAt (l : Launch) (D : va_G) (cI cZ : ClassId) (h0 hd hB hR hM hw hT hJ a tc nw ol : Nat) (f M t pl : Nat → Int32) (O : Prop) (lf us : Int32) (ha : a ≤ 120) (h12 : 12 ≤ a) (htc : tc ≤ 32) (hnw : nw ≤ 1000000) (hol : ol ≤ nw + 1) : CtI l yX3_badAt wsX3_badAt ({ frames := 5, cells := 0, slots := 0, locals := 116 }) D vwCl (ct_T cI cZ) [.ref h0] [(h0, .inr (3, [.ref hd, .ref hR, .ref hw, .ref hT, .ref hJ, .int (nI tc), .int (nI nw), .int (nI ol)])), (hd, .inr (0, [.int (nI a), .ref hB])), (hB, .inl (cI, a * 48, .inl f)), (hR, .inr (2, [.ref hM])), (hM, .inl (cI, a, .inl M)), (hw, .inr (1, [.int (b2i O), .int lf, .int us])), (hT, .inl (cI, 32, .inl t)), (hJ, .inl (cI, 32, .inl pl))] [(h0, .inr (3, [.ref hd, .ref hR, .ref hw, .ref hT, .ref hJ, .int (nI tc), .int (nI nw), .int (nI ol)])), (hd, .inr (0, [.int (nI a), .ref hB])), (hB, .inl (cI, a * 48, .inl f)), (hR, .inr (2, [.ref hM])), (hM, .inl (cI, a, .inl ((sp_bad O M f a ol nw).2))), (hw, .inr (1, [.int (b2i O), .int lf, .int us])), (hT, .inl (cI, 32, .inl t)), (hJ, .inl (cI, 32, .inl pl))] ((sp_bad O M f a ol nw).1) := by
  refine ct_of (Qf := ct_Qi D vwCl [(h0, .inr (3, [.ref hd, .ref hR, .ref hw, .ref hT, .ref hJ, .int (nI tc), .int (nI nw), .int (nI ol)])), (hd, .inr (0, [.int (nI a), .ref hB])), (hB, .inl (cI, a * 48, .inl f)), (hR, .inr (2, [.ref hM])), (hM, .inl (cI, a, .inl ((sp_bad O M f a ol nw).2))), (hw, .inr (1, [.int (b2i O), .int lf, .int us])), (hT, .inl (cI, 32, .inl t)), (hJ, .inl (cI, 32, .inl pl))] ((sp_bad O M f a ol nw).1)) (cc := cX3_badAt) (maxL := 1) (ret := (some .int)) [(0, .ref h0)] (by decide) rfl (Nat.le_of_ble_eq_true rfl) rfl ?_
  intro p e s m below meth c hx hb hr hts hown hlocks hml hnm A hA hK hN hP hD hS ls hl
  have hown : s.vm.findClass RX3 = some m.cls := hown
  have hk0 := hts (.fieldLink RX3 37 "DesignPages" "power" "LDesignPages$Power;") (by decide +kernel)
  have hk1 := hts (.fieldLink RX3 30 "DesignPages" "reach" "LDesignPages$Reach;") (by decide +kernel)
  have hk2 := hts (.fieldLink RX3 23 "DesignPages" "disk" "LDesignPages$Pages;") (by decide +kernel)
  have hk3 := hts (.fieldLink RX3 55 "DesignPages" "oldest" "I") (by decide +kernel)
  have hk4 := hts (.fieldLink RX3 52 "DesignPages" "newest" "I") (by decide +kernel)
  have hiX3 : ∀ w ∈ wsX30, w ∈ wsX3_badAt := by decide +kernel
  refine lv_aload_n hx hb dX3_badAt_0 rfl (lv_at hl 0 rfl) ?_
  refine va_get (D := D) (cl := vwCl) (ci := 3) (v := .ref hw) (C := RX3) (T := TX3) (N := 8) hx hb hts hiX3 hown hK hP 0 rfl rfl 2 (by decide) hk0 (fun _ h9 => h9) rfl dX3_badAt_1 ?_
  refine ct_calli (w := [(hw, .inr (1, [.int (b2i O), .int lf, .int us]))]) (w' := [(hw, .inr (1, [.int (b2i O), .int lf, .int us]))]) (va_runV (As := []) (rest := []) ⟨hx, hb, hml, hown, hts⟩ (c_X1_isOff l D cI cZ hw O lf us  _) (cwV 0 hts gX3_badAt_X1_isOff rfl rfl rfl (by decide +kernel) ⟨Nat.le_of_ble_eq_true rfl, Nat.le_of_ble_eq_true rfl⟩) (ct_preV (w := [(hw, .inr (1, [.int (b2i O), .int lf, .int us]))]) (ci := 1) (i0 := 5) hK hN hP hD [5] (by decide) rfl rfl rfl) rfl rfl hl.1 rfl (lv_room (Nat.le_of_ble_eq_true rfl)) dX3_badAt_4 ⟨Nat.le_of_ble_eq_true rfl, Nat.le_of_ble_eq_true rfl⟩) hP hD hS hA [5] rfl [hw] rfl rfl (fun H locs hP hD hS => ?_)
  have hP : va_P D vwCl [(h0, .inr (3, [.ref hd, .ref hR, .ref hw, .ref hT, .ref hJ, .int (nI tc), .int (nI nw), .int (nI ol)])), (hd, .inr (0, [.int (nI a), .ref hB])), (hB, .inl (cI, a * 48, .inl f)), (hR, .inr (2, [.ref hM])), (hM, .inl (cI, a, .inl M)), (hw, .inr (1, [.int (b2i O), .int lf, .int us])), (hT, .inl (cI, 32, .inl t)), (hJ, .inl (cI, 32, .inl pl))] _ := hP
  have hD : va_D A [(h0, .inr (3, [.ref hd, .ref hR, .ref hw, .ref hT, .ref hJ, .int (nI tc), .int (nI nw), .int (nI ol)])), (hd, .inr (0, [.int (nI a), .ref hB])), (hB, .inl (cI, a * 48, .inl f)), (hR, .inr (2, [.ref hM])), (hM, .inl (cI, a, .inl M)), (hw, .inr (1, [.int (b2i O), .int lf, .int us])), (hT, .inl (cI, 32, .inl t)), (hJ, .inl (cI, 32, .inl pl))] := hD
  refine lv_if_eq (tgt := 13) hx hb dX3_badAt_7 (by decide) (fun c7 => ?_) (fun c7 => ?_)
  · skip
    refine lv_aload_n hx hb dX3_badAt_13 rfl (lv_at hl 0 rfl) ?_
    refine va_get (D := D) (cl := vwCl) (ci := 3) (v := .ref hR) (C := RX3) (T := TX3) (N := 8) hx hb hts hiX3 hown hK hP 0 rfl rfl 1 (by decide) hk1 (fun _ h9 => h9) rfl dX3_badAt_14 ?_
    refine lv_aload_n hx hb dX3_badAt_17 rfl (lv_at hl 0 rfl) ?_
    refine va_get (D := D) (cl := vwCl) (ci := 3) (v := .ref hd) (C := RX3) (T := TX3) (N := 8) hx hb hts hiX3 hown hK hP 0 rfl rfl 0 (by decide) hk2 (fun _ h9 => h9) rfl dX3_badAt_18 ?_
    refine lv_aload_n hx hb dX3_badAt_21 rfl (lv_at hl 0 rfl) ?_
    refine va_get (D := D) (cl := vwCl) (ci := 3) (v := .int (nI ol)) (C := RX3) (T := TX3) (N := 8) hx hb hts hiX3 hown hK hP 0 rfl rfl 7 (by decide) hk3 (fun _ h9 => h9) rfl dX3_badAt_22 ?_
    refine lv_aload_n hx hb dX3_badAt_25 rfl (lv_at hl 0 rfl) ?_
    refine va_get (D := D) (cl := vwCl) (ci := 3) (v := .int (nI nw)) (C := RX3) (T := TX3) (N := 8) hx hb hts hiX3 hown hK hP 0 rfl rfl 6 (by decide) hk4 (fun _ h9 => h9) rfl dX3_badAt_26 ?_
    refine ct_callv (w := [(hR, .inr (2, [.ref hM])), (hM, .inl (cI, a, .inl M)), (hd, .inr (0, [.int (nI a), .ref hB])), (hB, .inl (cI, a * 48, .inl f))]) (w' := [(hR, .inr (2, [.ref hM])), (hM, .inl (cI, a, .inl (wk_marks f a ol (nw + 1 - ol)))), (hd, .inr (0, [.int (nI a), .ref hB])), (hB, .inl (cI, a * 48, .inl f))]) (va_runV (As := [.ref hd, .int (nI ol), .int (nI nw)]) (rest := []) ⟨hx, hb, hml, hown, hts⟩ (c_X2_walk l D cI cZ hR hM hd hB a ol nw M f (by omega) (by omega) (by omega) (by omega) _) (cwV 3 hts gX3_badAt_X2_walk rfl rfl rfl (by decide +kernel) ⟨Nat.le_of_ble_eq_true rfl, Nat.le_of_ble_eq_true rfl⟩) (ct_preV (w := [(hR, .inr (2, [.ref hM])), (hM, .inl (cI, a, .inl M)), (hd, .inr (0, [.int (nI a), .ref hB])), (hB, .inl (cI, a * 48, .inl f))]) (ci := 2) (i0 := 3) hK hN hP hD [3, 4, 1, 2] (by decide) rfl rfl rfl) rfl rfl hl.1 rfl (lv_room (Nat.le_of_ble_eq_true rfl)) dX3_badAt_29 ⟨Nat.le_of_ble_eq_true rfl, Nat.le_of_ble_eq_true rfl⟩) hP hD hS hA [3, 4, 1, 2] rfl [hR, hM, hd, hB] rfl rfl (fun H locs hP hD hS => ?_)
    have hP : va_P D vwCl [(h0, .inr (3, [.ref hd, .ref hR, .ref hw, .ref hT, .ref hJ, .int (nI tc), .int (nI nw), .int (nI ol)])), (hd, .inr (0, [.int (nI a), .ref hB])), (hB, .inl (cI, a * 48, .inl f)), (hR, .inr (2, [.ref hM])), (hM, .inl (cI, a, .inl (wk_marks f a ol (nw + 1 - ol)))), (hw, .inr (1, [.int (b2i O), .int lf, .int us])), (hT, .inl (cI, 32, .inl t)), (hJ, .inl (cI, 32, .inl pl))] _ := hP
    have hD : va_D A [(h0, .inr (3, [.ref hd, .ref hR, .ref hw, .ref hT, .ref hJ, .int (nI tc), .int (nI nw), .int (nI ol)])), (hd, .inr (0, [.int (nI a), .ref hB])), (hB, .inl (cI, a * 48, .inl f)), (hR, .inr (2, [.ref hM])), (hM, .inl (cI, a, .inl (wk_marks f a ol (nw + 1 - ol)))), (hw, .inr (1, [.int (b2i O), .int lf, .int us])), (hT, .inl (cI, 32, .inl t)), (hJ, .inl (cI, 32, .inl pl))] := hD
    refine lv_aload_n hx hb dX3_badAt_32 rfl (lv_at hl 0 rfl) ?_
    refine va_get (D := D) (cl := vwCl) (ci := 3) (v := .ref hR) (C := RX3) (T := TX3) (N := 8) hx hb hts hiX3 hown hK hP 0 rfl rfl 1 (by decide) hk1 (fun _ h9 => h9) rfl dX3_badAt_33 ?_
    refine ct_calli (w := [(hR, .inr (2, [.ref hM])), (hM, .inl (cI, a, .inl (wk_marks f a ol (nw + 1 - ol))))]) (w' := [(hR, .inr (2, [.ref hM])), (hM, .inl (cI, a, .inl (wk_marks f a ol (nw + 1 - ol))))]) (va_runV (As := []) (rest := []) ⟨hx, hb, hml, hown, hts⟩ (c_X2_leastBad l D cI cZ hR hM a (wk_marks f a ol (nw + 1 - ol))  (by omega) _) (cwV 0 hts gX3_badAt_X2_leastBad rfl rfl rfl (by decide +kernel) ⟨Nat.le_of_ble_eq_true rfl, Nat.le_of_ble_eq_true rfl⟩) (ct_preV (w := [(hR, .inr (2, [.ref hM])), (hM, .inl (cI, a, .inl (wk_marks f a ol (nw + 1 - ol))))]) (ci := 2) (i0 := 3) hK hN hP hD [3, 4] (by decide) rfl rfl rfl) rfl rfl hl.1 rfl (lv_room (Nat.le_of_ble_eq_true rfl)) dX3_badAt_36 ⟨Nat.le_of_ble_eq_true rfl, Nat.le_of_ble_eq_true rfl⟩) hP hD hS hA [3, 4] rfl [hR, hM] rfl rfl (fun H locs hP hD hS => ?_)
    have hP : va_P D vwCl [(h0, .inr (3, [.ref hd, .ref hR, .ref hw, .ref hT, .ref hJ, .int (nI tc), .int (nI nw), .int (nI ol)])), (hd, .inr (0, [.int (nI a), .ref hB])), (hB, .inl (cI, a * 48, .inl f)), (hR, .inr (2, [.ref hM])), (hM, .inl (cI, a, .inl (wk_marks f a ol (nw + 1 - ol)))), (hw, .inr (1, [.int (b2i O), .int lf, .int us])), (hT, .inl (cI, 32, .inl t)), (hJ, .inl (cI, 32, .inl pl))] _ := hP
    have hD : va_D A [(h0, .inr (3, [.ref hd, .ref hR, .ref hw, .ref hT, .ref hJ, .int (nI tc), .int (nI nw), .int (nI ol)])), (hd, .inr (0, [.int (nI a), .ref hB])), (hB, .inl (cI, a * 48, .inl f)), (hR, .inr (2, [.ref hM])), (hM, .inl (cI, a, .inl (wk_marks f a ol (nw + 1 - ol)))), (hw, .inr (1, [.int (b2i O), .int lf, .int us])), (hT, .inl (cI, 32, .inl t)), (hJ, .inl (cI, 32, .inl pl))] := hD
    have e9 : sp_bad O M f a ol nw = (fd (fun p => ¬ (wk_marks f a ol (nw + 1 - ol)) p &&& 1 = 0) a 0, wk_marks f a ol (nw + 1 - ol)) := by unfold sp_bad; rw [ifp_f (b2i_0.mp c7)]; rfl
    exact ct_iret hx hb hr hlocks (by rw [e9]) (by rw [e9]) hP hD hS dX3_badAt_39
  · skip
    refine lv_bipush (v := (-5)) hx hb dX3_badAt_10 (by decide) ?_
    have e9 : sp_bad O M f a ol nw = ((-5), M) := by unfold sp_bad; rw [ifp_t (b2i_n0 c7)]
    exact ct_iret hx hb hr hlocks (by rw [e9]) (by rw [e9]) hP hD hS dX3_badAt_12
set_option maxHeartbeats 4000000 in
set_option maxRecDepth 100000 in
theorem c_X3_keysOfNewest (l : Launch) (D : va_G) (cI cZ : ClassId) (h0 hd hB hR hM hw hT hJ a tc nw ol : Nat) (f M t pl : Nat → Int32) (O : Prop) (lf us : Int32) (ha : a ≤ 120) (h12 : 12 ≤ a) (htc : tc ≤ 32) (hnw : nw ≤ 1000000) (hol : ol ≤ nw + 1) : CtI l yX3_keysOfNewest wsX3_keysOfNewest ({ frames := 3, cells := 0, slots := 0, locals := 69 }) D vwCl (ct_T cI cZ) [.ref h0] [(h0, .inr (3, [.ref hd, .ref hR, .ref hw, .ref hT, .ref hJ, .int (nI tc), .int (nI nw), .int (nI ol)])), (hd, .inr (0, [.int (nI a), .ref hB])), (hB, .inl (cI, a * 48, .inl f)), (hR, .inr (2, [.ref hM])), (hM, .inl (cI, a, .inl M)), (hw, .inr (1, [.int (b2i O), .int lf, .int us])), (hT, .inl (cI, 32, .inl t)), (hJ, .inl (cI, 32, .inl pl))] [(h0, .inr (3, [.ref hd, .ref hR, .ref hw, .ref hT, .ref hJ, .int (nI tc), .int (nI nw), .int (nI ol)])), (hd, .inr (0, [.int (nI a), .ref hB])), (hB, .inl (cI, a * 48, .inl f)), (hR, .inr (2, [.ref hM])), (hM, .inl (cI, a, .inl M)), (hw, .inr (1, [.int (b2i O), .int lf, .int us])), (hT, .inl (cI, 32, .inl t)), (hJ, .inl (cI, 32, .inl pl))] (nI (sp_keys f a nw)) := by
  refine ct_of (Qf := ct_Qi D vwCl [(h0, .inr (3, [.ref hd, .ref hR, .ref hw, .ref hT, .ref hJ, .int (nI tc), .int (nI nw), .int (nI ol)])), (hd, .inr (0, [.int (nI a), .ref hB])), (hB, .inl (cI, a * 48, .inl f)), (hR, .inr (2, [.ref hM])), (hM, .inl (cI, a, .inl M)), (hw, .inr (1, [.int (b2i O), .int lf, .int us])), (hT, .inl (cI, 32, .inl t)), (hJ, .inl (cI, 32, .inl pl))] (nI (sp_keys f a nw))) (cc := cX3_keysOfNewest) (maxL := 5) (ret := (some .int)) [(0, .ref h0)] (by decide) rfl (Nat.le_of_ble_eq_true rfl) rfl ?_
  intro p e s m below meth c hx hb hr hts hown hlocks hml hnm A hA hK hN hP hD hS ls hl
  have hown : s.vm.findClass RX3 = some m.cls := hown
  have hk0 := hts (.fieldLink RX3 52 "DesignPages" "newest" "I") (by decide +kernel)
  have hk1 := hts (.fieldLink RX3 23 "DesignPages" "disk" "LDesignPages$Pages;") (by decide +kernel)
  have hiX3 : ∀ w ∈ wsX30, w ∈ wsX3_keysOfNewest := by decide +kernel
  refine lv_aload_n hx hb dX3_keysOfNewest_0 rfl (lv_at hl 0 rfl) ?_
  refine va_get (D := D) (cl := vwCl) (ci := 3) (v := .int (nI nw)) (C := RX3) (T := TX3) (N := 8) hx hb hts hiX3 hown hK hP 0 rfl rfl 6 (by decide) hk0 (fun _ h9 => h9) rfl dX3_keysOfNewest_1 ?_
  refine ct_calli (w := []) (w' := []) (va_runS (As := [.int (nI nw)]) (rest := []) ⟨hx, hb, hml, hown, hts⟩ (c_X3_pageOfRoot l D cI cZ (nI nw) _) (va_cwS 1 hts gX3_keysOfNewest_X3_pageOfRoot rfl rfl rfl (by decide +kernel) ⟨Nat.le_of_ble_eq_true rfl, Nat.le_of_ble_eq_true rfl⟩) (ct_preS (w := []) hK hN hP hD [] (by decide) rfl) rfl rfl hl.1 rfl (lv_room (Nat.le_of_ble_eq_true rfl)) dX3_keysOfNewest_4 ⟨Nat.le_of_ble_eq_true rfl, Nat.le_of_ble_eq_true rfl⟩) hP hD hS hA [] rfl [] rfl rfl (fun H locs hP hD hS => ?_)
  have hP : va_P D vwCl [(h0, .inr (3, [.ref hd, .ref hR, .ref hw, .ref hT, .ref hJ, .int (nI tc), .int (nI nw), .int (nI ol)])), (hd, .inr (0, [.int (nI a), .ref hB])), (hB, .inl (cI, a * 48, .inl f)), (hR, .inr (2, [.ref hM])), (hM, .inl (cI, a, .inl M)), (hw, .inr (1, [.int (b2i O), .int lf, .int us])), (hT, .inl (cI, 32, .inl t)), (hJ, .inl (cI, 32, .inl pl))] _ := hP
  have hD : va_D A [(h0, .inr (3, [.ref hd, .ref hR, .ref hw, .ref hT, .ref hJ, .int (nI tc), .int (nI nw), .int (nI ol)])), (hd, .inr (0, [.int (nI a), .ref hB])), (hB, .inl (cI, a * 48, .inl f)), (hR, .inr (2, [.ref hM])), (hM, .inl (cI, a, .inl M)), (hw, .inr (1, [.int (b2i O), .int lf, .int us])), (hT, .inl (cI, 32, .inl t)), (hJ, .inl (cI, 32, .inl pl))] := hD
  refine ct_top (y := nI (nw % 8)) (pk_rem (by omega) (by decide) (by decide)) ?_
  refine lv_istore_n (lv' := [(1, .int (nI (nw % 8))), (0, .ref h0)]) hx hb dX3_keysOfNewest_7 rfl hl (by decide) rfl (fun ls hl => ?_)
  refine lv_aload_n hx hb dX3_keysOfNewest_8 rfl (lv_at hl 1 rfl) ?_
  refine va_get (D := D) (cl := vwCl) (ci := 3) (v := .int (nI nw)) (C := RX3) (T := TX3) (N := 8) hx hb hts hiX3 hown hK hP 0 rfl rfl 6 (by decide) hk0 (fun _ h9 => h9) rfl dX3_keysOfNewest_9 ?_
  refine lv_if_eq (tgt := 27) hx hb dX3_keysOfNewest_12 (by decide) (fun c12 => ?_) (fun c12 => ?_)
  · skip
    have c12 : nw = 0 := (nI_eq (a := nw) (b := 0) (by omega) (by omega)).mp c12
    refine lv_iconst (v := 0) hx hb dX3_keysOfNewest_27 (by decide) ?_
    exact ct_iret hx hb hr hlocks (by unfold sp_keys; rw [ifp_t (Or.inl c12)]; rfl) (rfl) hP hD hS dX3_keysOfNewest_28
  · skip
    have c12 : ¬ nw = 0 := fun h => c12 ((nI_eq (a := nw) (b := 0) (by omega) (by omega)).mpr h)
    refine lv_aload_n hx hb dX3_keysOfNewest_15 rfl (lv_at hl 1 rfl) ?_
    refine va_get (D := D) (cl := vwCl) (ci := 3) (v := .ref hd) (C := RX3) (T := TX3) (N := 8) hx hb hts hiX3 hown hK hP 0 rfl rfl 0 (by decide) hk1 (fun _ h9 => h9) rfl dX3_keysOfNewest_16 ?_
    refine lv_iload_n hx hb dX3_keysOfNewest_19 rfl (lv_at hl 0 rfl) ?_
    refine lv_iconst (v := 1) hx hb dX3_keysOfNewest_20 (by decide) ?_
    refine ct_calli (w := [(hd, .inr (0, [.int (nI a), .ref hB])), (hB, .inl (cI, a * 48, .inl f))]) (w' := [(hd, .inr (0, [.int (nI a), .ref hB])), (hB, .inl (cI, a * 48, .inl f))]) (va_runV (As := [.int (nI (nw % 8)), .int 1]) (rest := []) ⟨hx, hb, hml, hown, hts⟩ (c_X0_isRight l D cI cZ hd hB a (nw % 8) 1 f (by omega) (by omega) _) (cwV 2 hts gX3_keysOfNewest_X0_isRight rfl rfl rfl (by decide +kernel) ⟨Nat.le_of_ble_eq_true rfl, Nat.le_of_ble_eq_true rfl⟩) (ct_preV (w := [(hd, .inr (0, [.int (nI a), .ref hB])), (hB, .inl (cI, a * 48, .inl f))]) (ci := 0) (i0 := 1) hK hN hP hD [1, 2] (by decide) rfl rfl rfl) rfl rfl hl.1 rfl (lv_room (Nat.le_of_ble_eq_true rfl)) dX3_keysOfNewest_21 ⟨Nat.le_of_ble_eq_true rfl, Nat.le_of_ble_eq_true rfl⟩) hP hD hS hA [1, 2] rfl [hd, hB] rfl rfl (fun H locs hP hD hS => ?_)
    have hP : va_P D vwCl [(h0, .inr (3, [.ref hd, .ref hR, .ref hw, .ref hT, .ref hJ, .int (nI tc), .int (nI nw), .int (nI ol)])), (hd, .inr (0, [.int (nI a), .ref hB])), (hB, .inl (cI, a * 48, .inl f)), (hR, .inr (2, [.ref hM])), (hM, .inl (cI, a, .inl M)), (hw, .inr (1, [.int (b2i O), .int lf, .int us])), (hT, .inl (cI, 32, .inl t)), (hJ, .inl (cI, 32, .inl pl))] _ := hP
    have hD : va_D A [(h0, .inr (3, [.ref hd, .ref hR, .ref hw, .ref hT, .ref hJ, .int (nI tc), .int (nI nw), .int (nI ol)])), (hd, .inr (0, [.int (nI a), .ref hB])), (hB, .inl (cI, a * 48, .inl f)), (hR, .inr (2, [.ref hM])), (hM, .inl (cI, a, .inl M)), (hw, .inr (1, [.int (b2i O), .int lf, .int us])), (hT, .inl (cI, 32, .inl t)), (hJ, .inl (cI, 32, .inl pl))] := hD
    refine lv_if_ne (tgt := 29) hx hb dX3_keysOfNewest_24 (by decide) (fun c24 => ?_) (fun c24 => ?_)
    · skip
      refine lv_iconst (v := 0) hx hb dX3_keysOfNewest_29 (by decide) ?_
      refine lv_istore_n (lv' := [(2, .int 0), (1, .int (nI (nw % 8))), (0, .ref h0)]) hx hb dX3_keysOfNewest_30 rfl hl (by decide) rfl (fun ls hl => ?_)
      refine lv_iconst (v := 0) hx hb dX3_keysOfNewest_31 (by decide) ?_
      refine lv_istore_n (lv' := [(3, .int 0), (2, .int 0), (1, .int (nI (nw % 8))), (0, .ref h0)]) hx hb dX3_keysOfNewest_32 rfl hl (by decide) rfl (fun ls hl => ?_)
      have loop33 : ∀ (n33 : Nat) (i k : Nat), i ≤ 32 → k = ks_sum f a (nw % 8) i → 32 - i < n33 → ∀ (H : Heap) (locs : List Loc), va_P D vwCl [(h0, .inr (3, [.ref hd, .ref hR, .ref hw, .ref hT, .ref hJ, .int (nI tc), .int (nI nw), .int (nI ol)])), (hd, .inr (0, [.int (nI a), .ref hB])), (hB, .inl (cI, a * 48, .inl f)), (hR, .inr (2, [.ref hM])), (hM, .inl (cI, a, .inl M)), (hw, .inr (1, [.int (b2i O), .int lf, .int us])), (hT, .inl (cI, 32, .inl t)), (hJ, .inl (cI, 32, .inl pl))] H → va_D A [(h0, .inr (3, [.ref hd, .ref hR, .ref hw, .ref hT, .ref hJ, .int (nI tc), .int (nI nw), .int (nI ol)])), (hd, .inr (0, [.int (nI a), .ref hB])), (hB, .inl (cI, a * 48, .inl f)), (hR, .inr (2, [.ref hM])), (hM, .inl (cI, a, .inl M)), (hw, .inr (1, [.int (b2i O), .int lf, .int us])), (hT, .inl (cI, 32, .inl t)), (hJ, .inl (cI, 32, .inl pl))] → va_S A s.heap H locs → ∀ (ls : Array Slot), lv_has ls 5 [(3, .int (nI i)), (2, .int (nI k)), (1, .int (nI (nw % 8))), (0, .ref h0)] → W p l e ({ frames := 3, cells := 0, slots := 0, locals := 69 }) s m ([.ref h0] : List Value).toArray below meth c H locs 0 0 (MQ below (ct_Qi D vwCl [(h0, .inr (3, [.ref hd, .ref hR, .ref hw, .ref hT, .ref hJ, .int (nI tc), .int (nI nw), .int (nI ol)])), (hd, .inr (0, [.int (nI a), .ref hB])), (hB, .inl (cI, a * 48, .inl f)), (hR, .inr (2, [.ref hM])), (hM, .inl (cI, a, .inl M)), (hw, .inr (1, [.int (b2i O), .int lf, .int us])), (hT, .inl (cI, 32, .inl t)), (hJ, .inl (cI, 32, .inl pl))] (nI (sp_keys f a nw)) A) ([.ref h0] : List Value).toArray s 0 0 A) (F0 m 33 ls []) := by
        intro n33
        induction n33 with
        | zero =>
          intro i k _ _ hm
          exact absurd hm (Nat.not_lt_zero _)
        | succ n33 ih33 =>
          intro i k hi ex hm33 H locs hP hD hS ls hl
          refine lv_iload_n hx hb dX3_keysOfNewest_33 rfl (lv_at hl 0 rfl) ?_
          refine lv_bipush (v := 32) hx hb dX3_keysOfNewest_34 (by decide) ?_
          refine lv_icmp_ge (tgt := 92) hx hb dX3_keysOfNewest_36 (by decide) (fun c36 => ?_) (fun c36 => ?_)
          · skip
            have c36 : 32 ≤ i := (nI_leI (a := 32) (b := i) (by omega) (by omega)).mp c36
            refine lv_iload_n hx hb dX3_keysOfNewest_92 rfl (lv_at hl 1 rfl) ?_
            exact ct_iret hx hb hr hlocks (by unfold sp_keys; rw [ifp_f (fun h => h.elim c12 (fun h => h (b2i_n0 c24))), ex, show i = 32 by omega]) (rfl) hP hD hS dX3_keysOfNewest_93
          · skip
            have c36 : ¬ 32 ≤ i := fun h => c36 ((nI_leI (a := 32) (b := i) (by omega) (by omega)).mpr h)
            refine lv_aload_n hx hb dX3_keysOfNewest_39 rfl (lv_at hl 3 rfl) ?_
            refine va_get (D := D) (cl := vwCl) (ci := 3) (v := .ref hd) (C := RX3) (T := TX3) (N := 8) hx hb hts hiX3 hown hK hP 0 rfl rfl 0 (by decide) hk1 (fun _ h9 => h9) rfl dX3_keysOfNewest_40 ?_
            refine lv_iload_n hx hb dX3_keysOfNewest_43 rfl (lv_at hl 2 rfl) ?_
            refine lv_bipush (v := 9) hx hb dX3_keysOfNewest_44 (by decide) ?_
            refine lv_iload_n hx hb dX3_keysOfNewest_46 rfl (lv_at hl 0 rfl) ?_
            refine lv_iadd hx hb dX3_keysOfNewest_47 ?_
            refine ct_top (y := nI (9 + i)) (nI_add 9 i) ?_
            refine ct_calli (w := [(hd, .inr (0, [.int (nI a), .ref hB])), (hB, .inl (cI, a * 48, .inl f))]) (w' := [(hd, .inr (0, [.int (nI a), .ref hB])), (hB, .inl (cI, a * 48, .inl f))]) (va_runV (As := [.int (nI (nw % 8)), .int (nI (9 + i))]) (rest := []) ⟨hx, hb, hml, hown, hts⟩ (c_X0_at l D cI cZ hd hB a (nw % 8) (9 + i) f (by omega) (by omega) (by omega) _) (cwV 2 hts gX3_keysOfNewest_X0_at rfl rfl rfl (by decide +kernel) ⟨Nat.le_of_ble_eq_true rfl, Nat.le_of_ble_eq_true rfl⟩) (ct_preV (w := [(hd, .inr (0, [.int (nI a), .ref hB])), (hB, .inl (cI, a * 48, .inl f))]) (ci := 0) (i0 := 1) hK hN hP hD [1, 2] (by decide) rfl rfl rfl) rfl rfl hl.1 rfl (lv_room (Nat.le_of_ble_eq_true rfl)) dX3_keysOfNewest_48 ⟨Nat.le_of_ble_eq_true rfl, Nat.le_of_ble_eq_true rfl⟩) hP hD hS hA [1, 2] rfl [hd, hB] rfl rfl (fun H locs hP hD hS => ?_)
            have hP : va_P D vwCl [(h0, .inr (3, [.ref hd, .ref hR, .ref hw, .ref hT, .ref hJ, .int (nI tc), .int (nI nw), .int (nI ol)])), (hd, .inr (0, [.int (nI a), .ref hB])), (hB, .inl (cI, a * 48, .inl f)), (hR, .inr (2, [.ref hM])), (hM, .inl (cI, a, .inl M)), (hw, .inr (1, [.int (b2i O), .int lf, .int us])), (hT, .inl (cI, 32, .inl t)), (hJ, .inl (cI, 32, .inl pl))] _ := hP
            have hD : va_D A [(h0, .inr (3, [.ref hd, .ref hR, .ref hw, .ref hT, .ref hJ, .int (nI tc), .int (nI nw), .int (nI ol)])), (hd, .inr (0, [.int (nI a), .ref hB])), (hB, .inl (cI, a * 48, .inl f)), (hR, .inr (2, [.ref hM])), (hM, .inl (cI, a, .inl M)), (hw, .inr (1, [.int (b2i O), .int lf, .int us])), (hT, .inl (cI, 32, .inl t)), (hJ, .inl (cI, 32, .inl pl))] := hD
            have hn1 := rt_nv (i := i) (b2i_n0 c24) ha (by omega) (by omega)
            have hn2 := hn1.2.1
            refine ct_top (y := nI (nv (f (nw % 8 * 48 + (9 + i))))) (hn1.1) ?_
            refine lv_istore (lv' := [(4, .int (nI (nv (f (nw % 8 * 48 + (9 + i)))))), (3, .int (nI i)), (2, .int (nI k)), (1, .int (nI (nw % 8))), (0, .ref h0)]) hx hb dX3_keysOfNewest_51 hl (by decide) rfl (fun ls hl => ?_)
            refine lv_iload hx hb dX3_keysOfNewest_53 (lv_at hl 0 rfl) ?_
            refine lv_if_eq (tgt := 86) hx hb dX3_keysOfNewest_55 (by decide) (fun c55 => ?_) (fun c55 => ?_)
            · skip
              have c55 : (nv (f (nw % 8 * 48 + (9 + i)))) = 0 := (nI_eq (a := (nv (f (nw % 8 * 48 + (9 + i))))) (b := 0) (by omega) (by omega)).mp c55
              refine lv_iinc (v := nI (i + 1)) (lv' := [(3, .int (nI (i + 1))), (4, .int (nI (nv (f (nw % 8 * 48 + (9 + i)))))), (2, .int (nI k)), (1, .int (nI (nw % 8))), (0, .ref h0)]) hx hb dX3_keysOfNewest_86 hl (k := 1) rfl (nI_add i 1) (by decide) rfl (fun ls hl => ?_)
              refine lv_goto (tgt := 33) hx hb dX3_keysOfNewest_89 (by decide) ?_
              exact ih33 (i + 1) k (by omega) (by rw [ks_sum, ifp_f (fun h => h.1 ((nv_0 hn1.1).mp c55))]; omega) (by omega) _ _ hP hD hS ls (lv_sub hl [0, 2, 3, 4] rfl)
            · skip
              have c55 : ¬ (nv (f (nw % 8 * 48 + (9 + i)))) = 0 := fun h => c55 ((nI_eq (a := (nv (f (nw % 8 * 48 + (9 + i))))) (b := 0) (by omega) (by omega)).mpr h)
              refine lv_aload_n hx hb dX3_keysOfNewest_58 rfl (lv_at hl 4 rfl) ?_
              refine va_get (D := D) (cl := vwCl) (ci := 3) (v := .ref hd) (C := RX3) (T := TX3) (N := 8) hx hb hts hiX3 hown hK hP 0 rfl rfl 0 (by decide) hk1 (fun _ h9 => h9) rfl dX3_keysOfNewest_59 ?_
              refine lv_iload hx hb dX3_keysOfNewest_62 (lv_at hl 0 rfl) ?_
              refine lv_iconst (v := 2) hx hb dX3_keysOfNewest_64 (by decide) ?_
              refine ct_calli (w := [(hd, .inr (0, [.int (nI a), .ref hB])), (hB, .inl (cI, a * 48, .inl f))]) (w' := [(hd, .inr (0, [.int (nI a), .ref hB])), (hB, .inl (cI, a * 48, .inl f))]) (va_runV (As := [.int (nI (nv (f (nw % 8 * 48 + (9 + i))))), .int 2]) (rest := []) ⟨hx, hb, hml, hown, hts⟩ (c_X0_isRight l D cI cZ hd hB a (nv (f (nw % 8 * 48 + (9 + i)))) 2 f (by omega) (by omega) _) (cwV 2 hts gX3_keysOfNewest_X0_isRight rfl rfl rfl (by decide +kernel) ⟨Nat.le_of_ble_eq_true rfl, Nat.le_of_ble_eq_true rfl⟩) (ct_preV (w := [(hd, .inr (0, [.int (nI a), .ref hB])), (hB, .inl (cI, a * 48, .inl f))]) (ci := 0) (i0 := 1) hK hN hP hD [1, 2] (by decide) rfl rfl rfl) rfl rfl hl.1 rfl (lv_room (Nat.le_of_ble_eq_true rfl)) dX3_keysOfNewest_65 ⟨Nat.le_of_ble_eq_true rfl, Nat.le_of_ble_eq_true rfl⟩) hP hD hS hA [1, 2] rfl [hd, hB] rfl rfl (fun H locs hP hD hS => ?_)
              have hP : va_P D vwCl [(h0, .inr (3, [.ref hd, .ref hR, .ref hw, .ref hT, .ref hJ, .int (nI tc), .int (nI nw), .int (nI ol)])), (hd, .inr (0, [.int (nI a), .ref hB])), (hB, .inl (cI, a * 48, .inl f)), (hR, .inr (2, [.ref hM])), (hM, .inl (cI, a, .inl M)), (hw, .inr (1, [.int (b2i O), .int lf, .int us])), (hT, .inl (cI, 32, .inl t)), (hJ, .inl (cI, 32, .inl pl))] _ := hP
              have hD : va_D A [(h0, .inr (3, [.ref hd, .ref hR, .ref hw, .ref hT, .ref hJ, .int (nI tc), .int (nI nw), .int (nI ol)])), (hd, .inr (0, [.int (nI a), .ref hB])), (hB, .inl (cI, a * 48, .inl f)), (hR, .inr (2, [.ref hM])), (hM, .inl (cI, a, .inl M)), (hw, .inr (1, [.int (b2i O), .int lf, .int us])), (hT, .inl (cI, 32, .inl t)), (hJ, .inl (cI, 32, .inl pl))] := hD
              refine lv_if_eq (tgt := 86) hx hb dX3_keysOfNewest_68 (by decide) (fun c68 => ?_) (fun c68 => ?_)
              · skip
                refine lv_iinc (v := nI (i + 1)) (lv' := [(3, .int (nI (i + 1))), (4, .int (nI (nv (f (nw % 8 * 48 + (9 + i)))))), (2, .int (nI k)), (1, .int (nI (nw % 8))), (0, .ref h0)]) hx hb dX3_keysOfNewest_86 hl (k := 1) rfl (nI_add i 1) (by decide) rfl (fun ls hl => ?_)
                refine lv_goto (tgt := 33) hx hb dX3_keysOfNewest_89 (by decide) ?_
                exact ih33 (i + 1) k (by omega) (by rw [ks_sum, ifp_f (fun h => b2i_0.mp c68 h.2)]; omega) (by omega) _ _ hP hD hS ls (lv_sub hl [0, 2, 3, 4] rfl)
              · skip
                refine lv_iload_n hx hb dX3_keysOfNewest_71 rfl (lv_at hl 2 rfl) ?_
                refine lv_aload_n hx hb dX3_keysOfNewest_72 rfl (lv_at hl 4 rfl) ?_
                refine va_get (D := D) (cl := vwCl) (ci := 3) (v := .ref hd) (C := RX3) (T := TX3) (N := 8) hx hb hts hiX3 hown hK hP 0 rfl rfl 0 (by decide) hk1 (fun _ h9 => h9) rfl dX3_keysOfNewest_73 ?_
                refine lv_iload hx hb dX3_keysOfNewest_76 (lv_at hl 0 rfl) ?_
                refine lv_iconst (v := 2) hx hb dX3_keysOfNewest_78 (by decide) ?_
                refine lv_bipush (v := 32) hx hb dX3_keysOfNewest_79 (by decide) ?_
                refine ct_calli (w := [(hd, .inr (0, [.int (nI a), .ref hB])), (hB, .inl (cI, a * 48, .inl f))]) (w' := [(hd, .inr (0, [.int (nI a), .ref hB])), (hB, .inl (cI, a * 48, .inl f))]) (va_runV (As := [.int (nI (nv (f (nw % 8 * 48 + (9 + i))))), .int 2, .int 32]) (rest := [.int (nI k)]) ⟨hx, hb, hml, hown, hts⟩ (c_X0_pagesTold l D cI cZ hd hB a (nv (f (nw % 8 * 48 + (9 + i)))) 2 32 f (by omega) (by omega) (by omega) _) (cwV 3 hts gX3_keysOfNewest_X0_pagesTold rfl rfl rfl (by decide +kernel) ⟨Nat.le_of_ble_eq_true rfl, Nat.le_of_ble_eq_true rfl⟩) (ct_preV (w := [(hd, .inr (0, [.int (nI a), .ref hB])), (hB, .inl (cI, a * 48, .inl f))]) (ci := 0) (i0 := 1) hK hN hP hD [1, 2] (by decide) rfl rfl rfl) rfl rfl hl.1 rfl (lv_room (Nat.le_of_ble_eq_true rfl)) dX3_keysOfNewest_81 ⟨Nat.le_of_ble_eq_true rfl, Nat.le_of_ble_eq_true rfl⟩) hP hD hS hA [1, 2] rfl [hd, hB] rfl rfl (fun H locs hP hD hS => ?_)
                have hP : va_P D vwCl [(h0, .inr (3, [.ref hd, .ref hR, .ref hw, .ref hT, .ref hJ, .int (nI tc), .int (nI nw), .int (nI ol)])), (hd, .inr (0, [.int (nI a), .ref hB])), (hB, .inl (cI, a * 48, .inl f)), (hR, .inr (2, [.ref hM])), (hM, .inl (cI, a, .inl M)), (hw, .inr (1, [.int (b2i O), .int lf, .int us])), (hT, .inl (cI, 32, .inl t)), (hJ, .inl (cI, 32, .inl pl))] _ := hP
                have hD : va_D A [(h0, .inr (3, [.ref hd, .ref hR, .ref hw, .ref hT, .ref hJ, .int (nI tc), .int (nI nw), .int (nI ol)])), (hd, .inr (0, [.int (nI a), .ref hB])), (hB, .inl (cI, a * 48, .inl f)), (hR, .inr (2, [.ref hM])), (hM, .inl (cI, a, .inl M)), (hw, .inr (1, [.int (b2i O), .int lf, .int us])), (hT, .inl (cI, 32, .inl t)), (hJ, .inl (cI, 32, .inl pl))] := hD
                refine lv_iadd hx hb dX3_keysOfNewest_84 ?_
                refine ct_top (y := nI (k + (pg_told f ((nv (f (nw % 8 * 48 + (9 + i)))) * 48 + 2) 32))) (nI_add k (pg_told f ((nv (f (nw % 8 * 48 + (9 + i)))) * 48 + 2) 32)) ?_
                refine lv_istore_n (lv' := [(2, .int (nI (k + (pg_told f ((nv (f (nw % 8 * 48 + (9 + i)))) * 48 + 2) 32)))), (4, .int (nI (nv (f (nw % 8 * 48 + (9 + i)))))), (3, .int (nI i)), (1, .int (nI (nw % 8))), (0, .ref h0)]) hx hb dX3_keysOfNewest_85 rfl hl (by decide) rfl (fun ls hl => ?_)
                refine lv_iinc (v := nI (i + 1)) (lv' := [(3, .int (nI (i + 1))), (2, .int (nI (k + (pg_told f ((nv (f (nw % 8 * 48 + (9 + i)))) * 48 + 2) 32)))), (4, .int (nI (nv (f (nw % 8 * 48 + (9 + i)))))), (1, .int (nI (nw % 8))), (0, .ref h0)]) hx hb dX3_keysOfNewest_86 hl (k := 2) rfl (nI_add i 1) (by decide) rfl (fun ls hl => ?_)
                refine lv_goto (tgt := 33) hx hb dX3_keysOfNewest_89 (by decide) ?_
                exact ih33 (i + 1) (k + (pg_told f ((nv (f (nw % 8 * 48 + (9 + i)))) * 48 + 2) 32)) (by omega) (by rw [ks_sum, ifp_t ⟨fun h => c55 ((nv_0 hn1.1).mpr h), b2i_n0 c68⟩, ex]) (by omega) _ _ hP hD hS ls (lv_sub hl [0, 1, 3, 4] rfl)
      exact loop33 _ 0 0 (by omega) (rfl) (Nat.lt_succ_self _) _ _ hP hD hS ls (lv_sub hl [0, 1, 2, 3] rfl)
    · skip
      refine lv_iconst (v := 0) hx hb dX3_keysOfNewest_27 (by decide) ?_
      exact ct_iret hx hb hr hlocks (by unfold sp_keys; rw [ifp_t (Or.inr (b2i_0.mp c24))]; rfl) (rfl) hP hD hS dX3_keysOfNewest_28
set_option maxHeartbeats 4000000 in
set_option maxRecDepth 100000 in
theorem c_X3_count (l : Launch) (D : va_G) (cI cZ : ClassId) (h0 hd hB hR hM hw hT hJ a tc nw ol : Nat) (f M t pl : Nat → Int32) (O : Prop) (lf us : Int32) (x : Int32) (ha : a ≤ 120) (h12 : 12 ≤ a) (htc : tc ≤ 32) (hnw : nw ≤ 1000000) (hol : ol ≤ nw + 1) : CtI l yX3_count wsX3_count ({ frames := 5, cells := 0, slots := 0, locals := 116 }) D vwCl (ct_T cI cZ) [.ref h0, .int x] [(h0, .inr (3, [.ref hd, .ref hR, .ref hw, .ref hT, .ref hJ, .int (nI tc), .int (nI nw), .int (nI ol)])), (hd, .inr (0, [.int (nI a), .ref hB])), (hB, .inl (cI, a * 48, .inl f)), (hR, .inr (2, [.ref hM])), (hM, .inl (cI, a, .inl M)), (hw, .inr (1, [.int (b2i O), .int lf, .int us])), (hT, .inl (cI, 32, .inl t)), (hJ, .inl (cI, 32, .inl pl))] [(h0, .inr (3, [.ref hd, .ref hR, .ref hw, .ref hT, .ref hJ, .int (nI tc), .int (nI nw), .int (nI ol)])), (hd, .inr (0, [.int (nI a), .ref hB])), (hB, .inl (cI, a * 48, .inl f)), (hR, .inr (2, [.ref hM])), (hM, .inl (cI, a, .inl ((sp_count O M f a tc ol nw x).2))), (hw, .inr (1, [.int (b2i O), .int lf, .int us])), (hT, .inl (cI, 32, .inl t)), (hJ, .inl (cI, 32, .inl pl))] ((sp_count O M f a tc ol nw x).1) := by
  refine ct_of (Qf := ct_Qi D vwCl [(h0, .inr (3, [.ref hd, .ref hR, .ref hw, .ref hT, .ref hJ, .int (nI tc), .int (nI nw), .int (nI ol)])), (hd, .inr (0, [.int (nI a), .ref hB])), (hB, .inl (cI, a * 48, .inl f)), (hR, .inr (2, [.ref hM])), (hM, .inl (cI, a, .inl ((sp_count O M f a tc ol nw x).2))), (hw, .inr (1, [.int (b2i O), .int lf, .int us])), (hT, .inl (cI, 32, .inl t)), (hJ, .inl (cI, 32, .inl pl))] ((sp_count O M f a tc ol nw x).1)) (cc := cX3_count) (maxL := 2) (ret := (some .int)) [(0, .ref h0), (1, .int x)] (by decide) rfl (Nat.le_of_ble_eq_true rfl) rfl ?_
  intro p e s m below meth c hx hb hr hts hown hlocks hml hnm A hA hK hN hP hD hS ls hl
  have hown : s.vm.findClass RX3 = some m.cls := hown
  have hk0 := hts (.fieldLink RX3 37 "DesignPages" "power" "LDesignPages$Power;") (by decide +kernel)
  have hk1 := hts (.fieldLink RX3 52 "DesignPages" "newest" "I") (by decide +kernel)
  have hk2 := hts (.fieldLink RX3 55 "DesignPages" "oldest" "I") (by decide +kernel)
  have hk3 := hts (.fieldLink RX3 30 "DesignPages" "reach" "LDesignPages$Reach;") (by decide +kernel)
  have hk4 := hts (.fieldLink RX3 23 "DesignPages" "disk" "LDesignPages$Pages;") (by decide +kernel)
  have hk5 := hts (.fieldLink RX3 48 "DesignPages" "typedCount" "I") (by decide +kernel)
  have hiX3 : ∀ w ∈ wsX30, w ∈ wsX3_count := by decide +kernel
  refine lv_aload_n hx hb dX3_count_0 rfl (lv_at hl 0 rfl) ?_
  refine va_get (D := D) (cl := vwCl) (ci := 3) (v := .ref hw) (C := RX3) (T := TX3) (N := 8) hx hb hts hiX3 hown hK hP 0 rfl rfl 2 (by decide) hk0 (fun _ h9 => h9) rfl dX3_count_1 ?_
  refine ct_calli (w := [(hw, .inr (1, [.int (b2i O), .int lf, .int us]))]) (w' := [(hw, .inr (1, [.int (b2i O), .int lf, .int us]))]) (va_runV (As := []) (rest := []) ⟨hx, hb, hml, hown, hts⟩ (c_X1_isOff l D cI cZ hw O lf us  _) (cwV 0 hts gX3_count_X1_isOff rfl rfl rfl (by decide +kernel) ⟨Nat.le_of_ble_eq_true rfl, Nat.le_of_ble_eq_true rfl⟩) (ct_preV (w := [(hw, .inr (1, [.int (b2i O), .int lf, .int us]))]) (ci := 1) (i0 := 5) hK hN hP hD [5] (by decide) rfl rfl rfl) rfl rfl hl.1 rfl (lv_room (Nat.le_of_ble_eq_true rfl)) dX3_count_4 ⟨Nat.le_of_ble_eq_true rfl, Nat.le_of_ble_eq_true rfl⟩) hP hD hS hA [5] rfl [hw] rfl rfl (fun H locs hP hD hS => ?_)
  have hP : va_P D vwCl [(h0, .inr (3, [.ref hd, .ref hR, .ref hw, .ref hT, .ref hJ, .int (nI tc), .int (nI nw), .int (nI ol)])), (hd, .inr (0, [.int (nI a), .ref hB])), (hB, .inl (cI, a * 48, .inl f)), (hR, .inr (2, [.ref hM])), (hM, .inl (cI, a, .inl M)), (hw, .inr (1, [.int (b2i O), .int lf, .int us])), (hT, .inl (cI, 32, .inl t)), (hJ, .inl (cI, 32, .inl pl))] _ := hP
  have hD : va_D A [(h0, .inr (3, [.ref hd, .ref hR, .ref hw, .ref hT, .ref hJ, .int (nI tc), .int (nI nw), .int (nI ol)])), (hd, .inr (0, [.int (nI a), .ref hB])), (hB, .inl (cI, a * 48, .inl f)), (hR, .inr (2, [.ref hM])), (hM, .inl (cI, a, .inl M)), (hw, .inr (1, [.int (b2i O), .int lf, .int us])), (hT, .inl (cI, 32, .inl t)), (hJ, .inl (cI, 32, .inl pl))] := hD
  refine lv_if_eq (tgt := 13) hx hb dX3_count_7 (by decide) (fun c7 => ?_) (fun c7 => ?_)
  · skip
    refine lv_iload_n hx hb dX3_count_13 rfl (lv_at hl 1 rfl) ?_
    by_cases c14o : x.toInt < 0 ∨ 4 < x.toInt
    · skip
      refine lv_tableOut (tgt := 95) hx hb dX3_count_14 c14o (by decide) ?_
      refine lv_bipush (v := (-2)) hx hb dX3_count_95 (by decide) ?_
      have e9 : sp_count O M f a tc ol nw x = ((-2), M) := by obtain ⟨g0, g1, g2, g3, g4⟩ := sw_out c14o; unfold sp_count; rw [ifp_f (b2i_0.mp c7), ifp_f g0, ifp_f g1, ifp_f g2, ifp_f g3, ifp_f g4]
      exact ct_iret hx hb hr hlocks (by rw [e9]) (by rw [e9]) hP hD hS dX3_count_97
    · skip
      by_cases c14_0 : x = 0
      · skip
        refine ct_top (y := 0) c14_0 ?_
        refine lv_tableIn (tgt := 48) hx hb dX3_count_14 (by decide) (by decide) rfl (by decide) ?_
        refine lv_aload_n hx hb dX3_count_48 rfl (lv_at hl 0 rfl) ?_
        refine va_get (D := D) (cl := vwCl) (ci := 3) (v := .int (nI nw)) (C := RX3) (T := TX3) (N := 8) hx hb hts hiX3 hown hK hP 0 rfl rfl 6 (by decide) hk1 (fun _ h9 => h9) rfl dX3_count_49 ?_
        have e9 : sp_count O M f a tc ol nw x = (nI nw, M) := by unfold sp_count; rw [ifp_f (b2i_0.mp c7), ifp_t c14_0]
        exact ct_iret hx hb hr hlocks (by rw [e9]) (by rw [e9]) hP hD hS dX3_count_52
      · skip
        by_cases c14_1 : x = 1
        · skip
          refine ct_top (y := 1) c14_1 ?_
          refine lv_tableIn (tgt := 53) hx hb dX3_count_14 (by decide) (by decide) rfl (by decide) ?_
          refine lv_aload_n hx hb dX3_count_53 rfl (lv_at hl 0 rfl) ?_
          refine va_get (D := D) (cl := vwCl) (ci := 3) (v := .int (nI ol)) (C := RX3) (T := TX3) (N := 8) hx hb hts hiX3 hown hK hP 0 rfl rfl 7 (by decide) hk2 (fun _ h9 => h9) rfl dX3_count_54 ?_
          have e9 : sp_count O M f a tc ol nw x = (nI ol, M) := by unfold sp_count; rw [ifp_f (b2i_0.mp c7), ifp_f c14_0, ifp_t c14_1]
          exact ct_iret hx hb hr hlocks (by rw [e9]) (by rw [e9]) hP hD hS dX3_count_57
        · skip
          by_cases c14_2 : x = 2
          · skip
            refine ct_top (y := 2) c14_2 ?_
            refine lv_tableIn (tgt := 58) hx hb dX3_count_14 (by decide) (by decide) rfl (by decide) ?_
            refine lv_aload_n hx hb dX3_count_58 rfl (lv_at hl 0 rfl) ?_
            refine va_get (D := D) (cl := vwCl) (ci := 3) (v := .ref hR) (C := RX3) (T := TX3) (N := 8) hx hb hts hiX3 hown hK hP 0 rfl rfl 1 (by decide) hk3 (fun _ h9 => h9) rfl dX3_count_59 ?_
            refine lv_aload_n hx hb dX3_count_62 rfl (lv_at hl 0 rfl) ?_
            refine va_get (D := D) (cl := vwCl) (ci := 3) (v := .ref hd) (C := RX3) (T := TX3) (N := 8) hx hb hts hiX3 hown hK hP 0 rfl rfl 0 (by decide) hk4 (fun _ h9 => h9) rfl dX3_count_63 ?_
            refine lv_aload_n hx hb dX3_count_66 rfl (lv_at hl 0 rfl) ?_
            refine va_get (D := D) (cl := vwCl) (ci := 3) (v := .int (nI ol)) (C := RX3) (T := TX3) (N := 8) hx hb hts hiX3 hown hK hP 0 rfl rfl 7 (by decide) hk2 (fun _ h9 => h9) rfl dX3_count_67 ?_
            refine lv_aload_n hx hb dX3_count_70 rfl (lv_at hl 0 rfl) ?_
            refine va_get (D := D) (cl := vwCl) (ci := 3) (v := .int (nI nw)) (C := RX3) (T := TX3) (N := 8) hx hb hts hiX3 hown hK hP 0 rfl rfl 6 (by decide) hk1 (fun _ h9 => h9) rfl dX3_count_71 ?_
            refine ct_callv (w := [(hR, .inr (2, [.ref hM])), (hM, .inl (cI, a, .inl M)), (hd, .inr (0, [.int (nI a), .ref hB])), (hB, .inl (cI, a * 48, .inl f))]) (w' := [(hR, .inr (2, [.ref hM])), (hM, .inl (cI, a, .inl (wk_marks f a ol (nw + 1 - ol)))), (hd, .inr (0, [.int (nI a), .ref hB])), (hB, .inl (cI, a * 48, .inl f))]) (va_runV (As := [.ref hd, .int (nI ol), .int (nI nw)]) (rest := []) ⟨hx, hb, hml, hown, hts⟩ (c_X2_walk l D cI cZ hR hM hd hB a ol nw M f (by omega) (by omega) (by omega) (by omega) _) (cwV 3 hts gX3_count_X2_walk rfl rfl rfl (by decide +kernel) ⟨Nat.le_of_ble_eq_true rfl, Nat.le_of_ble_eq_true rfl⟩) (ct_preV (w := [(hR, .inr (2, [.ref hM])), (hM, .inl (cI, a, .inl M)), (hd, .inr (0, [.int (nI a), .ref hB])), (hB, .inl (cI, a * 48, .inl f))]) (ci := 2) (i0 := 3) hK hN hP hD [3, 4, 1, 2] (by decide) rfl rfl rfl) rfl rfl hl.1 rfl (lv_room (Nat.le_of_ble_eq_true rfl)) dX3_count_74 ⟨Nat.le_of_ble_eq_true rfl, Nat.le_of_ble_eq_true rfl⟩) hP hD hS hA [3, 4, 1, 2] rfl [hR, hM, hd, hB] rfl rfl (fun H locs hP hD hS => ?_)
            have hP : va_P D vwCl [(h0, .inr (3, [.ref hd, .ref hR, .ref hw, .ref hT, .ref hJ, .int (nI tc), .int (nI nw), .int (nI ol)])), (hd, .inr (0, [.int (nI a), .ref hB])), (hB, .inl (cI, a * 48, .inl f)), (hR, .inr (2, [.ref hM])), (hM, .inl (cI, a, .inl (wk_marks f a ol (nw + 1 - ol)))), (hw, .inr (1, [.int (b2i O), .int lf, .int us])), (hT, .inl (cI, 32, .inl t)), (hJ, .inl (cI, 32, .inl pl))] _ := hP
            have hD : va_D A [(h0, .inr (3, [.ref hd, .ref hR, .ref hw, .ref hT, .ref hJ, .int (nI tc), .int (nI nw), .int (nI ol)])), (hd, .inr (0, [.int (nI a), .ref hB])), (hB, .inl (cI, a * 48, .inl f)), (hR, .inr (2, [.ref hM])), (hM, .inl (cI, a, .inl (wk_marks f a ol (nw + 1 - ol)))), (hw, .inr (1, [.int (b2i O), .int lf, .int us])), (hT, .inl (cI, 32, .inl t)), (hJ, .inl (cI, 32, .inl pl))] := hD
            refine lv_aload_n hx hb dX3_count_77 rfl (lv_at hl 0 rfl) ?_
            refine va_get (D := D) (cl := vwCl) (ci := 3) (v := .ref hR) (C := RX3) (T := TX3) (N := 8) hx hb hts hiX3 hown hK hP 0 rfl rfl 1 (by decide) hk3 (fun _ h9 => h9) rfl dX3_count_78 ?_
            refine ct_calli (w := [(hR, .inr (2, [.ref hM])), (hM, .inl (cI, a, .inl (wk_marks f a ol (nw + 1 - ol))))]) (w' := [(hR, .inr (2, [.ref hM])), (hM, .inl (cI, a, .inl (wk_marks f a ol (nw + 1 - ol))))]) (va_runV (As := []) (rest := []) ⟨hx, hb, hml, hown, hts⟩ (c_X2_freePages l D cI cZ hR hM a (wk_marks f a ol (nw + 1 - ol))  (by omega) (by omega) _) (cwV 0 hts gX3_count_X2_freePages rfl rfl rfl (by decide +kernel) ⟨Nat.le_of_ble_eq_true rfl, Nat.le_of_ble_eq_true rfl⟩) (ct_preV (w := [(hR, .inr (2, [.ref hM])), (hM, .inl (cI, a, .inl (wk_marks f a ol (nw + 1 - ol))))]) (ci := 2) (i0 := 3) hK hN hP hD [3, 4] (by decide) rfl rfl rfl) rfl rfl hl.1 rfl (lv_room (Nat.le_of_ble_eq_true rfl)) dX3_count_81 ⟨Nat.le_of_ble_eq_true rfl, Nat.le_of_ble_eq_true rfl⟩) hP hD hS hA [3, 4] rfl [hR, hM] rfl rfl (fun H locs hP hD hS => ?_)
            have hP : va_P D vwCl [(h0, .inr (3, [.ref hd, .ref hR, .ref hw, .ref hT, .ref hJ, .int (nI tc), .int (nI nw), .int (nI ol)])), (hd, .inr (0, [.int (nI a), .ref hB])), (hB, .inl (cI, a * 48, .inl f)), (hR, .inr (2, [.ref hM])), (hM, .inl (cI, a, .inl (wk_marks f a ol (nw + 1 - ol)))), (hw, .inr (1, [.int (b2i O), .int lf, .int us])), (hT, .inl (cI, 32, .inl t)), (hJ, .inl (cI, 32, .inl pl))] _ := hP
            have hD : va_D A [(h0, .inr (3, [.ref hd, .ref hR, .ref hw, .ref hT, .ref hJ, .int (nI tc), .int (nI nw), .int (nI ol)])), (hd, .inr (0, [.int (nI a), .ref hB])), (hB, .inl (cI, a * 48, .inl f)), (hR, .inr (2, [.ref hM])), (hM, .inl (cI, a, .inl (wk_marks f a ol (nw + 1 - ol)))), (hw, .inr (1, [.int (b2i O), .int lf, .int us])), (hT, .inl (cI, 32, .inl t)), (hJ, .inl (cI, 32, .inl pl))] := hD
            have e9 : sp_count O M f a tc ol nw x = (nI (ct_of_P (fun p => (wk_marks f a ol (nw + 1 - ol)) p = 0) 8 (a - 8)), wk_marks f a ol (nw + 1 - ol)) := by unfold sp_count; rw [ifp_f (b2i_0.mp c7), ifp_f c14_0, ifp_f c14_1, ifp_t c14_2]; rfl
            exact ct_iret hx hb hr hlocks (by rw [e9]) (by rw [e9]) hP hD hS dX3_count_84
          · skip
            by_cases c14_3 : x = 3
            · skip
              refine ct_top (y := 3) c14_3 ?_
              refine lv_tableIn (tgt := 85) hx hb dX3_count_14 (by decide) (by decide) rfl (by decide) ?_
              refine lv_aload_n hx hb dX3_count_85 rfl (lv_at hl 0 rfl) ?_
              refine ct_calli (w := [(h0, .inr (3, [.ref hd, .ref hR, .ref hw, .ref hT, .ref hJ, .int (nI tc), .int (nI nw), .int (nI ol)])), (hd, .inr (0, [.int (nI a), .ref hB])), (hB, .inl (cI, a * 48, .inl f)), (hR, .inr (2, [.ref hM])), (hM, .inl (cI, a, .inl M)), (hw, .inr (1, [.int (b2i O), .int lf, .int us])), (hT, .inl (cI, 32, .inl t)), (hJ, .inl (cI, 32, .inl pl))]) (w' := [(h0, .inr (3, [.ref hd, .ref hR, .ref hw, .ref hT, .ref hJ, .int (nI tc), .int (nI nw), .int (nI ol)])), (hd, .inr (0, [.int (nI a), .ref hB])), (hB, .inl (cI, a * 48, .inl f)), (hR, .inr (2, [.ref hM])), (hM, .inl (cI, a, .inl M)), (hw, .inr (1, [.int (b2i O), .int lf, .int us])), (hT, .inl (cI, 32, .inl t)), (hJ, .inl (cI, 32, .inl pl))]) (va_runV (As := []) (rest := []) ⟨hx, hb, hml, hown, hts⟩ (c_X3_keysOfNewest l D cI cZ h0 hd hB hR hM hw hT hJ a tc nw ol f M t pl O lf us  (by omega) (by omega) (by omega) (by omega) (by omega)  _) (cwV 0 hts gX3_count_X3_keysOfNewest rfl rfl rfl (by decide +kernel) ⟨Nat.le_of_ble_eq_true rfl, Nat.le_of_ble_eq_true rfl⟩) (ct_preV (w := [(h0, .inr (3, [.ref hd, .ref hR, .ref hw, .ref hT, .ref hJ, .int (nI tc), .int (nI nw), .int (nI ol)])), (hd, .inr (0, [.int (nI a), .ref hB])), (hB, .inl (cI, a * 48, .inl f)), (hR, .inr (2, [.ref hM])), (hM, .inl (cI, a, .inl M)), (hw, .inr (1, [.int (b2i O), .int lf, .int us])), (hT, .inl (cI, 32, .inl t)), (hJ, .inl (cI, 32, .inl pl))]) (ci := 3) (i0 := 0) hK hN hP hD [0, 1, 2, 3, 4, 5, 6, 7] (by decide) rfl rfl rfl) rfl rfl hl.1 rfl (lv_room (Nat.le_of_ble_eq_true rfl)) dX3_count_86 ⟨Nat.le_of_ble_eq_true rfl, Nat.le_of_ble_eq_true rfl⟩) hP hD hS hA [0, 1, 2, 3, 4, 5, 6, 7] rfl [h0, hd, hB, hR, hM, hw, hT, hJ] rfl rfl (fun H locs hP hD hS => ?_)
              have hP : va_P D vwCl [(h0, .inr (3, [.ref hd, .ref hR, .ref hw, .ref hT, .ref hJ, .int (nI tc), .int (nI nw), .int (nI ol)])), (hd, .inr (0, [.int (nI a), .ref hB])), (hB, .inl (cI, a * 48, .inl f)), (hR, .inr (2, [.ref hM])), (hM, .inl (cI, a, .inl M)), (hw, .inr (1, [.int (b2i O), .int lf, .int us])), (hT, .inl (cI, 32, .inl t)), (hJ, .inl (cI, 32, .inl pl))] _ := hP
              have hD : va_D A [(h0, .inr (3, [.ref hd, .ref hR, .ref hw, .ref hT, .ref hJ, .int (nI tc), .int (nI nw), .int (nI ol)])), (hd, .inr (0, [.int (nI a), .ref hB])), (hB, .inl (cI, a * 48, .inl f)), (hR, .inr (2, [.ref hM])), (hM, .inl (cI, a, .inl M)), (hw, .inr (1, [.int (b2i O), .int lf, .int us])), (hT, .inl (cI, 32, .inl t)), (hJ, .inl (cI, 32, .inl pl))] := hD
              have e9 : sp_count O M f a tc ol nw x = (nI (sp_keys f a nw), M) := by unfold sp_count; rw [ifp_f (b2i_0.mp c7), ifp_f c14_0, ifp_f c14_1, ifp_f c14_2, ifp_t c14_3]
              exact ct_iret hx hb hr hlocks (by rw [e9]) (by rw [e9]) hP hD hS dX3_count_89
            · skip
              by_cases c14_4 : x = 4
              · skip
                refine ct_top (y := 4) c14_4 ?_
                refine lv_tableIn (tgt := 90) hx hb dX3_count_14 (by decide) (by decide) rfl (by decide) ?_
                refine lv_aload_n hx hb dX3_count_90 rfl (lv_at hl 0 rfl) ?_
                refine va_get (D := D) (cl := vwCl) (ci := 3) (v := .int (nI tc)) (C := RX3) (T := TX3) (N := 8) hx hb hts hiX3 hown hK hP 0 rfl rfl 5 (by decide) hk5 (fun _ h9 => h9) rfl dX3_count_91 ?_
                have e9 : sp_count O M f a tc ol nw x = (nI tc, M) := by unfold sp_count; rw [ifp_f (b2i_0.mp c7), ifp_f c14_0, ifp_f c14_1, ifp_f c14_2, ifp_f c14_3, ifp_t c14_4]
                exact ct_iret hx hb hr hlocks (by rw [e9]) (by rw [e9]) hP hD hS dX3_count_94
              · skip
                exact absurd (sw_all c14o c14_0 c14_1 c14_2 c14_3 c14_4) id
  · skip
    refine lv_bipush (v := (-5)) hx hb dX3_count_10 (by decide) ?_
    have e9 : sp_count O M f a tc ol nw x = ((-5), M) := by unfold sp_count; rw [ifp_t (b2i_n0 c7)]
    exact ct_iret hx hb hr hlocks (by rw [e9]) (by rw [e9]) hP hD hS dX3_count_12
set_option maxHeartbeats 4000000 in
set_option maxRecDepth 100000 in
theorem c_X3_written (l : Launch) (D : va_G) (cI cZ : ClassId) (h0 hd hB hR hM hw hT hJ a tc nw ol : Nat) (f M t pl : Nat → Int32) (O : Prop) (lf us : Int32) (ha : a ≤ 120) (h12 : 12 ≤ a) (htc : tc ≤ 32) (hnw : nw ≤ 1000000) (hol : ol ≤ nw + 1) : CtI l yX3_written wsX3_written ({ frames := 1, cells := 0, slots := 0, locals := 20 }) D vwCl (ct_T cI cZ) [.ref h0] [(h0, .inr (3, [.ref hd, .ref hR, .ref hw, .ref hT, .ref hJ, .int (nI tc), .int (nI nw), .int (nI ol)])), (hd, .inr (0, [.int (nI a), .ref hB])), (hB, .inl (cI, a * 48, .inl f)), (hR, .inr (2, [.ref hM])), (hM, .inl (cI, a, .inl M)), (hw, .inr (1, [.int (b2i O), .int lf, .int us])), (hT, .inl (cI, 32, .inl t)), (hJ, .inl (cI, 32, .inl pl))] [(h0, .inr (3, [.ref hd, .ref hR, .ref hw, .ref hT, .ref hJ, .int (nI tc), .int (nI nw), .int (nI ol)])), (hd, .inr (0, [.int (nI a), .ref hB])), (hB, .inl (cI, a * 48, .inl f)), (hR, .inr (2, [.ref hM])), (hM, .inl (cI, a, .inl M)), (hw, .inr (1, [.int (b2i O), .int lf, .int us])), (hT, .inl (cI, 32, .inl t)), (hJ, .inl (cI, 32, .inl pl))] us := by
  refine ct_of (Qf := ct_Qi D vwCl [(h0, .inr (3, [.ref hd, .ref hR, .ref hw, .ref hT, .ref hJ, .int (nI tc), .int (nI nw), .int (nI ol)])), (hd, .inr (0, [.int (nI a), .ref hB])), (hB, .inl (cI, a * 48, .inl f)), (hR, .inr (2, [.ref hM])), (hM, .inl (cI, a, .inl M)), (hw, .inr (1, [.int (b2i O), .int lf, .int us])), (hT, .inl (cI, 32, .inl t)), (hJ, .inl (cI, 32, .inl pl))] us) (cc := cX3_written) (maxL := 1) (ret := (some .int)) [(0, .ref h0)] (by decide) rfl (Nat.le_of_ble_eq_true rfl) rfl ?_
  intro p e s m below meth c hx hb hr hts hown hlocks hml hnm A hA hK hN hP hD hS ls hl
  have hown : s.vm.findClass RX3 = some m.cls := hown
  have hk0 := hts (.fieldLink RX3 37 "DesignPages" "power" "LDesignPages$Power;") (by decide +kernel)
  have hiX3 : ∀ w ∈ wsX30, w ∈ wsX3_written := by decide +kernel
  refine lv_aload_n hx hb dX3_written_0 rfl (lv_at hl 0 rfl) ?_
  refine va_get (D := D) (cl := vwCl) (ci := 3) (v := .ref hw) (C := RX3) (T := TX3) (N := 8) hx hb hts hiX3 hown hK hP 0 rfl rfl 2 (by decide) hk0 (fun _ h9 => h9) rfl dX3_written_1 ?_
  refine ct_calli (w := [(hw, .inr (1, [.int (b2i O), .int lf, .int us]))]) (w' := [(hw, .inr (1, [.int (b2i O), .int lf, .int us]))]) (va_runV (As := []) (rest := []) ⟨hx, hb, hml, hown, hts⟩ (c_X1_pagesWritten l D cI cZ hw O lf us  _) (cwV 0 hts gX3_written_X1_pagesWritten rfl rfl rfl (by decide +kernel) ⟨Nat.le_of_ble_eq_true rfl, Nat.le_of_ble_eq_true rfl⟩) (ct_preV (w := [(hw, .inr (1, [.int (b2i O), .int lf, .int us]))]) (ci := 1) (i0 := 5) hK hN hP hD [5] (by decide) rfl rfl rfl) rfl rfl hl.1 rfl (lv_room (Nat.le_of_ble_eq_true rfl)) dX3_written_4 ⟨Nat.le_of_ble_eq_true rfl, Nat.le_of_ble_eq_true rfl⟩) hP hD hS hA [5] rfl [hw] rfl rfl (fun H locs hP hD hS => ?_)
  have hP : va_P D vwCl [(h0, .inr (3, [.ref hd, .ref hR, .ref hw, .ref hT, .ref hJ, .int (nI tc), .int (nI nw), .int (nI ol)])), (hd, .inr (0, [.int (nI a), .ref hB])), (hB, .inl (cI, a * 48, .inl f)), (hR, .inr (2, [.ref hM])), (hM, .inl (cI, a, .inl M)), (hw, .inr (1, [.int (b2i O), .int lf, .int us])), (hT, .inl (cI, 32, .inl t)), (hJ, .inl (cI, 32, .inl pl))] _ := hP
  have hD : va_D A [(h0, .inr (3, [.ref hd, .ref hR, .ref hw, .ref hT, .ref hJ, .int (nI tc), .int (nI nw), .int (nI ol)])), (hd, .inr (0, [.int (nI a), .ref hB])), (hB, .inl (cI, a * 48, .inl f)), (hR, .inr (2, [.ref hM])), (hM, .inl (cI, a, .inl M)), (hw, .inr (1, [.int (b2i O), .int lf, .int us])), (hT, .inl (cI, 32, .inl t)), (hJ, .inl (cI, 32, .inl pl))] := hD
  exact ct_iret hx hb hr hlocks (rfl) (rfl) hP hD hS dX3_written_7
set_option maxHeartbeats 4000000 in
set_option maxRecDepth 100000 in
theorem c_X3_isDown (l : Launch) (D : va_G) (cI cZ : ClassId) (h0 hd hB hR hM hw hT hJ a tc nw ol : Nat) (f M t pl : Nat → Int32) (O : Prop) (lf us : Int32) (ha : a ≤ 120) (h12 : 12 ≤ a) (htc : tc ≤ 32) (hnw : nw ≤ 1000000) (hol : ol ≤ nw + 1) : CtI l yX3_isDown wsX3_isDown ({ frames := 1, cells := 0, slots := 0, locals := 20 }) D vwCl (ct_T cI cZ) [.ref h0] [(h0, .inr (3, [.ref hd, .ref hR, .ref hw, .ref hT, .ref hJ, .int (nI tc), .int (nI nw), .int (nI ol)])), (hd, .inr (0, [.int (nI a), .ref hB])), (hB, .inl (cI, a * 48, .inl f)), (hR, .inr (2, [.ref hM])), (hM, .inl (cI, a, .inl M)), (hw, .inr (1, [.int (b2i O), .int lf, .int us])), (hT, .inl (cI, 32, .inl t)), (hJ, .inl (cI, 32, .inl pl))] [(h0, .inr (3, [.ref hd, .ref hR, .ref hw, .ref hT, .ref hJ, .int (nI tc), .int (nI nw), .int (nI ol)])), (hd, .inr (0, [.int (nI a), .ref hB])), (hB, .inl (cI, a * 48, .inl f)), (hR, .inr (2, [.ref hM])), (hM, .inl (cI, a, .inl M)), (hw, .inr (1, [.int (b2i O), .int lf, .int us])), (hT, .inl (cI, 32, .inl t)), (hJ, .inl (cI, 32, .inl pl))] (b2i O) := by
  refine ct_of (Qf := ct_Qi D vwCl [(h0, .inr (3, [.ref hd, .ref hR, .ref hw, .ref hT, .ref hJ, .int (nI tc), .int (nI nw), .int (nI ol)])), (hd, .inr (0, [.int (nI a), .ref hB])), (hB, .inl (cI, a * 48, .inl f)), (hR, .inr (2, [.ref hM])), (hM, .inl (cI, a, .inl M)), (hw, .inr (1, [.int (b2i O), .int lf, .int us])), (hT, .inl (cI, 32, .inl t)), (hJ, .inl (cI, 32, .inl pl))] (b2i O)) (cc := cX3_isDown) (maxL := 1) (ret := (some .boolean)) [(0, .ref h0)] (by decide) rfl (Nat.le_of_ble_eq_true rfl) rfl ?_
  intro p e s m below meth c hx hb hr hts hown hlocks hml hnm A hA hK hN hP hD hS ls hl
  have hown : s.vm.findClass RX3 = some m.cls := hown
  have hk0 := hts (.fieldLink RX3 37 "DesignPages" "power" "LDesignPages$Power;") (by decide +kernel)
  have hiX3 : ∀ w ∈ wsX30, w ∈ wsX3_isDown := by decide +kernel
  refine lv_aload_n hx hb dX3_isDown_0 rfl (lv_at hl 0 rfl) ?_
  refine va_get (D := D) (cl := vwCl) (ci := 3) (v := .ref hw) (C := RX3) (T := TX3) (N := 8) hx hb hts hiX3 hown hK hP 0 rfl rfl 2 (by decide) hk0 (fun _ h9 => h9) rfl dX3_isDown_1 ?_
  refine ct_calli (w := [(hw, .inr (1, [.int (b2i O), .int lf, .int us]))]) (w' := [(hw, .inr (1, [.int (b2i O), .int lf, .int us]))]) (va_runV (As := []) (rest := []) ⟨hx, hb, hml, hown, hts⟩ (c_X1_isOff l D cI cZ hw O lf us  _) (cwV 0 hts gX3_isDown_X1_isOff rfl rfl rfl (by decide +kernel) ⟨Nat.le_of_ble_eq_true rfl, Nat.le_of_ble_eq_true rfl⟩) (ct_preV (w := [(hw, .inr (1, [.int (b2i O), .int lf, .int us]))]) (ci := 1) (i0 := 5) hK hN hP hD [5] (by decide) rfl rfl rfl) rfl rfl hl.1 rfl (lv_room (Nat.le_of_ble_eq_true rfl)) dX3_isDown_4 ⟨Nat.le_of_ble_eq_true rfl, Nat.le_of_ble_eq_true rfl⟩) hP hD hS hA [5] rfl [hw] rfl rfl (fun H locs hP hD hS => ?_)
  have hP : va_P D vwCl [(h0, .inr (3, [.ref hd, .ref hR, .ref hw, .ref hT, .ref hJ, .int (nI tc), .int (nI nw), .int (nI ol)])), (hd, .inr (0, [.int (nI a), .ref hB])), (hB, .inl (cI, a * 48, .inl f)), (hR, .inr (2, [.ref hM])), (hM, .inl (cI, a, .inl M)), (hw, .inr (1, [.int (b2i O), .int lf, .int us])), (hT, .inl (cI, 32, .inl t)), (hJ, .inl (cI, 32, .inl pl))] _ := hP
  have hD : va_D A [(h0, .inr (3, [.ref hd, .ref hR, .ref hw, .ref hT, .ref hJ, .int (nI tc), .int (nI nw), .int (nI ol)])), (hd, .inr (0, [.int (nI a), .ref hB])), (hB, .inl (cI, a * 48, .inl f)), (hR, .inr (2, [.ref hM])), (hM, .inl (cI, a, .inl M)), (hw, .inr (1, [.int (b2i O), .int lf, .int us])), (hT, .inl (cI, 32, .inl t)), (hJ, .inl (cI, 32, .inl pl))] := hD
  exact ct_zret hx hb hr hlocks (b2i_nar _) (rfl) (rfl) hP hD hS dX3_isDown_7
