set_option maxHeartbeats 4000000 in
set_option maxRecDepth 100000 in
theorem c_X4_crash (l : Launch) (D : va_G) (cI cZ : ClassId) (hm gB gT gZ a tc nw ol : Nat) (f t z : Nat → Int32) (O : Prop) (lf us bd : Int32) (x : Int32) (ha : a ≤ 120) (h12 : 12 ≤ a) (htc : tc ≤ 32) (hnw : nw ≤ 1000000) (hol : ol ≤ nw + 1) : CtI l yX4_crash wsX4_crash ({ frames := 1, cells := 0, slots := 0, locals := 20 }) D vwCl (ct_T cI cZ) [.ref hm, .int x] [(hm, .inr (4, [.int 0, .int (nI a), .ref gB, .int (nI nw), .int (nI ol), .int (b2i O), .int lf, .int us, .int (nI tc), .ref gT, .ref gZ, .int bd])), (gB, .inl (cI, 5760, .inl f)), (gT, .inl (cI, 32, .inl t)), (gZ, .inl (cZ, 120, .inl z))] [(hm, .inr (4, [.int 0, .int (nI a), .ref gB, .int (nI nw), .int (nI ol), .int (b2i ((sp_crR O lf tc x).2.1)), .int ((sp_crR O lf tc x).2.2.1), .int us, .int (nI ((sp_crR O lf tc x).2.2.2)), .ref gT, .ref gZ, .int bd])), (gB, .inl (cI, 5760, .inl f)), (gT, .inl (cI, 32, .inl t)), (gZ, .inl (cZ, 120, .inl z))] ((sp_crR O lf tc x).1) := by
  refine ct_of (Qf := ct_Qi D vwCl [(hm, .inr (4, [.int 0, .int (nI a), .ref gB, .int (nI nw), .int (nI ol), .int (b2i ((sp_crR O lf tc x).2.1)), .int ((sp_crR O lf tc x).2.2.1), .int us, .int (nI ((sp_crR O lf tc x).2.2.2)), .ref gT, .ref gZ, .int bd])), (gB, .inl (cI, 5760, .inl f)), (gT, .inl (cI, 32, .inl t)), (gZ, .inl (cZ, 120, .inl z))] ((sp_crR O lf tc x).1)) (cc := cX4_crash) (maxL := 2) (ret := (some .int)) [(0, .ref hm), (1, .int x)] (by decide) rfl (Nat.le_of_ble_eq_true rfl) rfl ?_
  intro p e s m below meth c hx hb hr hts hown hlocks hml hnm A hA hK hN hP hD hS ls hl
  have hown : s.vm.findClass RX4 = some m.cls := hown
  have hk0 := hts (.fieldLink RX4 30 "DesignPagesModel" "code" "I") (by decide +kernel)
  have hk1 := hts (.fieldLink RX4 83 "DesignPagesModel" "down" "Z") (by decide +kernel)
  have hk2 := hts (.fieldLink RX4 17 "DesignPagesModel" "left" "I") (by decide +kernel)
  have hiX4 : ∀ w ∈ wsX40, w ∈ wsX4_crash := by decide +kernel
  refine lv_aload_n hx hb dX4_crash_0 rfl (lv_at hl 0 rfl) ?_
  refine lv_iconst (v := 0) hx hb dX4_crash_1 (by decide) ?_
  refine va_put (D := D) (cl := vwCl) (ci := 4) (v := .int 0) (ty := .int) (C := RX4) (T := TX4) (N := 12) hx hb hts hiX4 tyX4 tyX4_ok nmX4 hown hK hP hD hS 0 rfl rfl 0 (by decide) hk0 (fun _ h9 => h9) rfl (by decide +kernel) rfl rfl (Nat.le_of_ble_eq_true rfl) dX4_crash_2 (fun H locs hP hD hS => ?_)
  have hP : va_P D vwCl [(hm, .inr (4, [.int 0, .int (nI a), .ref gB, .int (nI nw), .int (nI ol), .int (b2i O), .int lf, .int us, .int (nI tc), .ref gT, .ref gZ, .int bd])), (gB, .inl (cI, 5760, .inl f)), (gT, .inl (cI, 32, .inl t)), (gZ, .inl (cZ, 120, .inl z))] _ := hP
  have hD : va_D A [(hm, .inr (4, [.int 0, .int (nI a), .ref gB, .int (nI nw), .int (nI ol), .int (b2i O), .int lf, .int us, .int (nI tc), .ref gT, .ref gZ, .int bd])), (gB, .inl (cI, 5760, .inl f)), (gT, .inl (cI, 32, .inl t)), (gZ, .inl (cZ, 120, .inl z))] := hD
  refine lv_aload_n hx hb dX4_crash_5 rfl (lv_at hl 0 rfl) ?_
  refine va_get (D := D) (cl := vwCl) (ci := 4) (v := .int (b2i O)) (C := RX4) (T := TX4) (N := 12) hx hb hts hiX4 hown hK hP 0 rfl rfl 5 (by decide) hk1 (fun _ h9 => h9) rfl dX4_crash_6 ?_
  refine lv_if_eq (tgt := 15) hx hb dX4_crash_9 (by decide) (fun c9 => ?_) (fun c9 => ?_)
  · skip
    refine lv_iload_n hx hb dX4_crash_15 rfl (lv_at hl 1 rfl) ?_
    refine lv_iconst (v := (-1)) hx hb dX4_crash_16 (by decide) ?_
    refine lv_icmp_lt (tgt := 27) hx hb dX4_crash_17 (by decide) (fun c17 => ?_) (fun c17 => ?_)
    · skip
      refine lv_bipush (v := (-2)) hx hb dX4_crash_27 (by decide) ?_
      have e9 : sp_crR O lf tc x = ((-2), O, lf, tc) := by unfold sp_crR; rw [ifp_f (b2i_0.mp c9), ifp_t (Or.inl c17)]
      exact ct_iret hx hb hr hlocks (by rw [e9]) (by rw [e9]) hP hD hS dX4_crash_29
    · skip
      refine lv_iload_n hx hb dX4_crash_20 rfl (lv_at hl 1 rfl) ?_
      refine lv_sipush (v := 1000) hx hb dX4_crash_21 (by decide) ?_
      refine lv_icmp_le (tgt := 30) hx hb dX4_crash_24 (by decide) (fun c24 => ?_) (fun c24 => ?_)
      · skip
        refine lv_aload_n hx hb dX4_crash_30 rfl (lv_at hl 0 rfl) ?_
        refine lv_iload_n hx hb dX4_crash_31 rfl (lv_at hl 1 rfl) ?_
        refine va_put (D := D) (cl := vwCl) (ci := 4) (v := .int x) (ty := .int) (C := RX4) (T := TX4) (N := 12) hx hb hts hiX4 tyX4 tyX4_ok nmX4 hown hK hP hD hS 0 rfl rfl 6 (by decide) hk2 (fun _ h9 => h9) rfl (by decide +kernel) rfl rfl (Nat.le_of_ble_eq_true rfl) dX4_crash_32 (fun H locs hP hD hS => ?_)
        have hP : va_P D vwCl [(hm, .inr (4, [.int 0, .int (nI a), .ref gB, .int (nI nw), .int (nI ol), .int (b2i O), .int x, .int us, .int (nI tc), .ref gT, .ref gZ, .int bd])), (gB, .inl (cI, 5760, .inl f)), (gT, .inl (cI, 32, .inl t)), (gZ, .inl (cZ, 120, .inl z))] _ := hP
        have hD : va_D A [(hm, .inr (4, [.int 0, .int (nI a), .ref gB, .int (nI nw), .int (nI ol), .int (b2i O), .int x, .int us, .int (nI tc), .ref gT, .ref gZ, .int bd])), (gB, .inl (cI, 5760, .inl f)), (gT, .inl (cI, 32, .inl t)), (gZ, .inl (cZ, 120, .inl z))] := hD
        refine lv_iload_n hx hb dX4_crash_35 rfl (lv_at hl 1 rfl) ?_
        refine lv_if_ne (tgt := 43) hx hb dX4_crash_36 (by decide) (fun c36 => ?_) (fun c36 => ?_)
        · skip
          refine lv_iconst (v := 1) hx hb dX4_crash_43 (by decide) ?_
          have e9 : sp_crR O lf tc x = (1, O, x, tc) := by unfold sp_crR; rw [ifp_f (b2i_0.mp c9), ifp_f (fun h => h.elim c17 (Int32.not_lt.mpr c24)), ifp_f c36]
          exact ct_iret hx hb hr hlocks (by rw [e9]) (by rw [e9]) hP hD hS dX4_crash_44
        · skip
          refine lv_aload_n hx hb dX4_crash_39 rfl (lv_at hl 0 rfl) ?_
          refine ct_callv (w := [(hm, .inr (4, [.int 0, .int (nI a), .ref gB, .int (nI nw), .int (nI ol), .int (b2i O), .int x, .int us, .int (nI tc), .ref gT, .ref gZ, .int bd])), (gB, .inl (cI, 5760, .inl f)), (gT, .inl (cI, 32, .inl t)), (gZ, .inl (cZ, 120, .inl z))]) (w' := [(hm, .inr (4, [.int 0, .int (nI a), .ref gB, .int (nI nw), .int (nI ol), .int (b2i True), .int (-1), .int us, .int (nI 0), .ref gT, .ref gZ, .int bd])), (gB, .inl (cI, 5760, .inl f)), (gT, .inl (cI, 32, .inl t)), (gZ, .inl (cZ, 120, .inl z))]) (va_runV (As := []) (rest := []) ⟨hx, hb, hml, hown, hts⟩ (c_X4_fail l D cI cZ hm gB gT gZ a tc nw ol f t z O x us bd  (by omega) (by omega) (by omega) (by omega) (by omega)  _) (cwV 0 hts gX4_crash_X4_fail rfl rfl rfl (by decide +kernel) ⟨Nat.le_of_ble_eq_true rfl, Nat.le_of_ble_eq_true rfl⟩) (ct_preV (w := [(hm, .inr (4, [.int 0, .int (nI a), .ref gB, .int (nI nw), .int (nI ol), .int (b2i O), .int x, .int us, .int (nI tc), .ref gT, .ref gZ, .int bd])), (gB, .inl (cI, 5760, .inl f)), (gT, .inl (cI, 32, .inl t)), (gZ, .inl (cZ, 120, .inl z))]) (ci := 4) (i0 := 0) hK hN hP hD [0, 1, 2, 3] (by decide) rfl rfl rfl) rfl rfl hl.1 rfl (lv_room (Nat.le_of_ble_eq_true rfl)) dX4_crash_40 ⟨Nat.le_of_ble_eq_true rfl, Nat.le_of_ble_eq_true rfl⟩) hP hD hS hA [0, 1, 2, 3] rfl [hm, gB, gT, gZ] rfl rfl (fun H locs hP hD hS => ?_)
          have hP : va_P D vwCl [(hm, .inr (4, [.int 0, .int (nI a), .ref gB, .int (nI nw), .int (nI ol), .int (b2i True), .int (-1), .int us, .int (nI 0), .ref gT, .ref gZ, .int bd])), (gB, .inl (cI, 5760, .inl f)), (gT, .inl (cI, 32, .inl t)), (gZ, .inl (cZ, 120, .inl z))] _ := hP
          have hD : va_D A [(hm, .inr (4, [.int 0, .int (nI a), .ref gB, .int (nI nw), .int (nI ol), .int (b2i True), .int (-1), .int us, .int (nI 0), .ref gT, .ref gZ, .int bd])), (gB, .inl (cI, 5760, .inl f)), (gT, .inl (cI, 32, .inl t)), (gZ, .inl (cZ, 120, .inl z))] := hD
          refine lv_iconst (v := 1) hx hb dX4_crash_43 (by decide) ?_
          have e9 : sp_crR O lf tc x = (1, True, (-1), 0) := by unfold sp_crR; rw [ifp_f (b2i_0.mp c9), ifp_f (fun h => h.elim c17 (Int32.not_lt.mpr c24)), ifp_t c36]
          exact ct_iret hx hb hr hlocks (by rw [e9]) (by rw [e9]) hP hD hS dX4_crash_44
      · skip
        refine lv_bipush (v := (-2)) hx hb dX4_crash_27 (by decide) ?_
        have e9 : sp_crR O lf tc x = ((-2), O, lf, tc) := by unfold sp_crR; rw [ifp_f (b2i_0.mp c9), ifp_t (Or.inr (Int32.not_le.mp c24))]
        exact ct_iret hx hb hr hlocks (by rw [e9]) (by rw [e9]) hP hD hS dX4_crash_29
  · skip
    refine lv_bipush (v := (-5)) hx hb dX4_crash_12 (by decide) ?_
    have e9 : sp_crR O lf tc x = ((-5), O, lf, tc) := by unfold sp_crR; rw [ifp_t (b2i_n0 c9)]
    exact ct_iret hx hb hr hlocks (by rw [e9]) (by rw [e9]) hP hD hS dX4_crash_14
set_option maxHeartbeats 4000000 in
set_option maxRecDepth 100000 in
theorem c_X4_reopen (l : Launch) (D : va_G) (cI cZ : ClassId) (hm gB gT gZ a tc nw ol : Nat) (f t z : Nat → Int32) (O : Prop) (lf us bd : Int32) (ha : a ≤ 120) (h12 : 12 ≤ a) (htc : tc ≤ 32) (hnw : nw ≤ 1000000) (hol : ol ≤ nw + 1) : CtI l yX4_reopen wsX4_reopen ({ frames := 4, cells := 0, slots := 0, locals := 92 }) D vwCl (ct_T cI cZ) [.ref hm] [(hm, .inr (4, [.int 0, .int (nI a), .ref gB, .int (nI nw), .int (nI ol), .int (b2i O), .int lf, .int us, .int (nI tc), .ref gT, .ref gZ, .int bd])), (gB, .inl (cI, 5760, .inl f)), (gT, .inl (cI, 32, .inl t)), (gZ, .inl (cZ, 120, .inl z))] [(hm, .inr (4, [.int 0, .int (nI a), .ref gB, .int (nI ((ro f a 8).1)), .int (nI ((ro f a 8).2)), .int (b2i False), .int (-1), .int us, .int (nI 0), .ref gT, .ref gZ, .int bd])), (gB, .inl (cI, 5760, .inl f)), (gT, .inl (cI, 32, .inl t)), (gZ, .inl (cZ, 120, .inl z))] (nI (ro f a 8).1) := by
  refine ct_of (Qf := ct_Qi D vwCl [(hm, .inr (4, [.int 0, .int (nI a), .ref gB, .int (nI ((ro f a 8).1)), .int (nI ((ro f a 8).2)), .int (b2i False), .int (-1), .int us, .int (nI 0), .ref gT, .ref gZ, .int bd])), (gB, .inl (cI, 5760, .inl f)), (gT, .inl (cI, 32, .inl t)), (gZ, .inl (cZ, 120, .inl z))] (nI (ro f a 8).1)) (cc := cX4_reopen) (maxL := 2) (ret := (some .int)) [(0, .ref hm)] (by decide) rfl (Nat.le_of_ble_eq_true rfl) rfl ?_
  intro p e s m below meth c hx hb hr hts hown hlocks hml hnm A hA hK hN hP hD hS ls hl
  have hown : s.vm.findClass RX4 = some m.cls := hown
  have hk0 := hts (.fieldLink RX4 30 "DesignPagesModel" "code" "I") (by decide +kernel)
  have hk1 := hts (.fieldLink RX4 83 "DesignPagesModel" "down" "Z") (by decide +kernel)
  have hk2 := hts (.fieldLink RX4 17 "DesignPagesModel" "left" "I") (by decide +kernel)
  have hk3 := hts (.fieldLink RX4 87 "DesignPagesModel" "typed" "I") (by decide +kernel)
  have hk4 := hts (.fieldLink RX4 67 "DesignPagesModel" "newest" "I") (by decide +kernel)
  have hk5 := hts (.fieldLink RX4 13 "DesignPagesModel" "oldest" "I") (by decide +kernel)
  have hiX4 : ∀ w ∈ wsX40, w ∈ wsX4_reopen := by decide +kernel
  refine lv_aload_n hx hb dX4_reopen_0 rfl (lv_at hl 0 rfl) ?_
  refine lv_iconst (v := 0) hx hb dX4_reopen_1 (by decide) ?_
  refine va_put (D := D) (cl := vwCl) (ci := 4) (v := .int 0) (ty := .int) (C := RX4) (T := TX4) (N := 12) hx hb hts hiX4 tyX4 tyX4_ok nmX4 hown hK hP hD hS 0 rfl rfl 0 (by decide) hk0 (fun _ h9 => h9) rfl (by decide +kernel) rfl rfl (Nat.le_of_ble_eq_true rfl) dX4_reopen_2 (fun H locs hP hD hS => ?_)
  have hP : va_P D vwCl [(hm, .inr (4, [.int 0, .int (nI a), .ref gB, .int (nI nw), .int (nI ol), .int (b2i O), .int lf, .int us, .int (nI tc), .ref gT, .ref gZ, .int bd])), (gB, .inl (cI, 5760, .inl f)), (gT, .inl (cI, 32, .inl t)), (gZ, .inl (cZ, 120, .inl z))] _ := hP
  have hD : va_D A [(hm, .inr (4, [.int 0, .int (nI a), .ref gB, .int (nI nw), .int (nI ol), .int (b2i O), .int lf, .int us, .int (nI tc), .ref gT, .ref gZ, .int bd])), (gB, .inl (cI, 5760, .inl f)), (gT, .inl (cI, 32, .inl t)), (gZ, .inl (cZ, 120, .inl z))] := hD
  refine lv_aload_n hx hb dX4_reopen_5 rfl (lv_at hl 0 rfl) ?_
  refine lv_iconst (v := 0) hx hb dX4_reopen_6 (by decide) ?_
  refine va_put (D := D) (cl := vwCl) (ci := 4) (v := .int 0) (ty := .boolean) (C := RX4) (T := TX4) (N := 12) hx hb hts hiX4 tyX4 tyX4_ok nmX4 hown hK hP hD hS 0 rfl rfl 5 (by decide) hk1 (fun _ h9 => h9) rfl (by decide +kernel) rfl rfl (Nat.le_of_ble_eq_true rfl) dX4_reopen_7 (fun H locs hP hD hS => ?_)
  have hP : va_P D vwCl [(hm, .inr (4, [.int 0, .int (nI a), .ref gB, .int (nI nw), .int (nI ol), .int 0, .int lf, .int us, .int (nI tc), .ref gT, .ref gZ, .int bd])), (gB, .inl (cI, 5760, .inl f)), (gT, .inl (cI, 32, .inl t)), (gZ, .inl (cZ, 120, .inl z))] _ := hP
  have hD : va_D A [(hm, .inr (4, [.int 0, .int (nI a), .ref gB, .int (nI nw), .int (nI ol), .int 0, .int lf, .int us, .int (nI tc), .ref gT, .ref gZ, .int bd])), (gB, .inl (cI, 5760, .inl f)), (gT, .inl (cI, 32, .inl t)), (gZ, .inl (cZ, 120, .inl z))] := hD
  have ez : (b2i False : Int32) = 0 := b2i_f id
  have hP : va_P D vwCl [(hm, .inr (4, [.int 0, .int (nI a), .ref gB, .int (nI nw), .int (nI ol), .int (b2i False), .int lf, .int us, .int (nI tc), .ref gT, .ref gZ, .int bd])), (gB, .inl (cI, 5760, .inl f)), (gT, .inl (cI, 32, .inl t)), (gZ, .inl (cZ, 120, .inl z))] H := by rw [ez]; exact hP
  have hD : va_D A [(hm, .inr (4, [.int 0, .int (nI a), .ref gB, .int (nI nw), .int (nI ol), .int (b2i False), .int lf, .int us, .int (nI tc), .ref gT, .ref gZ, .int bd])), (gB, .inl (cI, 5760, .inl f)), (gT, .inl (cI, 32, .inl t)), (gZ, .inl (cZ, 120, .inl z))] := by rw [ez]; exact hD
  refine lv_aload_n hx hb dX4_reopen_10 rfl (lv_at hl 0 rfl) ?_
  refine lv_iconst (v := (-1)) hx hb dX4_reopen_11 (by decide) ?_
  refine va_put (D := D) (cl := vwCl) (ci := 4) (v := .int (-1)) (ty := .int) (C := RX4) (T := TX4) (N := 12) hx hb hts hiX4 tyX4 tyX4_ok nmX4 hown hK hP hD hS 0 rfl rfl 6 (by decide) hk2 (fun _ h9 => h9) rfl (by decide +kernel) rfl rfl (Nat.le_of_ble_eq_true rfl) dX4_reopen_12 (fun H locs hP hD hS => ?_)
  have hP : va_P D vwCl [(hm, .inr (4, [.int 0, .int (nI a), .ref gB, .int (nI nw), .int (nI ol), .int (b2i False), .int (-1), .int us, .int (nI tc), .ref gT, .ref gZ, .int bd])), (gB, .inl (cI, 5760, .inl f)), (gT, .inl (cI, 32, .inl t)), (gZ, .inl (cZ, 120, .inl z))] _ := hP
  have hD : va_D A [(hm, .inr (4, [.int 0, .int (nI a), .ref gB, .int (nI nw), .int (nI ol), .int (b2i False), .int (-1), .int us, .int (nI tc), .ref gT, .ref gZ, .int bd])), (gB, .inl (cI, 5760, .inl f)), (gT, .inl (cI, 32, .inl t)), (gZ, .inl (cZ, 120, .inl z))] := hD
  refine lv_aload_n hx hb dX4_reopen_15 rfl (lv_at hl 0 rfl) ?_
  refine lv_iconst (v := 0) hx hb dX4_reopen_16 (by decide) ?_
  refine va_put (D := D) (cl := vwCl) (ci := 4) (v := .int 0) (ty := .int) (C := RX4) (T := TX4) (N := 12) hx hb hts hiX4 tyX4 tyX4_ok nmX4 hown hK hP hD hS 0 rfl rfl 8 (by decide) hk3 (fun _ h9 => h9) rfl (by decide +kernel) rfl rfl (Nat.le_of_ble_eq_true rfl) dX4_reopen_17 (fun H locs hP hD hS => ?_)
  have hP : va_P D vwCl [(hm, .inr (4, [.int 0, .int (nI a), .ref gB, .int (nI nw), .int (nI ol), .int (b2i False), .int (-1), .int us, .int 0, .ref gT, .ref gZ, .int bd])), (gB, .inl (cI, 5760, .inl f)), (gT, .inl (cI, 32, .inl t)), (gZ, .inl (cZ, 120, .inl z))] _ := hP
  have hD : va_D A [(hm, .inr (4, [.int 0, .int (nI a), .ref gB, .int (nI nw), .int (nI ol), .int (b2i False), .int (-1), .int us, .int 0, .ref gT, .ref gZ, .int bd])), (gB, .inl (cI, 5760, .inl f)), (gT, .inl (cI, 32, .inl t)), (gZ, .inl (cZ, 120, .inl z))] := hD
  refine lv_aload_n hx hb dX4_reopen_20 rfl (lv_at hl 0 rfl) ?_
  refine lv_iconst (v := 0) hx hb dX4_reopen_21 (by decide) ?_
  refine va_put (D := D) (cl := vwCl) (ci := 4) (v := .int 0) (ty := .int) (C := RX4) (T := TX4) (N := 12) hx hb hts hiX4 tyX4 tyX4_ok nmX4 hown hK hP hD hS 0 rfl rfl 3 (by decide) hk4 (fun _ h9 => h9) rfl (by decide +kernel) rfl rfl (Nat.le_of_ble_eq_true rfl) dX4_reopen_22 (fun H locs hP hD hS => ?_)
  have hP : va_P D vwCl [(hm, .inr (4, [.int 0, .int (nI a), .ref gB, .int 0, .int (nI ol), .int (b2i False), .int (-1), .int us, .int 0, .ref gT, .ref gZ, .int bd])), (gB, .inl (cI, 5760, .inl f)), (gT, .inl (cI, 32, .inl t)), (gZ, .inl (cZ, 120, .inl z))] _ := hP
  have hD : va_D A [(hm, .inr (4, [.int 0, .int (nI a), .ref gB, .int 0, .int (nI ol), .int (b2i False), .int (-1), .int us, .int 0, .ref gT, .ref gZ, .int bd])), (gB, .inl (cI, 5760, .inl f)), (gT, .inl (cI, 32, .inl t)), (gZ, .inl (cZ, 120, .inl z))] := hD
  refine lv_aload_n hx hb dX4_reopen_25 rfl (lv_at hl 0 rfl) ?_
  refine lv_iconst (v := 1) hx hb dX4_reopen_26 (by decide) ?_
  refine va_put (D := D) (cl := vwCl) (ci := 4) (v := .int 1) (ty := .int) (C := RX4) (T := TX4) (N := 12) hx hb hts hiX4 tyX4 tyX4_ok nmX4 hown hK hP hD hS 0 rfl rfl 4 (by decide) hk5 (fun _ h9 => h9) rfl (by decide +kernel) rfl rfl (Nat.le_of_ble_eq_true rfl) dX4_reopen_27 (fun H locs hP hD hS => ?_)
  have hP : va_P D vwCl [(hm, .inr (4, [.int 0, .int (nI a), .ref gB, .int 0, .int 1, .int (b2i False), .int (-1), .int us, .int 0, .ref gT, .ref gZ, .int bd])), (gB, .inl (cI, 5760, .inl f)), (gT, .inl (cI, 32, .inl t)), (gZ, .inl (cZ, 120, .inl z))] _ := hP
  have hD : va_D A [(hm, .inr (4, [.int 0, .int (nI a), .ref gB, .int 0, .int 1, .int (b2i False), .int (-1), .int us, .int 0, .ref gT, .ref gZ, .int bd])), (gB, .inl (cI, 5760, .inl f)), (gT, .inl (cI, 32, .inl t)), (gZ, .inl (cZ, 120, .inl z))] := hD
  refine lv_iconst (v := 0) hx hb dX4_reopen_30 (by decide) ?_
  refine lv_istore_n (lv' := [(1, .int 0), (0, .ref hm)]) hx hb dX4_reopen_31 rfl hl (by decide) rfl (fun ls hl => ?_)
  have loop32 : ∀ (n32 : Nat) (i u v : Nat), i ≤ 8 → u ≤ 1000000 → v ≤ u + 1 → (u, v) = ro f a i → 8 - i < n32 → ∀ (H : Heap) (locs : List Loc), va_P D vwCl [(hm, .inr (4, [.int 0, .int (nI a), .ref gB, .int (nI u), .int (nI v), .int (b2i False), .int (-1), .int us, .int (nI 0), .ref gT, .ref gZ, .int bd])), (gB, .inl (cI, 5760, .inl f)), (gT, .inl (cI, 32, .inl t)), (gZ, .inl (cZ, 120, .inl z))] H → va_D A [(hm, .inr (4, [.int 0, .int (nI a), .ref gB, .int (nI u), .int (nI v), .int (b2i False), .int (-1), .int us, .int (nI 0), .ref gT, .ref gZ, .int bd])), (gB, .inl (cI, 5760, .inl f)), (gT, .inl (cI, 32, .inl t)), (gZ, .inl (cZ, 120, .inl z))] → va_S A s.heap H locs → ∀ (ls : Array Slot), lv_has ls 2 [(1, .int (nI i)), (0, .ref hm)] → W p l e ({ frames := 4, cells := 0, slots := 0, locals := 92 }) s m ([.ref hm] : List Value).toArray below meth c H locs 0 0 (MQ below (ct_Qi D vwCl [(hm, .inr (4, [.int 0, .int (nI a), .ref gB, .int (nI ((ro f a 8).1)), .int (nI ((ro f a 8).2)), .int (b2i False), .int (-1), .int us, .int (nI 0), .ref gT, .ref gZ, .int bd])), (gB, .inl (cI, 5760, .inl f)), (gT, .inl (cI, 32, .inl t)), (gZ, .inl (cZ, 120, .inl z))] (nI (ro f a 8).1) A) ([.ref hm] : List Value).toArray s 0 0 A) (F0 m 32 ls []) := by
    intro n32
    induction n32 with
    | zero =>
      intro i u v _ _ _ _ hm
      exact absurd hm (Nat.not_lt_zero _)
    | succ n32 ih32 =>
      intro i u v hi hu hvu ex hm32 H locs hP hD hS ls hl
      refine lv_iload_n hx hb dX4_reopen_32 rfl (lv_at hl 0 rfl) ?_
      refine lv_bipush (v := 8) hx hb dX4_reopen_33 (by decide) ?_
      refine lv_icmp_ge (tgt := 86) hx hb dX4_reopen_35 (by decide) (fun c35 => ?_) (fun c35 => ?_)
      · skip
        have c35 : 8 ≤ i := (nI_leI (a := 8) (b := i) (by omega) (by omega)).mp c35
        refine lv_aload_n hx hb dX4_reopen_86 rfl (lv_at hl 1 rfl) ?_
        refine va_get (D := D) (cl := vwCl) (ci := 4) (v := .int (nI u)) (C := RX4) (T := TX4) (N := 12) hx hb hts hiX4 hown hK hP 0 rfl rfl 3 (by decide) hk4 (fun _ h9 => h9) rfl dX4_reopen_87 ?_
        have e1 : i = 8 := by omega
        subst e1
        exact ct_iret hx hb hr hlocks (by rw [← ex]) (by rw [← ex]) hP hD hS dX4_reopen_90
      · skip
        have c35 : ¬ 8 ≤ i := fun h => c35 ((nI_leI (a := 8) (b := i) (by omega) (by omega)).mpr h)
        refine lv_aload_n hx hb dX4_reopen_38 rfl (lv_at hl 1 rfl) ?_
        refine lv_iload_n hx hb dX4_reopen_39 rfl (lv_at hl 0 rfl) ?_
        refine lv_iconst (v := 1) hx hb dX4_reopen_40 (by decide) ?_
        refine ct_calli (w := [(hm, .inr (4, [.int 0, .int (nI a), .ref gB, .int (nI u), .int (nI v), .int (b2i False), .int (-1), .int us, .int (nI 0), .ref gT, .ref gZ, .int bd])), (gB, .inl (cI, 5760, .inl f)), (gT, .inl (cI, 32, .inl t)), (gZ, .inl (cZ, 120, .inl z))]) (w' := [(hm, .inr (4, [.int 0, .int (nI a), .ref gB, .int (nI u), .int (nI v), .int (b2i False), .int (-1), .int us, .int (nI 0), .ref gT, .ref gZ, .int bd])), (gB, .inl (cI, 5760, .inl f)), (gT, .inl (cI, 32, .inl t)), (gZ, .inl (cZ, 120, .inl z))]) (va_runV (As := [.int (nI i), .int 1]) (rest := []) ⟨hx, hb, hml, hown, hts⟩ (c_X4_isRight l D cI cZ hm gB gT gZ a 0 u v f t z False (-1) us bd i 1 (by omega) (by omega) (by omega) (by omega) (by omega) (by omega) (Or.inl rfl) _) (cwV 2 hts gX4_reopen_X4_isRight rfl rfl rfl (by decide +kernel) ⟨Nat.le_of_ble_eq_true rfl, Nat.le_of_ble_eq_true rfl⟩) (ct_preV (w := [(hm, .inr (4, [.int 0, .int (nI a), .ref gB, .int (nI u), .int (nI v), .int (b2i False), .int (-1), .int us, .int (nI 0), .ref gT, .ref gZ, .int bd])), (gB, .inl (cI, 5760, .inl f)), (gT, .inl (cI, 32, .inl t)), (gZ, .inl (cZ, 120, .inl z))]) (ci := 4) (i0 := 0) hK hN hP hD [0, 1, 2, 3] (by decide) rfl rfl rfl) rfl rfl hl.1 rfl (lv_room (Nat.le_of_ble_eq_true rfl)) dX4_reopen_41 ⟨Nat.le_of_ble_eq_true rfl, Nat.le_of_ble_eq_true rfl⟩) hP hD hS hA [0, 1, 2, 3] rfl [hm, gB, gT, gZ] rfl rfl (fun H locs hP hD hS => ?_)
        have hP : va_P D vwCl [(hm, .inr (4, [.int 0, .int (nI a), .ref gB, .int (nI u), .int (nI v), .int (b2i False), .int (-1), .int us, .int (nI 0), .ref gT, .ref gZ, .int bd])), (gB, .inl (cI, 5760, .inl f)), (gT, .inl (cI, 32, .inl t)), (gZ, .inl (cZ, 120, .inl z))] _ := hP
        have hD : va_D A [(hm, .inr (4, [.int 0, .int (nI a), .ref gB, .int (nI u), .int (nI v), .int (b2i False), .int (-1), .int us, .int (nI 0), .ref gT, .ref gZ, .int bd])), (gB, .inl (cI, 5760, .inl f)), (gT, .inl (cI, 32, .inl t)), (gZ, .inl (cZ, 120, .inl z))] := hD
        refine lv_if_eq (tgt := 80) hx hb dX4_reopen_44 (by decide) (fun c44 => ?_) (fun c44 => ?_)
        · skip
          refine lv_iinc (v := nI (i + 1)) (lv' := [(1, .int (nI (i + 1))), (0, .ref hm)]) hx hb dX4_reopen_80 hl (k := 0) rfl (nI_add i 1) (by decide) rfl (fun ls hl => ?_)
          refine lv_goto (tgt := 32) hx hb dX4_reopen_83 (by decide) ?_
          exact ih32 (i + 1) u v (by omega) (by omega) (by omega) (ro_f ex (b2i_0.mp c44)) (by omega) _ _ hP hD hS ls (lv_sub hl [0, 1] rfl)
        · skip
          refine lv_aload_n hx hb dX4_reopen_47 rfl (lv_at hl 1 rfl) ?_
          refine lv_iload_n hx hb dX4_reopen_48 rfl (lv_at hl 0 rfl) ?_
          refine lv_iconst (v := 1) hx hb dX4_reopen_49 (by decide) ?_
          refine ct_calli (w := [(hm, .inr (4, [.int 0, .int (nI a), .ref gB, .int (nI u), .int (nI v), .int (b2i False), .int (-1), .int us, .int (nI 0), .ref gT, .ref gZ, .int bd])), (gB, .inl (cI, 5760, .inl f)), (gT, .inl (cI, 32, .inl t)), (gZ, .inl (cZ, 120, .inl z))]) (w' := [(hm, .inr (4, [.int 0, .int (nI a), .ref gB, .int (nI u), .int (nI v), .int (b2i False), .int (-1), .int us, .int (nI 0), .ref gT, .ref gZ, .int bd])), (gB, .inl (cI, 5760, .inl f)), (gT, .inl (cI, 32, .inl t)), (gZ, .inl (cZ, 120, .inl z))]) (va_runV (As := [.int (nI i), .int 1]) (rest := []) ⟨hx, hb, hml, hown, hts⟩ (c_X4_number l D cI cZ hm gB gT gZ a 0 u v f t z False (-1) us bd i 1 (by omega) (by omega) (by omega) (by omega) (by omega) (by omega) (by omega) _) (cwV 2 hts gX4_reopen_X4_number rfl rfl rfl (by decide +kernel) ⟨Nat.le_of_ble_eq_true rfl, Nat.le_of_ble_eq_true rfl⟩) (ct_preV (w := [(hm, .inr (4, [.int 0, .int (nI a), .ref gB, .int (nI u), .int (nI v), .int (b2i False), .int (-1), .int us, .int (nI 0), .ref gT, .ref gZ, .int bd])), (gB, .inl (cI, 5760, .inl f)), (gT, .inl (cI, 32, .inl t)), (gZ, .inl (cZ, 120, .inl z))]) (ci := 4) (i0 := 0) hK hN hP hD [0, 1, 2, 3] (by decide) rfl rfl rfl) rfl rfl hl.1 rfl (lv_room (Nat.le_of_ble_eq_true rfl)) dX4_reopen_50 ⟨Nat.le_of_ble_eq_true rfl, Nat.le_of_ble_eq_true rfl⟩) hP hD hS hA [0, 1, 2, 3] rfl [hm, gB, gT, gZ] rfl rfl (fun H locs hP hD hS => ?_)
          have hP : va_P D vwCl [(hm, .inr (4, [.int 0, .int (nI a), .ref gB, .int (nI u), .int (nI v), .int (b2i False), .int (-1), .int us, .int (nI 0), .ref gT, .ref gZ, .int bd])), (gB, .inl (cI, 5760, .inl f)), (gT, .inl (cI, 32, .inl t)), (gZ, .inl (cZ, 120, .inl z))] _ := hP
          have hD : va_D A [(hm, .inr (4, [.int 0, .int (nI a), .ref gB, .int (nI u), .int (nI v), .int (b2i False), .int (-1), .int us, .int (nI 0), .ref gT, .ref gZ, .int bd])), (gB, .inl (cI, 5760, .inl f)), (gT, .inl (cI, 32, .inl t)), (gZ, .inl (cZ, 120, .inl z))] := hD
          have hvn := vers_nv (b2i_n0 c44) (by omega)
          obtain ⟨hv1, hv2, hv3, hv4, hv5, hv6, hv7, hv8⟩ := hvn
          refine ct_top (y := nI (nv (pg_num f (i * 48 + 1)))) (hv1) ?_
          refine lv_aload_n hx hb dX4_reopen_53 rfl (lv_at hl 1 rfl) ?_
          refine va_get (D := D) (cl := vwCl) (ci := 4) (v := .int (nI u)) (C := RX4) (T := TX4) (N := 12) hx hb hts hiX4 hown hK hP 0 rfl rfl 3 (by decide) hk4 (fun _ h9 => h9) rfl dX4_reopen_54 ?_
          refine lv_icmp_le (tgt := 80) hx hb dX4_reopen_57 (by decide) (fun c57 => ?_) (fun c57 => ?_)
          · skip
            have c57 : (nv (pg_num f (i * 48 + 1))) ≤ u := (nI_leI (a := (nv (pg_num f (i * 48 + 1)))) (b := u) (by omega) (by omega)).mp c57
            refine lv_iinc (v := nI (i + 1)) (lv' := [(1, .int (nI (i + 1))), (0, .ref hm)]) hx hb dX4_reopen_80 hl (k := 0) rfl (nI_add i 1) (by decide) rfl (fun ls hl => ?_)
            refine lv_goto (tgt := 32) hx hb dX4_reopen_83 (by decide) ?_
            exact ih32 (i + 1) u v (by omega) (by omega) (by omega) (ro_n ex (b2i_n0 c44) (Nat.not_lt.mpr c57)) (by omega) _ _ hP hD hS ls (lv_sub hl [0, 1] rfl)
          · skip
            have c57 : ¬ (nv (pg_num f (i * 48 + 1))) ≤ u := fun h => c57 ((nI_leI (a := (nv (pg_num f (i * 48 + 1)))) (b := u) (by omega) (by omega)).mpr h)
            refine lv_aload_n hx hb dX4_reopen_60 rfl (lv_at hl 1 rfl) ?_
            refine lv_aload_n hx hb dX4_reopen_61 rfl (lv_at hl 1 rfl) ?_
            refine lv_iload_n hx hb dX4_reopen_62 rfl (lv_at hl 0 rfl) ?_
            refine lv_iconst (v := 1) hx hb dX4_reopen_63 (by decide) ?_
            refine ct_calli (w := [(hm, .inr (4, [.int 0, .int (nI a), .ref gB, .int (nI u), .int (nI v), .int (b2i False), .int (-1), .int us, .int (nI 0), .ref gT, .ref gZ, .int bd])), (gB, .inl (cI, 5760, .inl f)), (gT, .inl (cI, 32, .inl t)), (gZ, .inl (cZ, 120, .inl z))]) (w' := [(hm, .inr (4, [.int 0, .int (nI a), .ref gB, .int (nI u), .int (nI v), .int (b2i False), .int (-1), .int us, .int (nI 0), .ref gT, .ref gZ, .int bd])), (gB, .inl (cI, 5760, .inl f)), (gT, .inl (cI, 32, .inl t)), (gZ, .inl (cZ, 120, .inl z))]) (va_runV (As := [.int (nI i), .int 1]) (rest := [.ref hm]) ⟨hx, hb, hml, hown, hts⟩ (c_X4_number l D cI cZ hm gB gT gZ a 0 u v f t z False (-1) us bd i 1 (by omega) (by omega) (by omega) (by omega) (by omega) (by omega) (by omega) _) (cwV 2 hts gX4_reopen_X4_number rfl rfl rfl (by decide +kernel) ⟨Nat.le_of_ble_eq_true rfl, Nat.le_of_ble_eq_true rfl⟩) (ct_preV (w := [(hm, .inr (4, [.int 0, .int (nI a), .ref gB, .int (nI u), .int (nI v), .int (b2i False), .int (-1), .int us, .int (nI 0), .ref gT, .ref gZ, .int bd])), (gB, .inl (cI, 5760, .inl f)), (gT, .inl (cI, 32, .inl t)), (gZ, .inl (cZ, 120, .inl z))]) (ci := 4) (i0 := 0) hK hN hP hD [0, 1, 2, 3] (by decide) rfl rfl rfl) rfl rfl hl.1 rfl (lv_room (Nat.le_of_ble_eq_true rfl)) dX4_reopen_64 ⟨Nat.le_of_ble_eq_true rfl, Nat.le_of_ble_eq_true rfl⟩) hP hD hS hA [0, 1, 2, 3] rfl [hm, gB, gT, gZ] rfl rfl (fun H locs hP hD hS => ?_)
            have hP : va_P D vwCl [(hm, .inr (4, [.int 0, .int (nI a), .ref gB, .int (nI u), .int (nI v), .int (b2i False), .int (-1), .int us, .int (nI 0), .ref gT, .ref gZ, .int bd])), (gB, .inl (cI, 5760, .inl f)), (gT, .inl (cI, 32, .inl t)), (gZ, .inl (cZ, 120, .inl z))] _ := hP
            have hD : va_D A [(hm, .inr (4, [.int 0, .int (nI a), .ref gB, .int (nI u), .int (nI v), .int (b2i False), .int (-1), .int us, .int (nI 0), .ref gT, .ref gZ, .int bd])), (gB, .inl (cI, 5760, .inl f)), (gT, .inl (cI, 32, .inl t)), (gZ, .inl (cZ, 120, .inl z))] := hD
            refine ct_top (y := nI (nv (pg_num f (i * 48 + 1)))) (hv1) ?_
            refine va_put (D := D) (cl := vwCl) (ci := 4) (v := .int (nI (nv (pg_num f (i * 48 + 1))))) (ty := .int) (C := RX4) (T := TX4) (N := 12) hx hb hts hiX4 tyX4 tyX4_ok nmX4 hown hK hP hD hS 0 rfl rfl 3 (by decide) hk4 (fun _ h9 => h9) rfl (by decide +kernel) rfl rfl (Nat.le_of_ble_eq_true rfl) dX4_reopen_67 (fun H locs hP hD hS => ?_)
            have hP : va_P D vwCl [(hm, .inr (4, [.int 0, .int (nI a), .ref gB, .int (nI (nv (pg_num f (i * 48 + 1)))), .int (nI v), .int (b2i False), .int (-1), .int us, .int (nI 0), .ref gT, .ref gZ, .int bd])), (gB, .inl (cI, 5760, .inl f)), (gT, .inl (cI, 32, .inl t)), (gZ, .inl (cZ, 120, .inl z))] _ := hP
            have hD : va_D A [(hm, .inr (4, [.int 0, .int (nI a), .ref gB, .int (nI (nv (pg_num f (i * 48 + 1)))), .int (nI v), .int (b2i False), .int (-1), .int us, .int (nI 0), .ref gT, .ref gZ, .int bd])), (gB, .inl (cI, 5760, .inl f)), (gT, .inl (cI, 32, .inl t)), (gZ, .inl (cZ, 120, .inl z))] := hD
            refine lv_aload_n hx hb dX4_reopen_70 rfl (lv_at hl 1 rfl) ?_
            refine lv_aload_n hx hb dX4_reopen_71 rfl (lv_at hl 1 rfl) ?_
            refine lv_iload_n hx hb dX4_reopen_72 rfl (lv_at hl 0 rfl) ?_
            refine lv_iconst (v := 5) hx hb dX4_reopen_73 (by decide) ?_
            refine ct_calli (w := [(hm, .inr (4, [.int 0, .int (nI a), .ref gB, .int (nI (nv (pg_num f (i * 48 + 1)))), .int (nI v), .int (b2i False), .int (-1), .int us, .int (nI 0), .ref gT, .ref gZ, .int bd])), (gB, .inl (cI, 5760, .inl f)), (gT, .inl (cI, 32, .inl t)), (gZ, .inl (cZ, 120, .inl z))]) (w' := [(hm, .inr (4, [.int 0, .int (nI a), .ref gB, .int (nI (nv (pg_num f (i * 48 + 1)))), .int (nI v), .int (b2i False), .int (-1), .int us, .int (nI 0), .ref gT, .ref gZ, .int bd])), (gB, .inl (cI, 5760, .inl f)), (gT, .inl (cI, 32, .inl t)), (gZ, .inl (cZ, 120, .inl z))]) (va_runV (As := [.int (nI i), .int 5]) (rest := [.ref hm]) ⟨hx, hb, hml, hown, hts⟩ (c_X4_number l D cI cZ hm gB gT gZ a 0 (nv (pg_num f (i * 48 + 1))) v f t z False (-1) us bd i 5 (by omega) (by omega) (by omega) (by omega) (by omega) (by omega) (by omega) _) (cwV 2 hts gX4_reopen_X4_number rfl rfl rfl (by decide +kernel) ⟨Nat.le_of_ble_eq_true rfl, Nat.le_of_ble_eq_true rfl⟩) (ct_preV (w := [(hm, .inr (4, [.int 0, .int (nI a), .ref gB, .int (nI (nv (pg_num f (i * 48 + 1)))), .int (nI v), .int (b2i False), .int (-1), .int us, .int (nI 0), .ref gT, .ref gZ, .int bd])), (gB, .inl (cI, 5760, .inl f)), (gT, .inl (cI, 32, .inl t)), (gZ, .inl (cZ, 120, .inl z))]) (ci := 4) (i0 := 0) hK hN hP hD [0, 1, 2, 3] (by decide) rfl rfl rfl) rfl rfl hl.1 rfl (lv_room (Nat.le_of_ble_eq_true rfl)) dX4_reopen_74 ⟨Nat.le_of_ble_eq_true rfl, Nat.le_of_ble_eq_true rfl⟩) hP hD hS hA [0, 1, 2, 3] rfl [hm, gB, gT, gZ] rfl rfl (fun H locs hP hD hS => ?_)
            have hP : va_P D vwCl [(hm, .inr (4, [.int 0, .int (nI a), .ref gB, .int (nI (nv (pg_num f (i * 48 + 1)))), .int (nI v), .int (b2i False), .int (-1), .int us, .int (nI 0), .ref gT, .ref gZ, .int bd])), (gB, .inl (cI, 5760, .inl f)), (gT, .inl (cI, 32, .inl t)), (gZ, .inl (cZ, 120, .inl z))] _ := hP
            have hD : va_D A [(hm, .inr (4, [.int 0, .int (nI a), .ref gB, .int (nI (nv (pg_num f (i * 48 + 1)))), .int (nI v), .int (b2i False), .int (-1), .int us, .int (nI 0), .ref gT, .ref gZ, .int bd])), (gB, .inl (cI, 5760, .inl f)), (gT, .inl (cI, 32, .inl t)), (gZ, .inl (cZ, 120, .inl z))] := hD
            refine ct_top (y := nI (nv (pg_num f (i * 48 + 5)))) (hv5) ?_
            refine va_put (D := D) (cl := vwCl) (ci := 4) (v := .int (nI (nv (pg_num f (i * 48 + 5))))) (ty := .int) (C := RX4) (T := TX4) (N := 12) hx hb hts hiX4 tyX4 tyX4_ok nmX4 hown hK hP hD hS 0 rfl rfl 4 (by decide) hk5 (fun _ h9 => h9) rfl (by decide +kernel) rfl rfl (Nat.le_of_ble_eq_true rfl) dX4_reopen_77 (fun H locs hP hD hS => ?_)
            have hP : va_P D vwCl [(hm, .inr (4, [.int 0, .int (nI a), .ref gB, .int (nI (nv (pg_num f (i * 48 + 1)))), .int (nI (nv (pg_num f (i * 48 + 5)))), .int (b2i False), .int (-1), .int us, .int (nI 0), .ref gT, .ref gZ, .int bd])), (gB, .inl (cI, 5760, .inl f)), (gT, .inl (cI, 32, .inl t)), (gZ, .inl (cZ, 120, .inl z))] _ := hP
            have hD : va_D A [(hm, .inr (4, [.int 0, .int (nI a), .ref gB, .int (nI (nv (pg_num f (i * 48 + 1)))), .int (nI (nv (pg_num f (i * 48 + 5)))), .int (b2i False), .int (-1), .int us, .int (nI 0), .ref gT, .ref gZ, .int bd])), (gB, .inl (cI, 5760, .inl f)), (gT, .inl (cI, 32, .inl t)), (gZ, .inl (cZ, 120, .inl z))] := hD
            refine lv_iinc (v := nI (i + 1)) (lv' := [(1, .int (nI (i + 1))), (0, .ref hm)]) hx hb dX4_reopen_80 hl (k := 0) rfl (nI_add i 1) (by decide) rfl (fun ls hl => ?_)
            refine lv_goto (tgt := 32) hx hb dX4_reopen_83 (by decide) ?_
            exact ih32 (i + 1) (nv (pg_num f (i * 48 + 1))) (nv (pg_num f (i * 48 + 5))) (by omega) (by omega) (by omega) (ro_t ex (b2i_n0 c44) (Nat.lt_of_not_le c57)) (by omega) _ _ hP hD hS ls (lv_sub hl [0, 1] rfl)
  exact loop32 _ 0 0 1 (by omega) (by omega) (by omega) (rfl) (Nat.lt_succ_self _) _ _ hP hD hS ls (lv_sub hl [0, 1] rfl)
set_option maxHeartbeats 4000000 in
set_option maxRecDepth 100000 in
theorem c_X4_poke (l : Launch) (D : va_G) (cI cZ : ClassId) (hm gB gT gZ a tc nw ol : Nat) (f t z : Nat → Int32) (O : Prop) (lf us bd : Int32) (x y w : Int32) (ha : a ≤ 120) (h12 : 12 ≤ a) (htc : tc ≤ 32) (hnw : nw ≤ 1000000) (hol : ol ≤ nw + 1) : CtI l yX4_poke wsX4_poke ({ frames := 1, cells := 0, slots := 0, locals := 23 }) D vwCl (ct_T cI cZ) [.ref hm, .int x, .int y, .int w] [(hm, .inr (4, [.int 0, .int (nI a), .ref gB, .int (nI nw), .int (nI ol), .int (b2i O), .int lf, .int us, .int (nI tc), .ref gT, .ref gZ, .int bd])), (gB, .inl (cI, 5760, .inl f)), (gT, .inl (cI, 32, .inl t)), (gZ, .inl (cZ, 120, .inl z))] [(hm, .inr (4, [.int 0, .int (nI a), .ref gB, .int (nI nw), .int (nI ol), .int (b2i O), .int lf, .int us, .int (nI tc), .ref gT, .ref gZ, .int bd])), (gB, .inl (cI, 5760, .inl ((sp_pkR f a x y w).2))), (gT, .inl (cI, 32, .inl t)), (gZ, .inl (cZ, 120, .inl z))] ((sp_pkR f a x y w).1) := by
  refine ct_of (Qf := ct_Qi D vwCl [(hm, .inr (4, [.int 0, .int (nI a), .ref gB, .int (nI nw), .int (nI ol), .int (b2i O), .int lf, .int us, .int (nI tc), .ref gT, .ref gZ, .int bd])), (gB, .inl (cI, 5760, .inl ((sp_pkR f a x y w).2))), (gT, .inl (cI, 32, .inl t)), (gZ, .inl (cZ, 120, .inl z))] ((sp_pkR f a x y w).1)) (cc := cX4_poke) (maxL := 4) (ret := (some .int)) [(0, .ref hm), (1, .int x), (2, .int y), (3, .int w)] (by decide) rfl (Nat.le_of_ble_eq_true rfl) rfl ?_
  intro p e s m below meth c hx hb hr hts hown hlocks hml hnm A hA hK hN hP hD hS ls hl
  have hown : s.vm.findClass RX4 = some m.cls := hown
  have hk0 := hts (.fieldLink RX4 30 "DesignPagesModel" "code" "I") (by decide +kernel)
  have hiX4 : ∀ w ∈ wsX40, w ∈ wsX4_poke := by decide +kernel
  refine lv_aload_n hx hb dX4_poke_0 rfl (lv_at hl 0 rfl) ?_
  refine lv_iconst (v := 0) hx hb dX4_poke_1 (by decide) ?_
  refine va_put (D := D) (cl := vwCl) (ci := 4) (v := .int 0) (ty := .int) (C := RX4) (T := TX4) (N := 12) hx hb hts hiX4 tyX4 tyX4_ok nmX4 hown hK hP hD hS 0 rfl rfl 0 (by decide) hk0 (fun _ h9 => h9) rfl (by decide +kernel) rfl rfl (Nat.le_of_ble_eq_true rfl) dX4_poke_2 (fun H locs hP hD hS => ?_)
  have hP : va_P D vwCl [(hm, .inr (4, [.int 0, .int (nI a), .ref gB, .int (nI nw), .int (nI ol), .int (b2i O), .int lf, .int us, .int (nI tc), .ref gT, .ref gZ, .int bd])), (gB, .inl (cI, 5760, .inl f)), (gT, .inl (cI, 32, .inl t)), (gZ, .inl (cZ, 120, .inl z))] _ := hP
  have hD : va_D A [(hm, .inr (4, [.int 0, .int (nI a), .ref gB, .int (nI nw), .int (nI ol), .int (b2i O), .int lf, .int us, .int (nI tc), .ref gT, .ref gZ, .int bd])), (gB, .inl (cI, 5760, .inl f)), (gT, .inl (cI, 32, .inl t)), (gZ, .inl (cZ, 120, .inl z))] := hD
  refine lv_aload_n hx hb dX4_poke_5 rfl (lv_at hl 0 rfl) ?_
  refine lv_iload_n hx hb dX4_poke_6 rfl (lv_at hl 1 rfl) ?_
  refine lv_iload_n hx hb dX4_poke_7 rfl (lv_at hl 2 rfl) ?_
  refine ct_calli (w := [(hm, .inr (4, [.int 0, .int (nI a), .ref gB, .int (nI nw), .int (nI ol), .int (b2i O), .int lf, .int us, .int (nI tc), .ref gT, .ref gZ, .int bd])), (gB, .inl (cI, 5760, .inl f)), (gT, .inl (cI, 32, .inl t)), (gZ, .inl (cZ, 120, .inl z))]) (w' := [(hm, .inr (4, [.int 0, .int (nI a), .ref gB, .int (nI nw), .int (nI ol), .int (b2i O), .int lf, .int us, .int (nI tc), .ref gT, .ref gZ, .int bd])), (gB, .inl (cI, 5760, .inl f)), (gT, .inl (cI, 32, .inl t)), (gZ, .inl (cZ, 120, .inl z))]) (va_runV (As := [.int x, .int y]) (rest := []) ⟨hx, hb, hml, hown, hts⟩ (c_X4_isByte l D cI cZ hm gB gT gZ a tc nw ol f t z O lf us bd x y (by omega) (by omega) (by omega) (by omega) (by omega)  _) (cwV 2 hts gX4_poke_X4_isByte rfl rfl rfl (by decide +kernel) ⟨Nat.le_of_ble_eq_true rfl, Nat.le_of_ble_eq_true rfl⟩) (ct_preV (w := [(hm, .inr (4, [.int 0, .int (nI a), .ref gB, .int (nI nw), .int (nI ol), .int (b2i O), .int lf, .int us, .int (nI tc), .ref gT, .ref gZ, .int bd])), (gB, .inl (cI, 5760, .inl f)), (gT, .inl (cI, 32, .inl t)), (gZ, .inl (cZ, 120, .inl z))]) (ci := 4) (i0 := 0) hK hN hP hD [0, 1, 2, 3] (by decide) rfl rfl rfl) rfl rfl hl.1 rfl (lv_room (Nat.le_of_ble_eq_true rfl)) dX4_poke_8 ⟨Nat.le_of_ble_eq_true rfl, Nat.le_of_ble_eq_true rfl⟩) hP hD hS hA [0, 1, 2, 3] rfl [hm, gB, gT, gZ] rfl rfl (fun H locs hP hD hS => ?_)
  have hP : va_P D vwCl [(hm, .inr (4, [.int 0, .int (nI a), .ref gB, .int (nI nw), .int (nI ol), .int (b2i O), .int lf, .int us, .int (nI tc), .ref gT, .ref gZ, .int bd])), (gB, .inl (cI, 5760, .inl f)), (gT, .inl (cI, 32, .inl t)), (gZ, .inl (cZ, 120, .inl z))] _ := hP
  have hD : va_D A [(hm, .inr (4, [.int 0, .int (nI a), .ref gB, .int (nI nw), .int (nI ol), .int (b2i O), .int lf, .int us, .int (nI tc), .ref gT, .ref gZ, .int bd])), (gB, .inl (cI, 5760, .inl f)), (gT, .inl (cI, 32, .inl t)), (gZ, .inl (cZ, 120, .inl z))] := hD
  refine lv_if_eq (tgt := 26) hx hb dX4_poke_11 (by decide) (fun c11 => ?_) (fun c11 => ?_)
  · skip
    refine lv_bipush (v := (-2)) hx hb dX4_poke_26 (by decide) ?_
    have e9 : sp_pkR f a x y w = ((-2), f) := by unfold sp_pkR; rw [ifp_f (fun h => b2i_0.mp c11 h.1)]
    exact ct_iret hx hb hr hlocks (by rw [e9]) (by rw [e9]) hP hD hS dX4_poke_28
  · skip
    refine lv_iload_n hx hb dX4_poke_14 rfl (lv_at hl 3 rfl) ?_
    refine lv_iconst (v := 1) hx hb dX4_poke_15 (by decide) ?_
    refine lv_icmp_lt (tgt := 26) hx hb dX4_poke_16 (by decide) (fun c16 => ?_) (fun c16 => ?_)
    · skip
      refine lv_bipush (v := (-2)) hx hb dX4_poke_26 (by decide) ?_
      have e9 : sp_pkR f a x y w = ((-2), f) := by unfold sp_pkR; rw [ifp_f (fun h => h.2.1 c16)]
      exact ct_iret hx hb hr hlocks (by rw [e9]) (by rw [e9]) hP hD hS dX4_poke_28
    · skip
      refine lv_iload_n hx hb dX4_poke_19 rfl (lv_at hl 3 rfl) ?_
      refine lv_sipush (v := 255) hx hb dX4_poke_20 (by decide) ?_
      refine lv_icmp_le (tgt := 29) hx hb dX4_poke_23 (by decide) (fun c23 => ?_) (fun c23 => ?_)
      · skip
        have g1 : hs a x y := b2i_n0 c11
        obtain ⟨q, i, hq, hi, rfl, rfl⟩ := hs_nat g1 (by omega)
        refine lv_aload_n hx hb dX4_poke_29 rfl (lv_at hl 0 rfl) ?_
        refine lv_iload_n hx hb dX4_poke_30 rfl (lv_at hl 1 rfl) ?_
        refine lv_iload_n hx hb dX4_poke_31 rfl (lv_at hl 2 rfl) ?_
        refine lv_aload_n hx hb dX4_poke_32 rfl (lv_at hl 0 rfl) ?_
        refine lv_iload_n hx hb dX4_poke_33 rfl (lv_at hl 1 rfl) ?_
        refine lv_iload_n hx hb dX4_poke_34 rfl (lv_at hl 2 rfl) ?_
        refine ct_calli (w := [(hm, .inr (4, [.int 0, .int (nI a), .ref gB, .int (nI nw), .int (nI ol), .int (b2i O), .int lf, .int us, .int (nI tc), .ref gT, .ref gZ, .int bd])), (gB, .inl (cI, 5760, .inl f)), (gT, .inl (cI, 32, .inl t)), (gZ, .inl (cZ, 120, .inl z))]) (w' := [(hm, .inr (4, [.int 0, .int (nI a), .ref gB, .int (nI nw), .int (nI ol), .int (b2i O), .int lf, .int us, .int (nI tc), .ref gT, .ref gZ, .int bd])), (gB, .inl (cI, 5760, .inl f)), (gT, .inl (cI, 32, .inl t)), (gZ, .inl (cZ, 120, .inl z))]) (va_runV (As := [.int (nI q), .int (nI i)]) (rest := [.int (nI i), .int (nI q), .ref hm]) ⟨hx, hb, hml, hown, hts⟩ (c_X4_at l D cI cZ hm gB gT gZ a tc nw ol f t z O lf us bd q i (by omega) (by omega) (by omega) (by omega) (by omega) (by omega) (by omega) _) (cwV 2 hts gX4_poke_X4_at rfl rfl rfl (by decide +kernel) ⟨Nat.le_of_ble_eq_true rfl, Nat.le_of_ble_eq_true rfl⟩) (ct_preV (w := [(hm, .inr (4, [.int 0, .int (nI a), .ref gB, .int (nI nw), .int (nI ol), .int (b2i O), .int lf, .int us, .int (nI tc), .ref gT, .ref gZ, .int bd])), (gB, .inl (cI, 5760, .inl f)), (gT, .inl (cI, 32, .inl t)), (gZ, .inl (cZ, 120, .inl z))]) (ci := 4) (i0 := 0) hK hN hP hD [0, 1, 2, 3] (by decide) rfl rfl rfl) rfl rfl hl.1 rfl (lv_room (Nat.le_of_ble_eq_true rfl)) dX4_poke_35 ⟨Nat.le_of_ble_eq_true rfl, Nat.le_of_ble_eq_true rfl⟩) hP hD hS hA [0, 1, 2, 3] rfl [hm, gB, gT, gZ] rfl rfl (fun H locs hP hD hS => ?_)
        have hP : va_P D vwCl [(hm, .inr (4, [.int 0, .int (nI a), .ref gB, .int (nI nw), .int (nI ol), .int (b2i O), .int lf, .int us, .int (nI tc), .ref gT, .ref gZ, .int bd])), (gB, .inl (cI, 5760, .inl f)), (gT, .inl (cI, 32, .inl t)), (gZ, .inl (cZ, 120, .inl z))] _ := hP
        have hD : va_D A [(hm, .inr (4, [.int 0, .int (nI a), .ref gB, .int (nI nw), .int (nI ol), .int (b2i O), .int lf, .int us, .int (nI tc), .ref gT, .ref gZ, .int bd])), (gB, .inl (cI, 5760, .inl f)), (gT, .inl (cI, 32, .inl t)), (gZ, .inl (cZ, 120, .inl z))] := hD
        refine lv_iload_n hx hb dX4_poke_38 rfl (lv_at hl 3 rfl) ?_
        refine lv_ixor hx hb dX4_poke_39 ?_
        refine ct_callv (w := [(hm, .inr (4, [.int 0, .int (nI a), .ref gB, .int (nI nw), .int (nI ol), .int (b2i O), .int lf, .int us, .int (nI tc), .ref gT, .ref gZ, .int bd])), (gB, .inl (cI, 5760, .inl f)), (gT, .inl (cI, 32, .inl t)), (gZ, .inl (cZ, 120, .inl z))]) (w' := [(hm, .inr (4, [.int 0, .int (nI a), .ref gB, .int (nI nw), .int (nI ol), .int (b2i O), .int lf, .int us, .int (nI tc), .ref gT, .ref gZ, .int bd])), (gB, .inl (cI, 5760, .inl (upd f (q * 48 + i) (((f (q * 48 + i)) ^^^ w) &&& 255)))), (gT, .inl (cI, 32, .inl t)), (gZ, .inl (cZ, 120, .inl z))]) (va_runV (As := [.int (nI q), .int (nI i), .int ((f (q * 48 + i)) ^^^ w)]) (rest := []) ⟨hx, hb, hml, hown, hts⟩ (c_X4_lay l D cI cZ hm gB gT gZ a tc nw ol f t z O lf us bd q i ((f (q * 48 + i)) ^^^ w) (by omega) (by omega) (by omega) (by omega) (by omega) (by omega) (by omega) _) (cwV 3 hts gX4_poke_X4_lay rfl rfl rfl (by decide +kernel) ⟨Nat.le_of_ble_eq_true rfl, Nat.le_of_ble_eq_true rfl⟩) (ct_preV (w := [(hm, .inr (4, [.int 0, .int (nI a), .ref gB, .int (nI nw), .int (nI ol), .int (b2i O), .int lf, .int us, .int (nI tc), .ref gT, .ref gZ, .int bd])), (gB, .inl (cI, 5760, .inl f)), (gT, .inl (cI, 32, .inl t)), (gZ, .inl (cZ, 120, .inl z))]) (ci := 4) (i0 := 0) hK hN hP hD [0, 1, 2, 3] (by decide) rfl rfl rfl) rfl rfl hl.1 rfl (lv_room (Nat.le_of_ble_eq_true rfl)) dX4_poke_40 ⟨Nat.le_of_ble_eq_true rfl, Nat.le_of_ble_eq_true rfl⟩) hP hD hS hA [0, 1, 2, 3] rfl [hm, gB, gT, gZ] rfl rfl (fun H locs hP hD hS => ?_)
        have hP : va_P D vwCl [(hm, .inr (4, [.int 0, .int (nI a), .ref gB, .int (nI nw), .int (nI ol), .int (b2i O), .int lf, .int us, .int (nI tc), .ref gT, .ref gZ, .int bd])), (gB, .inl (cI, 5760, .inl (upd f (q * 48 + i) (((f (q * 48 + i)) ^^^ w) &&& 255)))), (gT, .inl (cI, 32, .inl t)), (gZ, .inl (cZ, 120, .inl z))] _ := hP
        have hD : va_D A [(hm, .inr (4, [.int 0, .int (nI a), .ref gB, .int (nI nw), .int (nI ol), .int (b2i O), .int lf, .int us, .int (nI tc), .ref gT, .ref gZ, .int bd])), (gB, .inl (cI, 5760, .inl (upd f (q * 48 + i) (((f (q * 48 + i)) ^^^ w) &&& 255)))), (gT, .inl (cI, 32, .inl t)), (gZ, .inl (cZ, 120, .inl z))] := hD
        refine lv_aload_n hx hb dX4_poke_43 rfl (lv_at hl 0 rfl) ?_
        refine lv_iload_n hx hb dX4_poke_44 rfl (lv_at hl 1 rfl) ?_
        refine lv_iload_n hx hb dX4_poke_45 rfl (lv_at hl 2 rfl) ?_
        refine ct_calli (w := [(hm, .inr (4, [.int 0, .int (nI a), .ref gB, .int (nI nw), .int (nI ol), .int (b2i O), .int lf, .int us, .int (nI tc), .ref gT, .ref gZ, .int bd])), (gB, .inl (cI, 5760, .inl (upd f (q * 48 + i) (((f (q * 48 + i)) ^^^ w) &&& 255)))), (gT, .inl (cI, 32, .inl t)), (gZ, .inl (cZ, 120, .inl z))]) (w' := [(hm, .inr (4, [.int 0, .int (nI a), .ref gB, .int (nI nw), .int (nI ol), .int (b2i O), .int lf, .int us, .int (nI tc), .ref gT, .ref gZ, .int bd])), (gB, .inl (cI, 5760, .inl (upd f (q * 48 + i) (((f (q * 48 + i)) ^^^ w) &&& 255)))), (gT, .inl (cI, 32, .inl t)), (gZ, .inl (cZ, 120, .inl z))]) (va_runV (As := [.int (nI q), .int (nI i)]) (rest := []) ⟨hx, hb, hml, hown, hts⟩ (c_X4_at l D cI cZ hm gB gT gZ a tc nw ol (upd f (q * 48 + i) (((f (q * 48 + i)) ^^^ w) &&& 255)) t z O lf us bd q i (by omega) (by omega) (by omega) (by omega) (by omega) (by omega) (by omega) _) (cwV 2 hts gX4_poke_X4_at rfl rfl rfl (by decide +kernel) ⟨Nat.le_of_ble_eq_true rfl, Nat.le_of_ble_eq_true rfl⟩) (ct_preV (w := [(hm, .inr (4, [.int 0, .int (nI a), .ref gB, .int (nI nw), .int (nI ol), .int (b2i O), .int lf, .int us, .int (nI tc), .ref gT, .ref gZ, .int bd])), (gB, .inl (cI, 5760, .inl (upd f (q * 48 + i) (((f (q * 48 + i)) ^^^ w) &&& 255)))), (gT, .inl (cI, 32, .inl t)), (gZ, .inl (cZ, 120, .inl z))]) (ci := 4) (i0 := 0) hK hN hP hD [0, 1, 2, 3] (by decide) rfl rfl rfl) rfl rfl hl.1 rfl (lv_room (Nat.le_of_ble_eq_true rfl)) dX4_poke_46 ⟨Nat.le_of_ble_eq_true rfl, Nat.le_of_ble_eq_true rfl⟩) hP hD hS hA [0, 1, 2, 3] rfl [hm, gB, gT, gZ] rfl rfl (fun H locs hP hD hS => ?_)
        have hP : va_P D vwCl [(hm, .inr (4, [.int 0, .int (nI a), .ref gB, .int (nI nw), .int (nI ol), .int (b2i O), .int lf, .int us, .int (nI tc), .ref gT, .ref gZ, .int bd])), (gB, .inl (cI, 5760, .inl (upd f (q * 48 + i) (((f (q * 48 + i)) ^^^ w) &&& 255)))), (gT, .inl (cI, 32, .inl t)), (gZ, .inl (cZ, 120, .inl z))] _ := hP
        have hD : va_D A [(hm, .inr (4, [.int 0, .int (nI a), .ref gB, .int (nI nw), .int (nI ol), .int (b2i O), .int lf, .int us, .int (nI tc), .ref gT, .ref gZ, .int bd])), (gB, .inl (cI, 5760, .inl (upd f (q * 48 + i) (((f (q * 48 + i)) ^^^ w) &&& 255)))), (gT, .inl (cI, 32, .inl t)), (gZ, .inl (cZ, 120, .inl z))] := hD
        have e9 : sp_pkR f a (nI q) (nI i) w = ((upd f (q * 48 + i) (((f (q * 48 + i)) ^^^ w) &&& 255)) (q * 48 + i), upd f (q * 48 + i) (((f (q * 48 + i)) ^^^ w) &&& 255)) := by unfold sp_pkR; rw [ifp_t ⟨g1, c16, Int32.not_lt.mpr c23⟩, nv_nI (by omega), nv_nI (by omega), pk_us]
        exact ct_iret hx hb hr hlocks (by rw [e9]) (by rw [e9]) hP hD hS dX4_poke_49
      · skip
        refine lv_bipush (v := (-2)) hx hb dX4_poke_26 (by decide) ?_
        have e9 : sp_pkR f a x y w = ((-2), f) := by unfold sp_pkR; rw [ifp_f (fun h => h.2.2 (Int32.not_le.mp c23))]
        exact ct_iret hx hb hr hlocks (by rw [e9]) (by rw [e9]) hP hD hS dX4_poke_28
set_option maxHeartbeats 4000000 in
set_option maxRecDepth 100000 in
theorem c_X4_byteAt (l : Launch) (D : va_G) (cI cZ : ClassId) (hm gB gT gZ a tc nw ol : Nat) (f t z : Nat → Int32) (O : Prop) (lf us bd : Int32) (x y : Int32) (ha : a ≤ 120) (h12 : 12 ≤ a) (htc : tc ≤ 32) (hnw : nw ≤ 1000000) (hol : ol ≤ nw + 1) : CtI l yX4_byteAt wsX4_byteAt ({ frames := 1, cells := 0, slots := 0, locals := 22 }) D vwCl (ct_T cI cZ) [.ref hm, .int x, .int y] [(hm, .inr (4, [.int 0, .int (nI a), .ref gB, .int (nI nw), .int (nI ol), .int (b2i O), .int lf, .int us, .int (nI tc), .ref gT, .ref gZ, .int bd])), (gB, .inl (cI, 5760, .inl f)), (gT, .inl (cI, 32, .inl t)), (gZ, .inl (cZ, 120, .inl z))] [(hm, .inr (4, [.int 0, .int (nI a), .ref gB, .int (nI nw), .int (nI ol), .int (b2i O), .int lf, .int us, .int (nI tc), .ref gT, .ref gZ, .int bd])), (gB, .inl (cI, 5760, .inl f)), (gT, .inl (cI, 32, .inl t)), (gZ, .inl (cZ, 120, .inl z))] (sp_byte f a x y) := by
  refine ct_of (Qf := ct_Qi D vwCl [(hm, .inr (4, [.int 0, .int (nI a), .ref gB, .int (nI nw), .int (nI ol), .int (b2i O), .int lf, .int us, .int (nI tc), .ref gT, .ref gZ, .int bd])), (gB, .inl (cI, 5760, .inl f)), (gT, .inl (cI, 32, .inl t)), (gZ, .inl (cZ, 120, .inl z))] (sp_byte f a x y)) (cc := cX4_byteAt) (maxL := 3) (ret := (some .int)) [(0, .ref hm), (1, .int x), (2, .int y)] (by decide) rfl (Nat.le_of_ble_eq_true rfl) rfl ?_
  intro p e s m below meth c hx hb hr hts hown hlocks hml hnm A hA hK hN hP hD hS ls hl
  have hown : s.vm.findClass RX4 = some m.cls := hown
  have hk0 := hts (.fieldLink RX4 30 "DesignPagesModel" "code" "I") (by decide +kernel)
  have hiX4 : ∀ w ∈ wsX40, w ∈ wsX4_byteAt := by decide +kernel
  refine lv_aload_n hx hb dX4_byteAt_0 rfl (lv_at hl 0 rfl) ?_
  refine lv_iconst (v := 0) hx hb dX4_byteAt_1 (by decide) ?_
  refine va_put (D := D) (cl := vwCl) (ci := 4) (v := .int 0) (ty := .int) (C := RX4) (T := TX4) (N := 12) hx hb hts hiX4 tyX4 tyX4_ok nmX4 hown hK hP hD hS 0 rfl rfl 0 (by decide) hk0 (fun _ h9 => h9) rfl (by decide +kernel) rfl rfl (Nat.le_of_ble_eq_true rfl) dX4_byteAt_2 (fun H locs hP hD hS => ?_)
  have hP : va_P D vwCl [(hm, .inr (4, [.int 0, .int (nI a), .ref gB, .int (nI nw), .int (nI ol), .int (b2i O), .int lf, .int us, .int (nI tc), .ref gT, .ref gZ, .int bd])), (gB, .inl (cI, 5760, .inl f)), (gT, .inl (cI, 32, .inl t)), (gZ, .inl (cZ, 120, .inl z))] _ := hP
  have hD : va_D A [(hm, .inr (4, [.int 0, .int (nI a), .ref gB, .int (nI nw), .int (nI ol), .int (b2i O), .int lf, .int us, .int (nI tc), .ref gT, .ref gZ, .int bd])), (gB, .inl (cI, 5760, .inl f)), (gT, .inl (cI, 32, .inl t)), (gZ, .inl (cZ, 120, .inl z))] := hD
  refine lv_aload_n hx hb dX4_byteAt_5 rfl (lv_at hl 0 rfl) ?_
  refine lv_iload_n hx hb dX4_byteAt_6 rfl (lv_at hl 1 rfl) ?_
  refine lv_iload_n hx hb dX4_byteAt_7 rfl (lv_at hl 2 rfl) ?_
  refine ct_calli (w := [(hm, .inr (4, [.int 0, .int (nI a), .ref gB, .int (nI nw), .int (nI ol), .int (b2i O), .int lf, .int us, .int (nI tc), .ref gT, .ref gZ, .int bd])), (gB, .inl (cI, 5760, .inl f)), (gT, .inl (cI, 32, .inl t)), (gZ, .inl (cZ, 120, .inl z))]) (w' := [(hm, .inr (4, [.int 0, .int (nI a), .ref gB, .int (nI nw), .int (nI ol), .int (b2i O), .int lf, .int us, .int (nI tc), .ref gT, .ref gZ, .int bd])), (gB, .inl (cI, 5760, .inl f)), (gT, .inl (cI, 32, .inl t)), (gZ, .inl (cZ, 120, .inl z))]) (va_runV (As := [.int x, .int y]) (rest := []) ⟨hx, hb, hml, hown, hts⟩ (c_X4_isByte l D cI cZ hm gB gT gZ a tc nw ol f t z O lf us bd x y (by omega) (by omega) (by omega) (by omega) (by omega)  _) (cwV 2 hts gX4_byteAt_X4_isByte rfl rfl rfl (by decide +kernel) ⟨Nat.le_of_ble_eq_true rfl, Nat.le_of_ble_eq_true rfl⟩) (ct_preV (w := [(hm, .inr (4, [.int 0, .int (nI a), .ref gB, .int (nI nw), .int (nI ol), .int (b2i O), .int lf, .int us, .int (nI tc), .ref gT, .ref gZ, .int bd])), (gB, .inl (cI, 5760, .inl f)), (gT, .inl (cI, 32, .inl t)), (gZ, .inl (cZ, 120, .inl z))]) (ci := 4) (i0 := 0) hK hN hP hD [0, 1, 2, 3] (by decide) rfl rfl rfl) rfl rfl hl.1 rfl (lv_room (Nat.le_of_ble_eq_true rfl)) dX4_byteAt_8 ⟨Nat.le_of_ble_eq_true rfl, Nat.le_of_ble_eq_true rfl⟩) hP hD hS hA [0, 1, 2, 3] rfl [hm, gB, gT, gZ] rfl rfl (fun H locs hP hD hS => ?_)
  have hP : va_P D vwCl [(hm, .inr (4, [.int 0, .int (nI a), .ref gB, .int (nI nw), .int (nI ol), .int (b2i O), .int lf, .int us, .int (nI tc), .ref gT, .ref gZ, .int bd])), (gB, .inl (cI, 5760, .inl f)), (gT, .inl (cI, 32, .inl t)), (gZ, .inl (cZ, 120, .inl z))] _ := hP
  have hD : va_D A [(hm, .inr (4, [.int 0, .int (nI a), .ref gB, .int (nI nw), .int (nI ol), .int (b2i O), .int lf, .int us, .int (nI tc), .ref gT, .ref gZ, .int bd])), (gB, .inl (cI, 5760, .inl f)), (gT, .inl (cI, 32, .inl t)), (gZ, .inl (cZ, 120, .inl z))] := hD
  refine lv_if_eq (tgt := 23) hx hb dX4_byteAt_11 (by decide) (fun c11 => ?_) (fun c11 => ?_)
  · skip
    refine lv_bipush (v := (-2)) hx hb dX4_byteAt_23 (by decide) ?_
    exact ct_iret hx hb hr hlocks (by unfold sp_byte; rw [ifp_f (b2i_0.mp c11)]) (rfl) hP hD hS dX4_byteAt_25
  · skip
    have g1 : hs a x y := b2i_n0 c11
    obtain ⟨q, i, hq, hi, rfl, rfl⟩ := hs_nat g1 (by omega)
    refine lv_aload_n hx hb dX4_byteAt_14 rfl (lv_at hl 0 rfl) ?_
    refine lv_iload_n hx hb dX4_byteAt_15 rfl (lv_at hl 1 rfl) ?_
    refine lv_iload_n hx hb dX4_byteAt_16 rfl (lv_at hl 2 rfl) ?_
    refine ct_calli (w := [(hm, .inr (4, [.int 0, .int (nI a), .ref gB, .int (nI nw), .int (nI ol), .int (b2i O), .int lf, .int us, .int (nI tc), .ref gT, .ref gZ, .int bd])), (gB, .inl (cI, 5760, .inl f)), (gT, .inl (cI, 32, .inl t)), (gZ, .inl (cZ, 120, .inl z))]) (w' := [(hm, .inr (4, [.int 0, .int (nI a), .ref gB, .int (nI nw), .int (nI ol), .int (b2i O), .int lf, .int us, .int (nI tc), .ref gT, .ref gZ, .int bd])), (gB, .inl (cI, 5760, .inl f)), (gT, .inl (cI, 32, .inl t)), (gZ, .inl (cZ, 120, .inl z))]) (va_runV (As := [.int (nI q), .int (nI i)]) (rest := []) ⟨hx, hb, hml, hown, hts⟩ (c_X4_at l D cI cZ hm gB gT gZ a tc nw ol f t z O lf us bd q i (by omega) (by omega) (by omega) (by omega) (by omega) (by omega) (by omega) _) (cwV 2 hts gX4_byteAt_X4_at rfl rfl rfl (by decide +kernel) ⟨Nat.le_of_ble_eq_true rfl, Nat.le_of_ble_eq_true rfl⟩) (ct_preV (w := [(hm, .inr (4, [.int 0, .int (nI a), .ref gB, .int (nI nw), .int (nI ol), .int (b2i O), .int lf, .int us, .int (nI tc), .ref gT, .ref gZ, .int bd])), (gB, .inl (cI, 5760, .inl f)), (gT, .inl (cI, 32, .inl t)), (gZ, .inl (cZ, 120, .inl z))]) (ci := 4) (i0 := 0) hK hN hP hD [0, 1, 2, 3] (by decide) rfl rfl rfl) rfl rfl hl.1 rfl (lv_room (Nat.le_of_ble_eq_true rfl)) dX4_byteAt_17 ⟨Nat.le_of_ble_eq_true rfl, Nat.le_of_ble_eq_true rfl⟩) hP hD hS hA [0, 1, 2, 3] rfl [hm, gB, gT, gZ] rfl rfl (fun H locs hP hD hS => ?_)
    have hP : va_P D vwCl [(hm, .inr (4, [.int 0, .int (nI a), .ref gB, .int (nI nw), .int (nI ol), .int (b2i O), .int lf, .int us, .int (nI tc), .ref gT, .ref gZ, .int bd])), (gB, .inl (cI, 5760, .inl f)), (gT, .inl (cI, 32, .inl t)), (gZ, .inl (cZ, 120, .inl z))] _ := hP
    have hD : va_D A [(hm, .inr (4, [.int 0, .int (nI a), .ref gB, .int (nI nw), .int (nI ol), .int (b2i O), .int lf, .int us, .int (nI tc), .ref gT, .ref gZ, .int bd])), (gB, .inl (cI, 5760, .inl f)), (gT, .inl (cI, 32, .inl t)), (gZ, .inl (cZ, 120, .inl z))] := hD
    refine lv_goto (tgt := 25) hx hb dX4_byteAt_20 (by decide) ?_
    exact ct_iret hx hb hr hlocks (by unfold sp_byte; rw [ifp_t g1, nv_nI (by omega), nv_nI (by omega)]) (rfl) hP hD hS dX4_byteAt_25
set_option maxHeartbeats 4000000 in
set_option maxRecDepth 100000 in
theorem c_X4_badAt (l : Launch) (D : va_G) (cI cZ : ClassId) (hm gB gT gZ a tc nw ol : Nat) (f t z : Nat → Int32) (O : Prop) (lf us bd : Int32) (ha : a ≤ 120) (h12 : 12 ≤ a) (htc : tc ≤ 32) (hnw : nw ≤ 1000000) (hol : ol ≤ nw + 1) : CtI l yX4_badAt wsX4_badAt ({ frames := 7, cells := 0, slots := 0, locals := 159 }) D vwCl (ct_T cI cZ) [.ref hm] [(hm, .inr (4, [.int 0, .int (nI a), .ref gB, .int (nI nw), .int (nI ol), .int (b2i O), .int lf, .int us, .int (nI tc), .ref gT, .ref gZ, .int bd])), (gB, .inl (cI, 5760, .inl f)), (gT, .inl (cI, 32, .inl t)), (gZ, .inl (cZ, 120, .inl z))] [(hm, .inr (4, [.int 0, .int (nI a), .ref gB, .int (nI nw), .int (nI ol), .int (b2i O), .int lf, .int us, .int (nI tc), .ref gT, .ref gZ, .int ((sp_bdR O f a ol nw z bd).2.2)])), (gB, .inl (cI, 5760, .inl f)), (gT, .inl (cI, 32, .inl t)), (gZ, .inl (cZ, 120, .inl ((sp_bdR O f a ol nw z bd).2.1)))] ((sp_bdR O f a ol nw z bd).1) := by
  refine ct_of (Qf := ct_Qi D vwCl [(hm, .inr (4, [.int 0, .int (nI a), .ref gB, .int (nI nw), .int (nI ol), .int (b2i O), .int lf, .int us, .int (nI tc), .ref gT, .ref gZ, .int ((sp_bdR O f a ol nw z bd).2.2)])), (gB, .inl (cI, 5760, .inl f)), (gT, .inl (cI, 32, .inl t)), (gZ, .inl (cZ, 120, .inl ((sp_bdR O f a ol nw z bd).2.1)))] ((sp_bdR O f a ol nw z bd).1)) (cc := cX4_badAt) (maxL := 1) (ret := (some .int)) [(0, .ref hm)] (by decide) rfl (Nat.le_of_ble_eq_true rfl) rfl ?_
  intro p e s m below meth c hx hb hr hts hown hlocks hml hnm A hA hK hN hP hD hS ls hl
  have hown : s.vm.findClass RX4 = some m.cls := hown
  have hk0 := hts (.fieldLink RX4 30 "DesignPagesModel" "code" "I") (by decide +kernel)
  have hk1 := hts (.fieldLink RX4 83 "DesignPagesModel" "down" "Z") (by decide +kernel)
  have hk2 := hts (.fieldLink RX4 60 "DesignPagesModel" "bad" "I") (by decide +kernel)
  have hiX4 : ∀ w ∈ wsX40, w ∈ wsX4_badAt := by decide +kernel
  refine lv_aload_n hx hb dX4_badAt_0 rfl (lv_at hl 0 rfl) ?_
  refine lv_iconst (v := 0) hx hb dX4_badAt_1 (by decide) ?_
  refine va_put (D := D) (cl := vwCl) (ci := 4) (v := .int 0) (ty := .int) (C := RX4) (T := TX4) (N := 12) hx hb hts hiX4 tyX4 tyX4_ok nmX4 hown hK hP hD hS 0 rfl rfl 0 (by decide) hk0 (fun _ h9 => h9) rfl (by decide +kernel) rfl rfl (Nat.le_of_ble_eq_true rfl) dX4_badAt_2 (fun H locs hP hD hS => ?_)
  have hP : va_P D vwCl [(hm, .inr (4, [.int 0, .int (nI a), .ref gB, .int (nI nw), .int (nI ol), .int (b2i O), .int lf, .int us, .int (nI tc), .ref gT, .ref gZ, .int bd])), (gB, .inl (cI, 5760, .inl f)), (gT, .inl (cI, 32, .inl t)), (gZ, .inl (cZ, 120, .inl z))] _ := hP
  have hD : va_D A [(hm, .inr (4, [.int 0, .int (nI a), .ref gB, .int (nI nw), .int (nI ol), .int (b2i O), .int lf, .int us, .int (nI tc), .ref gT, .ref gZ, .int bd])), (gB, .inl (cI, 5760, .inl f)), (gT, .inl (cI, 32, .inl t)), (gZ, .inl (cZ, 120, .inl z))] := hD
  refine lv_aload_n hx hb dX4_badAt_5 rfl (lv_at hl 0 rfl) ?_
  refine va_get (D := D) (cl := vwCl) (ci := 4) (v := .int (b2i O)) (C := RX4) (T := TX4) (N := 12) hx hb hts hiX4 hown hK hP 0 rfl rfl 5 (by decide) hk1 (fun _ h9 => h9) rfl dX4_badAt_6 ?_
  refine lv_if_eq (tgt := 15) hx hb dX4_badAt_9 (by decide) (fun c9 => ?_) (fun c9 => ?_)
  · skip
    refine lv_aload_n hx hb dX4_badAt_15 rfl (lv_at hl 0 rfl) ?_
    refine ct_callv (w := [(hm, .inr (4, [.int 0, .int (nI a), .ref gB, .int (nI nw), .int (nI ol), .int (b2i O), .int lf, .int us, .int (nI tc), .ref gT, .ref gZ, .int bd])), (gB, .inl (cI, 5760, .inl f)), (gT, .inl (cI, 32, .inl t)), (gZ, .inl (cZ, 120, .inl z))]) (w' := [(hm, .inr (4, [.int 0, .int (nI a), .ref gB, .int (nI nw), .int (nI ol), .int (b2i O), .int lf, .int us, .int (nI tc), .ref gT, .ref gZ, .int ((rall f a ol (nw + 1 - ol) z).2)])), (gB, .inl (cI, 5760, .inl f)), (gT, .inl (cI, 32, .inl t)), (gZ, .inl (cZ, 120, .inl ((rall f a ol (nw + 1 - ol) z).1)))]) (va_runV (As := []) (rest := []) ⟨hx, hb, hml, hown, hts⟩ (c_X4_reachAll l D cI cZ hm gB gT gZ a tc nw ol f t z O lf us bd  (by omega) (by omega) (by omega) (by omega) (by omega)  _) (cwV 0 hts gX4_badAt_X4_reachAll rfl rfl rfl (by decide +kernel) ⟨Nat.le_of_ble_eq_true rfl, Nat.le_of_ble_eq_true rfl⟩) (ct_preV (w := [(hm, .inr (4, [.int 0, .int (nI a), .ref gB, .int (nI nw), .int (nI ol), .int (b2i O), .int lf, .int us, .int (nI tc), .ref gT, .ref gZ, .int bd])), (gB, .inl (cI, 5760, .inl f)), (gT, .inl (cI, 32, .inl t)), (gZ, .inl (cZ, 120, .inl z))]) (ci := 4) (i0 := 0) hK hN hP hD [0, 1, 2, 3] (by decide) rfl rfl rfl) rfl rfl hl.1 rfl (lv_room (Nat.le_of_ble_eq_true rfl)) dX4_badAt_16 ⟨Nat.le_of_ble_eq_true rfl, Nat.le_of_ble_eq_true rfl⟩) hP hD hS hA [0, 1, 2, 3] rfl [hm, gB, gT, gZ] rfl rfl (fun H locs hP hD hS => ?_)
    have hP : va_P D vwCl [(hm, .inr (4, [.int 0, .int (nI a), .ref gB, .int (nI nw), .int (nI ol), .int (b2i O), .int lf, .int us, .int (nI tc), .ref gT, .ref gZ, .int ((rall f a ol (nw + 1 - ol) z).2)])), (gB, .inl (cI, 5760, .inl f)), (gT, .inl (cI, 32, .inl t)), (gZ, .inl (cZ, 120, .inl ((rall f a ol (nw + 1 - ol) z).1)))] _ := hP
    have hD : va_D A [(hm, .inr (4, [.int 0, .int (nI a), .ref gB, .int (nI nw), .int (nI ol), .int (b2i O), .int lf, .int us, .int (nI tc), .ref gT, .ref gZ, .int ((rall f a ol (nw + 1 - ol) z).2)])), (gB, .inl (cI, 5760, .inl f)), (gT, .inl (cI, 32, .inl t)), (gZ, .inl (cZ, 120, .inl ((rall f a ol (nw + 1 - ol) z).1)))] := hD
    refine lv_aload_n hx hb dX4_badAt_19 rfl (lv_at hl 0 rfl) ?_
    refine va_get (D := D) (cl := vwCl) (ci := 4) (v := .int ((rall f a ol (nw + 1 - ol) z).2)) (C := RX4) (T := TX4) (N := 12) hx hb hts hiX4 hown hK hP 0 rfl rfl 11 (by decide) hk2 (fun _ h9 => h9) rfl dX4_badAt_20 ?_
    have e9 : sp_bdR O f a ol nw z bd = ((rall f a ol (nw + 1 - ol) z).2, (rall f a ol (nw + 1 - ol) z).1, (rall f a ol (nw + 1 - ol) z).2) := by unfold sp_bdR; rw [ifp_f (b2i_0.mp c9)]
    exact ct_iret hx hb hr hlocks (by rw [e9]) (by rw [e9]) hP hD hS dX4_badAt_23
  · skip
    refine lv_bipush (v := (-5)) hx hb dX4_badAt_12 (by decide) ?_
    have e9 : sp_bdR O f a ol nw z bd = ((-5), z, bd) := by unfold sp_bdR; rw [ifp_t (b2i_n0 c9)]
    exact ct_iret hx hb hr hlocks (by rw [e9]) (by rw [e9]) hP hD hS dX4_badAt_14
set_option maxHeartbeats 4000000 in
set_option maxRecDepth 100000 in
theorem c_X4_freePages (l : Launch) (D : va_G) (cI cZ : ClassId) (hm gB gT gZ a tc nw ol : Nat) (f t z : Nat → Int32) (O : Prop) (lf us bd : Int32) (ha : a ≤ 120) (h12 : 12 ≤ a) (htc : tc ≤ 32) (hnw : nw ≤ 1000000) (hol : ol ≤ nw + 1) : CtI l yX4_freePages wsX4_freePages ({ frames := 7, cells := 0, slots := 0, locals := 159 }) D vwCl (ct_T cI cZ) [.ref hm] [(hm, .inr (4, [.int 0, .int (nI a), .ref gB, .int (nI nw), .int (nI ol), .int (b2i O), .int lf, .int us, .int (nI tc), .ref gT, .ref gZ, .int bd])), (gB, .inl (cI, 5760, .inl f)), (gT, .inl (cI, 32, .inl t)), (gZ, .inl (cZ, 120, .inl z))] [(hm, .inr (4, [.int 0, .int (nI a), .ref gB, .int (nI nw), .int (nI ol), .int (b2i O), .int lf, .int us, .int (nI tc), .ref gT, .ref gZ, .int ((rall f a ol (nw + 1 - ol) z).2)])), (gB, .inl (cI, 5760, .inl f)), (gT, .inl (cI, 32, .inl t)), (gZ, .inl (cZ, 120, .inl ((rall f a ol (nw + 1 - ol) z).1)))] (nI (fp_R f a ol nw z)) := by
  refine ct_of (Qf := ct_Qi D vwCl [(hm, .inr (4, [.int 0, .int (nI a), .ref gB, .int (nI nw), .int (nI ol), .int (b2i O), .int lf, .int us, .int (nI tc), .ref gT, .ref gZ, .int ((rall f a ol (nw + 1 - ol) z).2)])), (gB, .inl (cI, 5760, .inl f)), (gT, .inl (cI, 32, .inl t)), (gZ, .inl (cZ, 120, .inl ((rall f a ol (nw + 1 - ol) z).1)))] (nI (fp_R f a ol nw z))) (cc := cX4_freePages) (maxL := 3) (ret := (some .int)) [(0, .ref hm)] (by decide) rfl (Nat.le_of_ble_eq_true rfl) rfl ?_
  intro p e s m below meth c hx hb hr hts hown hlocks hml hnm A hA hK hN hP hD hS ls hl
  have hown : s.vm.findClass RX4 = some m.cls := hown
  have hk0 := hts (.fieldLink RX4 27 "DesignPagesModel" "pages" "I") (by decide +kernel)
  have hk1 := hts (.fieldLink RX4 23 "DesignPagesModel" "reached" "[Z") (by decide +kernel)
  have hiX4 : ∀ w ∈ wsX40, w ∈ wsX4_freePages := by decide +kernel
  refine lv_aload_n hx hb dX4_freePages_0 rfl (lv_at hl 0 rfl) ?_
  refine ct_callv (w := [(hm, .inr (4, [.int 0, .int (nI a), .ref gB, .int (nI nw), .int (nI ol), .int (b2i O), .int lf, .int us, .int (nI tc), .ref gT, .ref gZ, .int bd])), (gB, .inl (cI, 5760, .inl f)), (gT, .inl (cI, 32, .inl t)), (gZ, .inl (cZ, 120, .inl z))]) (w' := [(hm, .inr (4, [.int 0, .int (nI a), .ref gB, .int (nI nw), .int (nI ol), .int (b2i O), .int lf, .int us, .int (nI tc), .ref gT, .ref gZ, .int ((rall f a ol (nw + 1 - ol) z).2)])), (gB, .inl (cI, 5760, .inl f)), (gT, .inl (cI, 32, .inl t)), (gZ, .inl (cZ, 120, .inl ((rall f a ol (nw + 1 - ol) z).1)))]) (va_runV (As := []) (rest := []) ⟨hx, hb, hml, hown, hts⟩ (c_X4_reachAll l D cI cZ hm gB gT gZ a tc nw ol f t z O lf us bd  (by omega) (by omega) (by omega) (by omega) (by omega)  _) (cwV 0 hts gX4_freePages_X4_reachAll rfl rfl rfl (by decide +kernel) ⟨Nat.le_of_ble_eq_true rfl, Nat.le_of_ble_eq_true rfl⟩) (ct_preV (w := [(hm, .inr (4, [.int 0, .int (nI a), .ref gB, .int (nI nw), .int (nI ol), .int (b2i O), .int lf, .int us, .int (nI tc), .ref gT, .ref gZ, .int bd])), (gB, .inl (cI, 5760, .inl f)), (gT, .inl (cI, 32, .inl t)), (gZ, .inl (cZ, 120, .inl z))]) (ci := 4) (i0 := 0) hK hN hP hD [0, 1, 2, 3] (by decide) rfl rfl rfl) rfl rfl hl.1 rfl (lv_room (Nat.le_of_ble_eq_true rfl)) dX4_freePages_1 ⟨Nat.le_of_ble_eq_true rfl, Nat.le_of_ble_eq_true rfl⟩) hP hD hS hA [0, 1, 2, 3] rfl [hm, gB, gT, gZ] rfl rfl (fun H locs hP hD hS => ?_)
  have hP : va_P D vwCl [(hm, .inr (4, [.int 0, .int (nI a), .ref gB, .int (nI nw), .int (nI ol), .int (b2i O), .int lf, .int us, .int (nI tc), .ref gT, .ref gZ, .int ((rall f a ol (nw + 1 - ol) z).2)])), (gB, .inl (cI, 5760, .inl f)), (gT, .inl (cI, 32, .inl t)), (gZ, .inl (cZ, 120, .inl ((rall f a ol (nw + 1 - ol) z).1)))] _ := hP
  have hD : va_D A [(hm, .inr (4, [.int 0, .int (nI a), .ref gB, .int (nI nw), .int (nI ol), .int (b2i O), .int lf, .int us, .int (nI tc), .ref gT, .ref gZ, .int ((rall f a ol (nw + 1 - ol) z).2)])), (gB, .inl (cI, 5760, .inl f)), (gT, .inl (cI, 32, .inl t)), (gZ, .inl (cZ, 120, .inl ((rall f a ol (nw + 1 - ol) z).1)))] := hD
  refine lv_iconst (v := 0) hx hb dX4_freePages_4 (by decide) ?_
  refine lv_istore_n (lv' := [(1, .int 0), (0, .ref hm)]) hx hb dX4_freePages_5 rfl hl (by decide) rfl (fun ls hl => ?_)
  refine lv_bipush (v := 8) hx hb dX4_freePages_6 (by decide) ?_
  refine lv_istore_n (lv' := [(2, .int 8), (1, .int 0), (0, .ref hm)]) hx hb dX4_freePages_8 rfl hl (by decide) rfl (fun ls hl => ?_)
  have loop9 : ∀ (n9 : Nat) (i k : Nat), 8 + i ≤ a → k = ct_of_P (fun p => (rall f a ol (nw + 1 - ol) z).1 p = 0) 8 i → a - i < n9 → ∀ (H : Heap) (locs : List Loc), va_P D vwCl [(hm, .inr (4, [.int 0, .int (nI a), .ref gB, .int (nI nw), .int (nI ol), .int (b2i O), .int lf, .int us, .int (nI tc), .ref gT, .ref gZ, .int ((rall f a ol (nw + 1 - ol) z).2)])), (gB, .inl (cI, 5760, .inl f)), (gT, .inl (cI, 32, .inl t)), (gZ, .inl (cZ, 120, .inl ((rall f a ol (nw + 1 - ol) z).1)))] H → va_D A [(hm, .inr (4, [.int 0, .int (nI a), .ref gB, .int (nI nw), .int (nI ol), .int (b2i O), .int lf, .int us, .int (nI tc), .ref gT, .ref gZ, .int ((rall f a ol (nw + 1 - ol) z).2)])), (gB, .inl (cI, 5760, .inl f)), (gT, .inl (cI, 32, .inl t)), (gZ, .inl (cZ, 120, .inl ((rall f a ol (nw + 1 - ol) z).1)))] → va_S A s.heap H locs → ∀ (ls : Array Slot), lv_has ls 3 [(2, .int (nI (8 + i))), (1, .int (nI k)), (0, .ref hm)] → W p l e ({ frames := 7, cells := 0, slots := 0, locals := 159 }) s m ([.ref hm] : List Value).toArray below meth c H locs 0 0 (MQ below (ct_Qi D vwCl [(hm, .inr (4, [.int 0, .int (nI a), .ref gB, .int (nI nw), .int (nI ol), .int (b2i O), .int lf, .int us, .int (nI tc), .ref gT, .ref gZ, .int ((rall f a ol (nw + 1 - ol) z).2)])), (gB, .inl (cI, 5760, .inl f)), (gT, .inl (cI, 32, .inl t)), (gZ, .inl (cZ, 120, .inl ((rall f a ol (nw + 1 - ol) z).1)))] (nI (fp_R f a ol nw z)) A) ([.ref hm] : List Value).toArray s 0 0 A) (F0 m 9 ls []) := by
    intro n9
    induction n9 with
    | zero =>
      intro i k _ _ hm
      exact absurd hm (Nat.not_lt_zero _)
    | succ n9 ih9 =>
      intro i k hi ex hm9 H locs hP hD hS ls hl
      refine lv_iload_n hx hb dX4_freePages_9 rfl (lv_at hl 0 rfl) ?_
      refine lv_aload_n hx hb dX4_freePages_10 rfl (lv_at hl 2 rfl) ?_
      refine va_get (D := D) (cl := vwCl) (ci := 4) (v := .int (nI a)) (C := RX4) (T := TX4) (N := 12) hx hb hts hiX4 hown hK hP 0 rfl rfl 1 (by decide) hk0 (fun _ h9 => h9) rfl dX4_freePages_11 ?_
      refine lv_icmp_ge (tgt := 40) hx hb dX4_freePages_14 (by decide) (fun c14 => ?_) (fun c14 => ?_)
      · skip
        have c14 : a ≤ (8 + i) := (nI_leI (a := a) (b := (8 + i)) (by omega) (by omega)).mp c14
        refine lv_iload_n hx hb dX4_freePages_40 rfl (lv_at hl 1 rfl) ?_
        exact ct_iret hx hb hr hlocks (by unfold fp_R; have e1 : a - 8 = i := (by omega); rw [e1, ex]) (rfl) hP hD hS dX4_freePages_41
      · skip
        have c14 : ¬ a ≤ (8 + i) := fun h => c14 ((nI_leI (a := a) (b := (8 + i)) (by omega) (by omega)).mpr h)
        refine lv_iload_n hx hb dX4_freePages_17 rfl (lv_at hl 1 rfl) ?_
        refine lv_aload_n hx hb dX4_freePages_18 rfl (lv_at hl 2 rfl) ?_
        refine va_get (D := D) (cl := vwCl) (ci := 4) (v := .ref gZ) (C := RX4) (T := TX4) (N := 12) hx hb hts hiX4 hown hK hP 0 rfl rfl 10 (by decide) hk1 (fun _ h9 => h9) rfl dX4_freePages_19 ?_
        refine lv_iload_n hx hb dX4_freePages_22 rfl (lv_at hl 0 rfl) ?_
        refine ct_zald hx hb hK hP 3 1 (k := (8 + i)) rfl rfl (by omega) (by omega) dX4_freePages_23 ?_
        refine lv_if_eq (tgt := 31) hx hb dX4_freePages_24 (by decide) (fun c24 => ?_) (fun c24 => ?_)
        · skip
          refine lv_iconst (v := 1) hx hb dX4_freePages_31 (by decide) ?_
          refine lv_iadd hx hb dX4_freePages_32 ?_
          refine ct_top (y := nI (k + 1)) (nI_add k 1) ?_
          refine lv_istore_n (lv' := [(1, .int (nI (k + 1))), (2, .int (nI (8 + i))), (0, .ref hm)]) hx hb dX4_freePages_33 rfl hl (by decide) rfl (fun ls hl => ?_)
          refine lv_iinc (v := nI ((8 + i) + 1)) (lv' := [(2, .int (nI ((8 + i) + 1))), (1, .int (nI (k + 1))), (0, .ref hm)]) hx hb dX4_freePages_34 hl (k := 1) rfl (nI_add (8 + i) 1) (by decide) rfl (fun ls hl => ?_)
          refine lv_goto (tgt := 9) hx hb dX4_freePages_37 (by decide) ?_
          exact ih9 (i + 1) (k + 1) (by omega) (by rw [ct_P1 (P := fun p => (rall f a ol (nw + 1 - ol) z).1 p = 0) c24, ← ex]) (by omega) _ _ hP hD hS ls (lv_sub hl [0, 1, 2] rfl)
        · skip
          refine lv_iconst (v := 0) hx hb dX4_freePages_27 (by decide) ?_
          refine lv_goto (tgt := 32) hx hb dX4_freePages_28 (by decide) ?_
          refine lv_iadd hx hb dX4_freePages_32 ?_
          refine ct_top (y := nI (k + 0)) (nI_add k 0) ?_
          refine lv_istore_n (lv' := [(1, .int (nI (k + 0))), (2, .int (nI (8 + i))), (0, .ref hm)]) hx hb dX4_freePages_33 rfl hl (by decide) rfl (fun ls hl => ?_)
          refine lv_iinc (v := nI ((8 + i) + 1)) (lv' := [(2, .int (nI ((8 + i) + 1))), (1, .int (nI (k + 0))), (0, .ref hm)]) hx hb dX4_freePages_34 hl (k := 1) rfl (nI_add (8 + i) 1) (by decide) rfl (fun ls hl => ?_)
          refine lv_goto (tgt := 9) hx hb dX4_freePages_37 (by decide) ?_
          exact ih9 (i + 1) (k + 0) (by omega) (by rw [ct_P0 (P := fun p => (rall f a ol (nw + 1 - ol) z).1 p = 0) c24]; exact ex) (by omega) _ _ hP hD hS ls (lv_sub hl [0, 1, 2] rfl)
  exact loop9 _ 0 0 (by omega) (rfl) (Nat.lt_succ_self _) _ _ hP hD hS ls (lv_sub hl [0, 1, 2] rfl)
set_option maxHeartbeats 4000000 in
set_option maxRecDepth 100000 in
theorem c_X4_keys (l : Launch) (D : va_G) (cI cZ : ClassId) (hm gB gT gZ a tc nw ol : Nat) (f t z : Nat → Int32) (O : Prop) (lf us bd : Int32) (ha : a ≤ 120) (h12 : 12 ≤ a) (htc : tc ≤ 32) (hnw : nw ≤ 1000000) (hol : ol ≤ nw + 1) : CtI l yX4_keys wsX4_keys ({ frames := 4, cells := 0, slots := 0, locals := 92 }) D vwCl (ct_T cI cZ) [.ref hm] [(hm, .inr (4, [.int 0, .int (nI a), .ref gB, .int (nI nw), .int (nI ol), .int (b2i O), .int lf, .int us, .int (nI tc), .ref gT, .ref gZ, .int bd])), (gB, .inl (cI, 5760, .inl f)), (gT, .inl (cI, 32, .inl t)), (gZ, .inl (cZ, 120, .inl z))] [(hm, .inr (4, [.int 0, .int (nI a), .ref gB, .int (nI nw), .int (nI ol), .int (b2i O), .int lf, .int us, .int (nI tc), .ref gT, .ref gZ, .int bd])), (gB, .inl (cI, 5760, .inl f)), (gT, .inl (cI, 32, .inl t)), (gZ, .inl (cZ, 120, .inl z))] (nI (ks_R f a nw ol)) := by
  refine ct_of (Qf := ct_Qi D vwCl [(hm, .inr (4, [.int 0, .int (nI a), .ref gB, .int (nI nw), .int (nI ol), .int (b2i O), .int lf, .int us, .int (nI tc), .ref gT, .ref gZ, .int bd])), (gB, .inl (cI, 5760, .inl f)), (gT, .inl (cI, 32, .inl t)), (gZ, .inl (cZ, 120, .inl z))] (nI (ks_R f a nw ol))) (cc := cX4_keys) (maxL := 7) (ret := (some .int)) [(0, .ref hm)] (by decide) rfl (Nat.le_of_ble_eq_true rfl) rfl ?_
  intro p e s m below meth c hx hb hr hts hown hlocks hml hnm A hA hK hN hP hD hS ls hl
  have hown : s.vm.findClass RX4 = some m.cls := hown
  have hk0 := hts (.fieldLink RX4 67 "DesignPagesModel" "newest" "I") (by decide +kernel)
  have hiX4 : ∀ w ∈ wsX40, w ∈ wsX4_keys := by decide +kernel
  refine lv_iconst (v := 0) hx hb dX4_keys_0 (by decide) ?_
  refine lv_istore_n (lv' := [(1, .int 0), (0, .ref hm)]) hx hb dX4_keys_1 rfl hl (by decide) rfl (fun ls hl => ?_)
  refine lv_aload_n hx hb dX4_keys_2 rfl (lv_at hl 1 rfl) ?_
  refine ct_calli (w := [(hm, .inr (4, [.int 0, .int (nI a), .ref gB, .int (nI nw), .int (nI ol), .int (b2i O), .int lf, .int us, .int (nI tc), .ref gT, .ref gZ, .int bd])), (gB, .inl (cI, 5760, .inl f)), (gT, .inl (cI, 32, .inl t)), (gZ, .inl (cZ, 120, .inl z))]) (w' := [(hm, .inr (4, [.int 0, .int (nI a), .ref gB, .int (nI nw), .int (nI ol), .int (b2i O), .int lf, .int us, .int (nI tc), .ref gT, .ref gZ, .int bd])), (gB, .inl (cI, 5760, .inl f)), (gT, .inl (cI, 32, .inl t)), (gZ, .inl (cZ, 120, .inl z))]) (va_runV (As := []) (rest := []) ⟨hx, hb, hml, hown, hts⟩ (c_X4_hasVersion l D cI cZ hm gB gT gZ a tc nw ol f t z O lf us bd  (by omega) (by omega) (by omega) (by omega) (by omega)  _) (cwV 0 hts gX4_keys_X4_hasVersion rfl rfl rfl (by decide +kernel) ⟨Nat.le_of_ble_eq_true rfl, Nat.le_of_ble_eq_true rfl⟩) (ct_preV (w := [(hm, .inr (4, [.int 0, .int (nI a), .ref gB, .int (nI nw), .int (nI ol), .int (b2i O), .int lf, .int us, .int (nI tc), .ref gT, .ref gZ, .int bd])), (gB, .inl (cI, 5760, .inl f)), (gT, .inl (cI, 32, .inl t)), (gZ, .inl (cZ, 120, .inl z))]) (ci := 4) (i0 := 0) hK hN hP hD [0, 1, 2, 3] (by decide) rfl rfl rfl) rfl rfl hl.1 rfl (lv_room (Nat.le_of_ble_eq_true rfl)) dX4_keys_3 ⟨Nat.le_of_ble_eq_true rfl, Nat.le_of_ble_eq_true rfl⟩) hP hD hS hA [0, 1, 2, 3] rfl [hm, gB, gT, gZ] rfl rfl (fun H locs hP hD hS => ?_)
  have hP : va_P D vwCl [(hm, .inr (4, [.int 0, .int (nI a), .ref gB, .int (nI nw), .int (nI ol), .int (b2i O), .int lf, .int us, .int (nI tc), .ref gT, .ref gZ, .int bd])), (gB, .inl (cI, 5760, .inl f)), (gT, .inl (cI, 32, .inl t)), (gZ, .inl (cZ, 120, .inl z))] _ := hP
  have hD : va_D A [(hm, .inr (4, [.int 0, .int (nI a), .ref gB, .int (nI nw), .int (nI ol), .int (b2i O), .int lf, .int us, .int (nI tc), .ref gT, .ref gZ, .int bd])), (gB, .inl (cI, 5760, .inl f)), (gT, .inl (cI, 32, .inl t)), (gZ, .inl (cZ, 120, .inl z))] := hD
  refine lv_if_eq (tgt := 28) hx hb dX4_keys_6 (by decide) (fun c6 => ?_) (fun c6 => ?_)
  · skip
    refine lv_iconst (v := 0) hx hb dX4_keys_28 (by decide) ?_
    refine lv_istore_n (lv' := [(2, .int 0), (1, .int 0), (0, .ref hm)]) hx hb dX4_keys_29 rfl hl (by decide) rfl (fun ls hl => ?_)
    refine lv_iconst (v := 0) hx hb dX4_keys_30 (by decide) ?_
    refine lv_istore_n (lv' := [(3, .int 0), (2, .int 0), (1, .int 0), (0, .ref hm)]) hx hb dX4_keys_31 rfl hl (by decide) rfl (fun ls hl => ?_)
    have loop32 : ∀ (n32 : Nat) (i : Nat), i ≤ 32 → 32 - i < n32 → ∀ (H : Heap) (locs : List Loc), va_P D vwCl [(hm, .inr (4, [.int 0, .int (nI a), .ref gB, .int (nI nw), .int (nI ol), .int (b2i O), .int lf, .int us, .int (nI tc), .ref gT, .ref gZ, .int bd])), (gB, .inl (cI, 5760, .inl f)), (gT, .inl (cI, 32, .inl t)), (gZ, .inl (cZ, 120, .inl z))] H → va_D A [(hm, .inr (4, [.int 0, .int (nI a), .ref gB, .int (nI nw), .int (nI ol), .int (b2i O), .int lf, .int us, .int (nI tc), .ref gT, .ref gZ, .int bd])), (gB, .inl (cI, 5760, .inl f)), (gT, .inl (cI, 32, .inl t)), (gZ, .inl (cZ, 120, .inl z))] → va_S A s.heap H locs → ∀ (ls : Array Slot), lv_has ls 7 [(3, .int (nI i)), (2, .int 0), (1, .int 0), (0, .ref hm)] → W p l e ({ frames := 4, cells := 0, slots := 0, locals := 92 }) s m ([.ref hm] : List Value).toArray below meth c H locs 0 0 (MQ below (ct_Qi D vwCl [(hm, .inr (4, [.int 0, .int (nI a), .ref gB, .int (nI nw), .int (nI ol), .int (b2i O), .int lf, .int us, .int (nI tc), .ref gT, .ref gZ, .int bd])), (gB, .inl (cI, 5760, .inl f)), (gT, .inl (cI, 32, .inl t)), (gZ, .inl (cZ, 120, .inl z))] (nI (ks_R f a nw ol)) A) ([.ref hm] : List Value).toArray s 0 0 A) (F0 m 32 ls []) := by
      intro n32
      induction n32 with
      | zero =>
        intro i _ hm
        exact absurd hm (Nat.not_lt_zero _)
      | succ n32 ih32 =>
        intro i hi hm32 H locs hP hD hS ls hl
        refine lv_iload_n hx hb dX4_keys_32 rfl (lv_at hl 0 rfl) ?_
        refine lv_bipush (v := 32) hx hb dX4_keys_33 (by decide) ?_
        refine lv_icmp_ge (tgt := 123) hx hb dX4_keys_35 (by decide) (fun c35 => ?_) (fun c35 => ?_)
        · skip
          have c35 : 32 ≤ i := (nI_leI (a := 32) (b := i) (by omega) (by omega)).mp c35
          refine lv_iload_n hx hb dX4_keys_123 rfl (lv_at hl 2 rfl) ?_
          exact ct_iret hx hb hr hlocks (by unfold ks_R; rw [ifp_f (fun h => b2i_0.mp c6 h.1)]; rfl) (rfl) hP hD hS dX4_keys_124
        · skip
          have c35 : ¬ 32 ≤ i := fun h => c35 ((nI_leI (a := 32) (b := i) (by omega) (by omega)).mpr h)
          refine lv_iload_n hx hb dX4_keys_38 rfl (lv_at hl 1 rfl) ?_
          refine lv_if_eq (tgt := 123) hx hb dX4_keys_39 (by decide) (fun _ => ?_) (fun c9 => absurd c9 (by decide))
          refine lv_iload_n hx hb dX4_keys_123 rfl (lv_at hl 2 rfl) ?_
          exact ct_iret hx hb hr hlocks (by unfold ks_R; rw [ifp_f (fun h => b2i_0.mp c6 h.1)]; rfl) (rfl) hP hD hS dX4_keys_124
    exact loop32 _ 0 (by omega) (Nat.lt_succ_self _) _ _ hP hD hS ls (lv_sub hl [0, 1, 2, 3] rfl)
  · skip
    refine lv_aload_n hx hb dX4_keys_9 rfl (lv_at hl 1 rfl) ?_
    refine lv_aload_n hx hb dX4_keys_10 rfl (lv_at hl 1 rfl) ?_
    refine va_get (D := D) (cl := vwCl) (ci := 4) (v := .int (nI nw)) (C := RX4) (T := TX4) (N := 12) hx hb hts hiX4 hown hK hP 0 rfl rfl 3 (by decide) hk0 (fun _ h9 => h9) rfl dX4_keys_11 ?_
    refine lv_bipush (v := 8) hx hb dX4_keys_14 (by decide) ?_
    refine lv_irem hx hb dX4_keys_16 (by decide) ?_
    refine ct_top (y := nI (nw % 8)) (pk_rem (by omega) (by decide) (by decide)) ?_
    refine lv_iconst (v := 1) hx hb dX4_keys_17 (by decide) ?_
    refine ct_calli (w := [(hm, .inr (4, [.int 0, .int (nI a), .ref gB, .int (nI nw), .int (nI ol), .int (b2i O), .int lf, .int us, .int (nI tc), .ref gT, .ref gZ, .int bd])), (gB, .inl (cI, 5760, .inl f)), (gT, .inl (cI, 32, .inl t)), (gZ, .inl (cZ, 120, .inl z))]) (w' := [(hm, .inr (4, [.int 0, .int (nI a), .ref gB, .int (nI nw), .int (nI ol), .int (b2i O), .int lf, .int us, .int (nI tc), .ref gT, .ref gZ, .int bd])), (gB, .inl (cI, 5760, .inl f)), (gT, .inl (cI, 32, .inl t)), (gZ, .inl (cZ, 120, .inl z))]) (va_runV (As := [.int (nI (nw % 8)), .int 1]) (rest := []) ⟨hx, hb, hml, hown, hts⟩ (c_X4_isRight l D cI cZ hm gB gT gZ a tc nw ol f t z O lf us bd (nw % 8) 1 (by omega) (by omega) (by omega) (by omega) (by omega) (by omega) (Or.inl rfl) _) (cwV 2 hts gX4_keys_X4_isRight rfl rfl rfl (by decide +kernel) ⟨Nat.le_of_ble_eq_true rfl, Nat.le_of_ble_eq_true rfl⟩) (ct_preV (w := [(hm, .inr (4, [.int 0, .int (nI a), .ref gB, .int (nI nw), .int (nI ol), .int (b2i O), .int lf, .int us, .int (nI tc), .ref gT, .ref gZ, .int bd])), (gB, .inl (cI, 5760, .inl f)), (gT, .inl (cI, 32, .inl t)), (gZ, .inl (cZ, 120, .inl z))]) (ci := 4) (i0 := 0) hK hN hP hD [0, 1, 2, 3] (by decide) rfl rfl rfl) rfl rfl hl.1 rfl (lv_room (Nat.le_of_ble_eq_true rfl)) dX4_keys_18 ⟨Nat.le_of_ble_eq_true rfl, Nat.le_of_ble_eq_true rfl⟩) hP hD hS hA [0, 1, 2, 3] rfl [hm, gB, gT, gZ] rfl rfl (fun H locs hP hD hS => ?_)
    have hP : va_P D vwCl [(hm, .inr (4, [.int 0, .int (nI a), .ref gB, .int (nI nw), .int (nI ol), .int (b2i O), .int lf, .int us, .int (nI tc), .ref gT, .ref gZ, .int bd])), (gB, .inl (cI, 5760, .inl f)), (gT, .inl (cI, 32, .inl t)), (gZ, .inl (cZ, 120, .inl z))] _ := hP
    have hD : va_D A [(hm, .inr (4, [.int 0, .int (nI a), .ref gB, .int (nI nw), .int (nI ol), .int (b2i O), .int lf, .int us, .int (nI tc), .ref gT, .ref gZ, .int bd])), (gB, .inl (cI, 5760, .inl f)), (gT, .inl (cI, 32, .inl t)), (gZ, .inl (cZ, 120, .inl z))] := hD
    refine lv_if_eq (tgt := 28) hx hb dX4_keys_21 (by decide) (fun c21 => ?_) (fun c21 => ?_)
    · skip
      refine lv_iconst (v := 0) hx hb dX4_keys_28 (by decide) ?_
      refine lv_istore_n (lv' := [(2, .int 0), (1, .int 0), (0, .ref hm)]) hx hb dX4_keys_29 rfl hl (by decide) rfl (fun ls hl => ?_)
      refine lv_iconst (v := 0) hx hb dX4_keys_30 (by decide) ?_
      refine lv_istore_n (lv' := [(3, .int 0), (2, .int 0), (1, .int 0), (0, .ref hm)]) hx hb dX4_keys_31 rfl hl (by decide) rfl (fun ls hl => ?_)
      have loop32 : ∀ (n32 : Nat) (i : Nat), i ≤ 32 → 32 - i < n32 → ∀ (H : Heap) (locs : List Loc), va_P D vwCl [(hm, .inr (4, [.int 0, .int (nI a), .ref gB, .int (nI nw), .int (nI ol), .int (b2i O), .int lf, .int us, .int (nI tc), .ref gT, .ref gZ, .int bd])), (gB, .inl (cI, 5760, .inl f)), (gT, .inl (cI, 32, .inl t)), (gZ, .inl (cZ, 120, .inl z))] H → va_D A [(hm, .inr (4, [.int 0, .int (nI a), .ref gB, .int (nI nw), .int (nI ol), .int (b2i O), .int lf, .int us, .int (nI tc), .ref gT, .ref gZ, .int bd])), (gB, .inl (cI, 5760, .inl f)), (gT, .inl (cI, 32, .inl t)), (gZ, .inl (cZ, 120, .inl z))] → va_S A s.heap H locs → ∀ (ls : Array Slot), lv_has ls 7 [(3, .int (nI i)), (2, .int 0), (1, .int 0), (0, .ref hm)] → W p l e ({ frames := 4, cells := 0, slots := 0, locals := 92 }) s m ([.ref hm] : List Value).toArray below meth c H locs 0 0 (MQ below (ct_Qi D vwCl [(hm, .inr (4, [.int 0, .int (nI a), .ref gB, .int (nI nw), .int (nI ol), .int (b2i O), .int lf, .int us, .int (nI tc), .ref gT, .ref gZ, .int bd])), (gB, .inl (cI, 5760, .inl f)), (gT, .inl (cI, 32, .inl t)), (gZ, .inl (cZ, 120, .inl z))] (nI (ks_R f a nw ol)) A) ([.ref hm] : List Value).toArray s 0 0 A) (F0 m 32 ls []) := by
        intro n32
        induction n32 with
        | zero =>
          intro i _ hm
          exact absurd hm (Nat.not_lt_zero _)
        | succ n32 ih32 =>
          intro i hi hm32 H locs hP hD hS ls hl
          refine lv_iload_n hx hb dX4_keys_32 rfl (lv_at hl 0 rfl) ?_
          refine lv_bipush (v := 32) hx hb dX4_keys_33 (by decide) ?_
          refine lv_icmp_ge (tgt := 123) hx hb dX4_keys_35 (by decide) (fun c35 => ?_) (fun c35 => ?_)
          · skip
            have c35 : 32 ≤ i := (nI_leI (a := 32) (b := i) (by omega) (by omega)).mp c35
            refine lv_iload_n hx hb dX4_keys_123 rfl (lv_at hl 2 rfl) ?_
            exact ct_iret hx hb hr hlocks (by unfold ks_R; rw [ifp_f (fun h => b2i_0.mp c21 h.2)]; rfl) (rfl) hP hD hS dX4_keys_124
          · skip
            have c35 : ¬ 32 ≤ i := fun h => c35 ((nI_leI (a := 32) (b := i) (by omega) (by omega)).mpr h)
            refine lv_iload_n hx hb dX4_keys_38 rfl (lv_at hl 1 rfl) ?_
            refine lv_if_eq (tgt := 123) hx hb dX4_keys_39 (by decide) (fun _ => ?_) (fun c9 => absurd c9 (by decide))
            refine lv_iload_n hx hb dX4_keys_123 rfl (lv_at hl 2 rfl) ?_
            exact ct_iret hx hb hr hlocks (by unfold ks_R; rw [ifp_f (fun h => b2i_0.mp c21 h.2)]; rfl) (rfl) hP hD hS dX4_keys_124
      exact loop32 _ 0 (by omega) (Nat.lt_succ_self _) _ _ hP hD hS ls (lv_sub hl [0, 1, 2, 3] rfl)
    · skip
      refine lv_iconst (v := 1) hx hb dX4_keys_24 (by decide) ?_
      refine lv_goto (tgt := 29) hx hb dX4_keys_25 (by decide) ?_
      refine lv_istore_n (lv' := [(2, .int 1), (1, .int 0), (0, .ref hm)]) hx hb dX4_keys_29 rfl hl (by decide) rfl (fun ls hl => ?_)
      refine lv_iconst (v := 0) hx hb dX4_keys_30 (by decide) ?_
      refine lv_istore_n (lv' := [(3, .int 0), (2, .int 1), (1, .int 0), (0, .ref hm)]) hx hb dX4_keys_31 rfl hl (by decide) rfl (fun ls hl => ?_)
      have loop32 : ∀ (n32 : Nat) (i k : Nat), i ≤ 32 → k = ks_sum f a (nw % 8) i → 32 - i < n32 → ∀ (H : Heap) (locs : List Loc), va_P D vwCl [(hm, .inr (4, [.int 0, .int (nI a), .ref gB, .int (nI nw), .int (nI ol), .int (b2i O), .int lf, .int us, .int (nI tc), .ref gT, .ref gZ, .int bd])), (gB, .inl (cI, 5760, .inl f)), (gT, .inl (cI, 32, .inl t)), (gZ, .inl (cZ, 120, .inl z))] H → va_D A [(hm, .inr (4, [.int 0, .int (nI a), .ref gB, .int (nI nw), .int (nI ol), .int (b2i O), .int lf, .int us, .int (nI tc), .ref gT, .ref gZ, .int bd])), (gB, .inl (cI, 5760, .inl f)), (gT, .inl (cI, 32, .inl t)), (gZ, .inl (cZ, 120, .inl z))] → va_S A s.heap H locs → ∀ (ls : Array Slot), lv_has ls 7 [(3, .int (nI i)), (2, .int 1), (1, .int (nI k)), (0, .ref hm)] → W p l e ({ frames := 4, cells := 0, slots := 0, locals := 92 }) s m ([.ref hm] : List Value).toArray below meth c H locs 0 0 (MQ below (ct_Qi D vwCl [(hm, .inr (4, [.int 0, .int (nI a), .ref gB, .int (nI nw), .int (nI ol), .int (b2i O), .int lf, .int us, .int (nI tc), .ref gT, .ref gZ, .int bd])), (gB, .inl (cI, 5760, .inl f)), (gT, .inl (cI, 32, .inl t)), (gZ, .inl (cZ, 120, .inl z))] (nI (ks_R f a nw ol)) A) ([.ref hm] : List Value).toArray s 0 0 A) (F0 m 32 ls []) := by
        intro n32
        induction n32 with
        | zero =>
          intro i k _ _ hm
          exact absurd hm (Nat.not_lt_zero _)
        | succ n32 ih32 =>
          intro i k hi ex hm32 H locs hP hD hS ls hl
          refine lv_iload_n hx hb dX4_keys_32 rfl (lv_at hl 0 rfl) ?_
          refine lv_bipush (v := 32) hx hb dX4_keys_33 (by decide) ?_
          refine lv_icmp_ge (tgt := 123) hx hb dX4_keys_35 (by decide) (fun c35 => ?_) (fun c35 => ?_)
          · skip
            have c35 : 32 ≤ i := (nI_leI (a := 32) (b := i) (by omega) (by omega)).mp c35
            refine lv_iload_n hx hb dX4_keys_123 rfl (lv_at hl 2 rfl) ?_
            exact ct_iret hx hb hr hlocks (by unfold ks_R; rw [ifp_t ⟨b2i_n0 c6, b2i_n0 c21⟩, ex, show i = 32 by omega]) (rfl) hP hD hS dX4_keys_124
          · skip
            have c35 : ¬ 32 ≤ i := fun h => c35 ((nI_leI (a := 32) (b := i) (by omega) (by omega)).mpr h)
            refine lv_iload_n hx hb dX4_keys_38 rfl (lv_at hl 1 rfl) ?_
            refine lv_if_eq (tgt := 123) hx hb dX4_keys_39 (by decide) (fun c9 => absurd c9 (by decide)) (fun _ => ?_)
            refine lv_aload_n hx hb dX4_keys_42 rfl (lv_at hl 3 rfl) ?_
            refine lv_aload_n hx hb dX4_keys_43 rfl (lv_at hl 3 rfl) ?_
            refine va_get (D := D) (cl := vwCl) (ci := 4) (v := .int (nI nw)) (C := RX4) (T := TX4) (N := 12) hx hb hts hiX4 hown hK hP 0 rfl rfl 3 (by decide) hk0 (fun _ h9 => h9) rfl dX4_keys_44 ?_
            refine lv_iload_n hx hb dX4_keys_47 rfl (lv_at hl 0 rfl) ?_
            refine ct_calli (w := [(hm, .inr (4, [.int 0, .int (nI a), .ref gB, .int (nI nw), .int (nI ol), .int (b2i O), .int lf, .int us, .int (nI tc), .ref gT, .ref gZ, .int bd])), (gB, .inl (cI, 5760, .inl f)), (gT, .inl (cI, 32, .inl t)), (gZ, .inl (cZ, 120, .inl z))]) (w' := [(hm, .inr (4, [.int 0, .int (nI a), .ref gB, .int (nI nw), .int (nI ol), .int (b2i O), .int lf, .int us, .int (nI tc), .ref gT, .ref gZ, .int bd])), (gB, .inl (cI, 5760, .inl f)), (gT, .inl (cI, 32, .inl t)), (gZ, .inl (cZ, 120, .inl z))]) (va_runV (As := [.int (nI nw), .int (nI i)]) (rest := []) ⟨hx, hb, hml, hown, hts⟩ (c_X4_nodeOf l D cI cZ hm gB gT gZ a tc nw ol f t z O lf us bd nw i (by omega) (by omega) (by omega) (by omega) (by omega) (by omega) (by omega) _) (cwV 2 hts gX4_keys_X4_nodeOf rfl rfl rfl (by decide +kernel) ⟨Nat.le_of_ble_eq_true rfl, Nat.le_of_ble_eq_true rfl⟩) (ct_preV (w := [(hm, .inr (4, [.int 0, .int (nI a), .ref gB, .int (nI nw), .int (nI ol), .int (b2i O), .int lf, .int us, .int (nI tc), .ref gT, .ref gZ, .int bd])), (gB, .inl (cI, 5760, .inl f)), (gT, .inl (cI, 32, .inl t)), (gZ, .inl (cZ, 120, .inl z))]) (ci := 4) (i0 := 0) hK hN hP hD [0, 1, 2, 3] (by decide) rfl rfl rfl) rfl rfl hl.1 rfl (lv_room (Nat.le_of_ble_eq_true rfl)) dX4_keys_48 ⟨Nat.le_of_ble_eq_true rfl, Nat.le_of_ble_eq_true rfl⟩) hP hD hS hA [0, 1, 2, 3] rfl [hm, gB, gT, gZ] rfl rfl (fun H locs hP hD hS => ?_)
            have hP : va_P D vwCl [(hm, .inr (4, [.int 0, .int (nI a), .ref gB, .int (nI nw), .int (nI ol), .int (b2i O), .int lf, .int us, .int (nI tc), .ref gT, .ref gZ, .int bd])), (gB, .inl (cI, 5760, .inl f)), (gT, .inl (cI, 32, .inl t)), (gZ, .inl (cZ, 120, .inl z))] _ := hP
            have hD : va_D A [(hm, .inr (4, [.int 0, .int (nI a), .ref gB, .int (nI nw), .int (nI ol), .int (b2i O), .int lf, .int us, .int (nI tc), .ref gT, .ref gZ, .int bd])), (gB, .inl (cI, 5760, .inl f)), (gT, .inl (cI, 32, .inl t)), (gZ, .inl (cZ, 120, .inl z))] := hD
            have hn1 := rt_nv (i := i) (b2i_n0 c21) ha (by omega) (by omega)
            have hn2 := hn1.2.1
            refine ct_top (y := nI (nv (f (nw % 8 * 48 + (9 + i))))) (hn1.1) ?_
            refine lv_istore (lv' := [(4, .int (nI (nv (f (nw % 8 * 48 + (9 + i)))))), (3, .int (nI i)), (2, .int 1), (1, .int (nI k)), (0, .ref hm)]) hx hb dX4_keys_51 hl (by decide) rfl (fun ls hl => ?_)
            refine lv_iload hx hb dX4_keys_53 (lv_at hl 0 rfl) ?_
            refine lv_if_eq (tgt := 72) hx hb dX4_keys_55 (by decide) (fun c55 => ?_) (fun c55 => ?_)
            · skip
              have c55 : (nv (f (nw % 8 * 48 + (9 + i)))) = 0 := (nI_eq (a := (nv (f (nw % 8 * 48 + (9 + i))))) (b := 0) (by omega) (by omega)).mp c55
              refine lv_iconst (v := 0) hx hb dX4_keys_72 (by decide) ?_
              refine lv_istore (lv' := [(5, .int 0), (4, .int (nI (nv (f (nw % 8 * 48 + (9 + i)))))), (3, .int (nI i)), (2, .int 1), (1, .int (nI k)), (0, .ref hm)]) hx hb dX4_keys_73 hl (by decide) rfl (fun ls hl => ?_)
              refine lv_iconst (v := 0) hx hb dX4_keys_75 (by decide) ?_
              refine lv_istore (lv' := [(6, .int 0), (5, .int 0), (4, .int (nI (nv (f (nw % 8 * 48 + (9 + i)))))), (3, .int (nI i)), (2, .int 1), (1, .int (nI k)), (0, .ref hm)]) hx hb dX4_keys_76 hl (by decide) rfl (fun ls hl => ?_)
              have loop78 : ∀ (n78 : Nat) (j m2 : Nat), j ≤ 32 → m2 = k → 32 - j < n78 → ∀ (H : Heap) (locs : List Loc), va_P D vwCl [(hm, .inr (4, [.int 0, .int (nI a), .ref gB, .int (nI nw), .int (nI ol), .int (b2i O), .int lf, .int us, .int (nI tc), .ref gT, .ref gZ, .int bd])), (gB, .inl (cI, 5760, .inl f)), (gT, .inl (cI, 32, .inl t)), (gZ, .inl (cZ, 120, .inl z))] H → va_D A [(hm, .inr (4, [.int 0, .int (nI a), .ref gB, .int (nI nw), .int (nI ol), .int (b2i O), .int lf, .int us, .int (nI tc), .ref gT, .ref gZ, .int bd])), (gB, .inl (cI, 5760, .inl f)), (gT, .inl (cI, 32, .inl t)), (gZ, .inl (cZ, 120, .inl z))] → va_S A s.heap H locs → ∀ (ls : Array Slot), lv_has ls 7 [(6, .int (nI j)), (5, .int 0), (4, .int (nI (nv (f (nw % 8 * 48 + (9 + i)))))), (3, .int (nI i)), (2, .int 1), (1, .int (nI m2)), (0, .ref hm)] → W p l e ({ frames := 4, cells := 0, slots := 0, locals := 92 }) s m ([.ref hm] : List Value).toArray below meth c H locs 0 0 (MQ below (ct_Qi D vwCl [(hm, .inr (4, [.int 0, .int (nI a), .ref gB, .int (nI nw), .int (nI ol), .int (b2i O), .int lf, .int us, .int (nI tc), .ref gT, .ref gZ, .int bd])), (gB, .inl (cI, 5760, .inl f)), (gT, .inl (cI, 32, .inl t)), (gZ, .inl (cZ, 120, .inl z))] (nI (ks_R f a nw ol)) A) ([.ref hm] : List Value).toArray s 0 0 A) (F0 m 78 ls []) := by
                intro n78
                induction n78 with
                | zero =>
                  intro j m2 _ _ hm
                  exact absurd hm (Nat.not_lt_zero _)
                | succ n78 ih78 =>
                  intro j m2 hj em hm78 H locs hP hD hS ls hl
                  refine lv_iload hx hb dX4_keys_78 (lv_at hl 0 rfl) ?_
                  refine lv_bipush (v := 32) hx hb dX4_keys_80 (by decide) ?_
                  refine lv_icmp_ge (tgt := 117) hx hb dX4_keys_82 (by decide) (fun c82 => ?_) (fun c82 => ?_)
                  · skip
                    have c82 : 32 ≤ j := (nI_leI (a := 32) (b := j) (by omega) (by omega)).mp c82
                    refine lv_iinc (v := nI (i + 1)) (lv' := [(3, .int (nI (i + 1))), (6, .int (nI j)), (5, .int 0), (4, .int (nI (nv (f (nw % 8 * 48 + (9 + i)))))), (2, .int 1), (1, .int (nI m2)), (0, .ref hm)]) hx hb dX4_keys_117 hl (k := 3) rfl (nI_add i 1) (by decide) rfl (fun ls hl => ?_)
                    refine lv_goto (tgt := 32) hx hb dX4_keys_120 (by decide) ?_
                    exact ih32 (i + 1) m2 (by omega) (by rw [ks_sum, ifp_f (fun h => h.1 ((nv_0 hn1.1).mp c55)), em]; exact ex) (by omega) _ _ hP hD hS ls (lv_sub hl [0, 4, 5, 6] rfl)
                  · skip
                    have c82 : ¬ 32 ≤ j := fun h => c82 ((nI_leI (a := 32) (b := j) (by omega) (by omega)).mpr h)
                    refine lv_iload hx hb dX4_keys_85 (lv_at hl 1 rfl) ?_
                    refine lv_if_eq (tgt := 117) hx hb dX4_keys_87 (by decide) (fun _ => ?_) (fun c9 => absurd c9 (by decide))
                    refine lv_iinc (v := nI (i + 1)) (lv' := [(3, .int (nI (i + 1))), (6, .int (nI j)), (5, .int 0), (4, .int (nI (nv (f (nw % 8 * 48 + (9 + i)))))), (2, .int 1), (1, .int (nI m2)), (0, .ref hm)]) hx hb dX4_keys_117 hl (k := 3) rfl (nI_add i 1) (by decide) rfl (fun ls hl => ?_)
                    refine lv_goto (tgt := 32) hx hb dX4_keys_120 (by decide) ?_
                    exact ih32 (i + 1) m2 (by omega) (by rw [ks_sum, ifp_f (fun h => h.1 ((nv_0 hn1.1).mp c55)), em]; exact ex) (by omega) _ _ hP hD hS ls (lv_sub hl [0, 4, 5, 6] rfl)
              exact loop78 _ 0 k (by omega) (rfl) (Nat.lt_succ_self _) _ _ hP hD hS ls (lv_sub hl [0, 1, 2, 3, 4, 5, 6] rfl)
            · skip
              have c55 : ¬ (nv (f (nw % 8 * 48 + (9 + i)))) = 0 := fun h => c55 ((nI_eq (a := (nv (f (nw % 8 * 48 + (9 + i))))) (b := 0) (by omega) (by omega)).mpr h)
              refine lv_aload_n hx hb dX4_keys_58 rfl (lv_at hl 4 rfl) ?_
              refine lv_iload hx hb dX4_keys_59 (lv_at hl 0 rfl) ?_
              refine lv_iconst (v := 2) hx hb dX4_keys_61 (by decide) ?_
              refine ct_calli (w := [(hm, .inr (4, [.int 0, .int (nI a), .ref gB, .int (nI nw), .int (nI ol), .int (b2i O), .int lf, .int us, .int (nI tc), .ref gT, .ref gZ, .int bd])), (gB, .inl (cI, 5760, .inl f)), (gT, .inl (cI, 32, .inl t)), (gZ, .inl (cZ, 120, .inl z))]) (w' := [(hm, .inr (4, [.int 0, .int (nI a), .ref gB, .int (nI nw), .int (nI ol), .int (b2i O), .int lf, .int us, .int (nI tc), .ref gT, .ref gZ, .int bd])), (gB, .inl (cI, 5760, .inl f)), (gT, .inl (cI, 32, .inl t)), (gZ, .inl (cZ, 120, .inl z))]) (va_runV (As := [.int (nI (nv (f (nw % 8 * 48 + (9 + i))))), .int 2]) (rest := []) ⟨hx, hb, hml, hown, hts⟩ (c_X4_isRight l D cI cZ hm gB gT gZ a tc nw ol f t z O lf us bd (nv (f (nw % 8 * 48 + (9 + i)))) 2 (by omega) (by omega) (by omega) (by omega) (by omega) (by omega) (Or.inr (Or.inl rfl)) _) (cwV 2 hts gX4_keys_X4_isRight rfl rfl rfl (by decide +kernel) ⟨Nat.le_of_ble_eq_true rfl, Nat.le_of_ble_eq_true rfl⟩) (ct_preV (w := [(hm, .inr (4, [.int 0, .int (nI a), .ref gB, .int (nI nw), .int (nI ol), .int (b2i O), .int lf, .int us, .int (nI tc), .ref gT, .ref gZ, .int bd])), (gB, .inl (cI, 5760, .inl f)), (gT, .inl (cI, 32, .inl t)), (gZ, .inl (cZ, 120, .inl z))]) (ci := 4) (i0 := 0) hK hN hP hD [0, 1, 2, 3] (by decide) rfl rfl rfl) rfl rfl hl.1 rfl (lv_room (Nat.le_of_ble_eq_true rfl)) dX4_keys_62 ⟨Nat.le_of_ble_eq_true rfl, Nat.le_of_ble_eq_true rfl⟩) hP hD hS hA [0, 1, 2, 3] rfl [hm, gB, gT, gZ] rfl rfl (fun H locs hP hD hS => ?_)
              have hP : va_P D vwCl [(hm, .inr (4, [.int 0, .int (nI a), .ref gB, .int (nI nw), .int (nI ol), .int (b2i O), .int lf, .int us, .int (nI tc), .ref gT, .ref gZ, .int bd])), (gB, .inl (cI, 5760, .inl f)), (gT, .inl (cI, 32, .inl t)), (gZ, .inl (cZ, 120, .inl z))] _ := hP
              have hD : va_D A [(hm, .inr (4, [.int 0, .int (nI a), .ref gB, .int (nI nw), .int (nI ol), .int (b2i O), .int lf, .int us, .int (nI tc), .ref gT, .ref gZ, .int bd])), (gB, .inl (cI, 5760, .inl f)), (gT, .inl (cI, 32, .inl t)), (gZ, .inl (cZ, 120, .inl z))] := hD
              refine lv_if_eq (tgt := 72) hx hb dX4_keys_65 (by decide) (fun c65 => ?_) (fun c65 => ?_)
              · skip
                refine lv_iconst (v := 0) hx hb dX4_keys_72 (by decide) ?_
                refine lv_istore (lv' := [(5, .int 0), (4, .int (nI (nv (f (nw % 8 * 48 + (9 + i)))))), (3, .int (nI i)), (2, .int 1), (1, .int (nI k)), (0, .ref hm)]) hx hb dX4_keys_73 hl (by decide) rfl (fun ls hl => ?_)
                refine lv_iconst (v := 0) hx hb dX4_keys_75 (by decide) ?_
                refine lv_istore (lv' := [(6, .int 0), (5, .int 0), (4, .int (nI (nv (f (nw % 8 * 48 + (9 + i)))))), (3, .int (nI i)), (2, .int 1), (1, .int (nI k)), (0, .ref hm)]) hx hb dX4_keys_76 hl (by decide) rfl (fun ls hl => ?_)
                have loop78 : ∀ (n78 : Nat) (j m2 : Nat), j ≤ 32 → m2 = k → 32 - j < n78 → ∀ (H : Heap) (locs : List Loc), va_P D vwCl [(hm, .inr (4, [.int 0, .int (nI a), .ref gB, .int (nI nw), .int (nI ol), .int (b2i O), .int lf, .int us, .int (nI tc), .ref gT, .ref gZ, .int bd])), (gB, .inl (cI, 5760, .inl f)), (gT, .inl (cI, 32, .inl t)), (gZ, .inl (cZ, 120, .inl z))] H → va_D A [(hm, .inr (4, [.int 0, .int (nI a), .ref gB, .int (nI nw), .int (nI ol), .int (b2i O), .int lf, .int us, .int (nI tc), .ref gT, .ref gZ, .int bd])), (gB, .inl (cI, 5760, .inl f)), (gT, .inl (cI, 32, .inl t)), (gZ, .inl (cZ, 120, .inl z))] → va_S A s.heap H locs → ∀ (ls : Array Slot), lv_has ls 7 [(6, .int (nI j)), (5, .int 0), (4, .int (nI (nv (f (nw % 8 * 48 + (9 + i)))))), (3, .int (nI i)), (2, .int 1), (1, .int (nI m2)), (0, .ref hm)] → W p l e ({ frames := 4, cells := 0, slots := 0, locals := 92 }) s m ([.ref hm] : List Value).toArray below meth c H locs 0 0 (MQ below (ct_Qi D vwCl [(hm, .inr (4, [.int 0, .int (nI a), .ref gB, .int (nI nw), .int (nI ol), .int (b2i O), .int lf, .int us, .int (nI tc), .ref gT, .ref gZ, .int bd])), (gB, .inl (cI, 5760, .inl f)), (gT, .inl (cI, 32, .inl t)), (gZ, .inl (cZ, 120, .inl z))] (nI (ks_R f a nw ol)) A) ([.ref hm] : List Value).toArray s 0 0 A) (F0 m 78 ls []) := by
                  intro n78
                  induction n78 with
                  | zero =>
                    intro j m2 _ _ hm
                    exact absurd hm (Nat.not_lt_zero _)
                  | succ n78 ih78 =>
                    intro j m2 hj em hm78 H locs hP hD hS ls hl
                    refine lv_iload hx hb dX4_keys_78 (lv_at hl 0 rfl) ?_
                    refine lv_bipush (v := 32) hx hb dX4_keys_80 (by decide) ?_
                    refine lv_icmp_ge (tgt := 117) hx hb dX4_keys_82 (by decide) (fun c82 => ?_) (fun c82 => ?_)
                    · skip
                      have c82 : 32 ≤ j := (nI_leI (a := 32) (b := j) (by omega) (by omega)).mp c82
                      refine lv_iinc (v := nI (i + 1)) (lv' := [(3, .int (nI (i + 1))), (6, .int (nI j)), (5, .int 0), (4, .int (nI (nv (f (nw % 8 * 48 + (9 + i)))))), (2, .int 1), (1, .int (nI m2)), (0, .ref hm)]) hx hb dX4_keys_117 hl (k := 3) rfl (nI_add i 1) (by decide) rfl (fun ls hl => ?_)
                      refine lv_goto (tgt := 32) hx hb dX4_keys_120 (by decide) ?_
                      exact ih32 (i + 1) m2 (by omega) (by rw [ks_sum, ifp_f (fun h => b2i_0.mp c65 h.2), em]; exact ex) (by omega) _ _ hP hD hS ls (lv_sub hl [0, 4, 5, 6] rfl)
                    · skip
                      have c82 : ¬ 32 ≤ j := fun h => c82 ((nI_leI (a := 32) (b := j) (by omega) (by omega)).mpr h)
                      refine lv_iload hx hb dX4_keys_85 (lv_at hl 1 rfl) ?_
                      refine lv_if_eq (tgt := 117) hx hb dX4_keys_87 (by decide) (fun _ => ?_) (fun c9 => absurd c9 (by decide))
                      refine lv_iinc (v := nI (i + 1)) (lv' := [(3, .int (nI (i + 1))), (6, .int (nI j)), (5, .int 0), (4, .int (nI (nv (f (nw % 8 * 48 + (9 + i)))))), (2, .int 1), (1, .int (nI m2)), (0, .ref hm)]) hx hb dX4_keys_117 hl (k := 3) rfl (nI_add i 1) (by decide) rfl (fun ls hl => ?_)
                      refine lv_goto (tgt := 32) hx hb dX4_keys_120 (by decide) ?_
                      exact ih32 (i + 1) m2 (by omega) (by rw [ks_sum, ifp_f (fun h => b2i_0.mp c65 h.2), em]; exact ex) (by omega) _ _ hP hD hS ls (lv_sub hl [0, 4, 5, 6] rfl)
                exact loop78 _ 0 k (by omega) (rfl) (Nat.lt_succ_self _) _ _ hP hD hS ls (lv_sub hl [0, 1, 2, 3, 4, 5, 6] rfl)
              · skip
                refine lv_iconst (v := 1) hx hb dX4_keys_68 (by decide) ?_
                refine lv_goto (tgt := 73) hx hb dX4_keys_69 (by decide) ?_
                refine lv_istore (lv' := [(5, .int 1), (4, .int (nI (nv (f (nw % 8 * 48 + (9 + i)))))), (3, .int (nI i)), (2, .int 1), (1, .int (nI k)), (0, .ref hm)]) hx hb dX4_keys_73 hl (by decide) rfl (fun ls hl => ?_)
                refine lv_iconst (v := 0) hx hb dX4_keys_75 (by decide) ?_
                refine lv_istore (lv' := [(6, .int 0), (5, .int 1), (4, .int (nI (nv (f (nw % 8 * 48 + (9 + i)))))), (3, .int (nI i)), (2, .int 1), (1, .int (nI k)), (0, .ref hm)]) hx hb dX4_keys_76 hl (by decide) rfl (fun ls hl => ?_)
                have loop78 : ∀ (n78 : Nat) (j m2 : Nat), j ≤ 32 → m2 = k + pg_told f (nv (f (nw % 8 * 48 + (9 + i))) * 48 + 2) j → 32 - j < n78 → ∀ (H : Heap) (locs : List Loc), va_P D vwCl [(hm, .inr (4, [.int 0, .int (nI a), .ref gB, .int (nI nw), .int (nI ol), .int (b2i O), .int lf, .int us, .int (nI tc), .ref gT, .ref gZ, .int bd])), (gB, .inl (cI, 5760, .inl f)), (gT, .inl (cI, 32, .inl t)), (gZ, .inl (cZ, 120, .inl z))] H → va_D A [(hm, .inr (4, [.int 0, .int (nI a), .ref gB, .int (nI nw), .int (nI ol), .int (b2i O), .int lf, .int us, .int (nI tc), .ref gT, .ref gZ, .int bd])), (gB, .inl (cI, 5760, .inl f)), (gT, .inl (cI, 32, .inl t)), (gZ, .inl (cZ, 120, .inl z))] → va_S A s.heap H locs → ∀ (ls : Array Slot), lv_has ls 7 [(6, .int (nI j)), (5, .int 1), (4, .int (nI (nv (f (nw % 8 * 48 + (9 + i)))))), (3, .int (nI i)), (2, .int 1), (1, .int (nI m2)), (0, .ref hm)] → W p l e ({ frames := 4, cells := 0, slots := 0, locals := 92 }) s m ([.ref hm] : List Value).toArray below meth c H locs 0 0 (MQ below (ct_Qi D vwCl [(hm, .inr (4, [.int 0, .int (nI a), .ref gB, .int (nI nw), .int (nI ol), .int (b2i O), .int lf, .int us, .int (nI tc), .ref gT, .ref gZ, .int bd])), (gB, .inl (cI, 5760, .inl f)), (gT, .inl (cI, 32, .inl t)), (gZ, .inl (cZ, 120, .inl z))] (nI (ks_R f a nw ol)) A) ([.ref hm] : List Value).toArray s 0 0 A) (F0 m 78 ls []) := by
                  intro n78
                  induction n78 with
                  | zero =>
                    intro j m2 _ _ hm
                    exact absurd hm (Nat.not_lt_zero _)
                  | succ n78 ih78 =>
                    intro j m2 hj em hm78 H locs hP hD hS ls hl
                    refine lv_iload hx hb dX4_keys_78 (lv_at hl 0 rfl) ?_
                    refine lv_bipush (v := 32) hx hb dX4_keys_80 (by decide) ?_
                    refine lv_icmp_ge (tgt := 117) hx hb dX4_keys_82 (by decide) (fun c82 => ?_) (fun c82 => ?_)
                    · skip
                      have c82 : 32 ≤ j := (nI_leI (a := 32) (b := j) (by omega) (by omega)).mp c82
                      refine lv_iinc (v := nI (i + 1)) (lv' := [(3, .int (nI (i + 1))), (6, .int (nI j)), (5, .int 1), (4, .int (nI (nv (f (nw % 8 * 48 + (9 + i)))))), (2, .int 1), (1, .int (nI m2)), (0, .ref hm)]) hx hb dX4_keys_117 hl (k := 3) rfl (nI_add i 1) (by decide) rfl (fun ls hl => ?_)
                      refine lv_goto (tgt := 32) hx hb dX4_keys_120 (by decide) ?_
                      exact ih32 (i + 1) m2 (by omega) (by rw [ks_sum, ifp_t ⟨fun h => c55 ((nv_0 hn1.1).mpr h), b2i_n0 c65⟩, em, ex, show j = 32 by omega]) (by omega) _ _ hP hD hS ls (lv_sub hl [0, 4, 5, 6] rfl)
                    · skip
                      have c82 : ¬ 32 ≤ j := fun h => c82 ((nI_leI (a := 32) (b := j) (by omega) (by omega)).mpr h)
                      refine lv_iload hx hb dX4_keys_85 (lv_at hl 1 rfl) ?_
                      refine lv_if_eq (tgt := 117) hx hb dX4_keys_87 (by decide) (fun c9 => absurd c9 (by decide)) (fun _ => ?_)
                      refine lv_iload_n hx hb dX4_keys_90 rfl (lv_at hl 5 rfl) ?_
                      refine lv_aload_n hx hb dX4_keys_91 rfl (lv_at hl 6 rfl) ?_
                      refine lv_iload hx hb dX4_keys_92 (lv_at hl 2 rfl) ?_
                      refine lv_iconst (v := 2) hx hb dX4_keys_94 (by decide) ?_
                      refine lv_iload hx hb dX4_keys_95 (lv_at hl 0 rfl) ?_
                      refine lv_iadd hx hb dX4_keys_97 ?_
                      refine ct_top (y := nI (2 + j)) (nI_add 2 j) ?_
                      refine ct_calli (w := [(hm, .inr (4, [.int 0, .int (nI a), .ref gB, .int (nI nw), .int (nI ol), .int (b2i O), .int lf, .int us, .int (nI tc), .ref gT, .ref gZ, .int bd])), (gB, .inl (cI, 5760, .inl f)), (gT, .inl (cI, 32, .inl t)), (gZ, .inl (cZ, 120, .inl z))]) (w' := [(hm, .inr (4, [.int 0, .int (nI a), .ref gB, .int (nI nw), .int (nI ol), .int (b2i O), .int lf, .int us, .int (nI tc), .ref gT, .ref gZ, .int bd])), (gB, .inl (cI, 5760, .inl f)), (gT, .inl (cI, 32, .inl t)), (gZ, .inl (cZ, 120, .inl z))]) (va_runV (As := [.int (nI (nv (f (nw % 8 * 48 + (9 + i))))), .int (nI (2 + j))]) (rest := [.int (nI m2)]) ⟨hx, hb, hml, hown, hts⟩ (c_X4_at l D cI cZ hm gB gT gZ a tc nw ol f t z O lf us bd (nv (f (nw % 8 * 48 + (9 + i)))) (2 + j) (by omega) (by omega) (by omega) (by omega) (by omega) (by omega) (by omega) _) (cwV 2 hts gX4_keys_X4_at rfl rfl rfl (by decide +kernel) ⟨Nat.le_of_ble_eq_true rfl, Nat.le_of_ble_eq_true rfl⟩) (ct_preV (w := [(hm, .inr (4, [.int 0, .int (nI a), .ref gB, .int (nI nw), .int (nI ol), .int (b2i O), .int lf, .int us, .int (nI tc), .ref gT, .ref gZ, .int bd])), (gB, .inl (cI, 5760, .inl f)), (gT, .inl (cI, 32, .inl t)), (gZ, .inl (cZ, 120, .inl z))]) (ci := 4) (i0 := 0) hK hN hP hD [0, 1, 2, 3] (by decide) rfl rfl rfl) rfl rfl hl.1 rfl (lv_room (Nat.le_of_ble_eq_true rfl)) dX4_keys_98 ⟨Nat.le_of_ble_eq_true rfl, Nat.le_of_ble_eq_true rfl⟩) hP hD hS hA [0, 1, 2, 3] rfl [hm, gB, gT, gZ] rfl rfl (fun H locs hP hD hS => ?_)
                      have hP : va_P D vwCl [(hm, .inr (4, [.int 0, .int (nI a), .ref gB, .int (nI nw), .int (nI ol), .int (b2i O), .int lf, .int us, .int (nI tc), .ref gT, .ref gZ, .int bd])), (gB, .inl (cI, 5760, .inl f)), (gT, .inl (cI, 32, .inl t)), (gZ, .inl (cZ, 120, .inl z))] _ := hP
                      have hD : va_D A [(hm, .inr (4, [.int 0, .int (nI a), .ref gB, .int (nI nw), .int (nI ol), .int (b2i O), .int lf, .int us, .int (nI tc), .ref gT, .ref gZ, .int bd])), (gB, .inl (cI, 5760, .inl f)), (gT, .inl (cI, 32, .inl t)), (gZ, .inl (cZ, 120, .inl z))] := hD
                      refine lv_if_eq (tgt := 108) hx hb dX4_keys_101 (by decide) (fun c101 => ?_) (fun c101 => ?_)
                      · skip
                        refine lv_iconst (v := 0) hx hb dX4_keys_108 (by decide) ?_
                        refine lv_iadd hx hb dX4_keys_109 ?_
                        refine ct_top (y := nI (m2 + 0)) (nI_add m2 0) ?_
                        refine lv_istore_n (lv' := [(1, .int (nI (m2 + 0))), (6, .int (nI j)), (5, .int 1), (4, .int (nI (nv (f (nw % 8 * 48 + (9 + i)))))), (3, .int (nI i)), (2, .int 1), (0, .ref hm)]) hx hb dX4_keys_110 rfl hl (by decide) rfl (fun ls hl => ?_)
                        refine lv_iinc (v := nI (j + 1)) (lv' := [(6, .int (nI (j + 1))), (1, .int (nI (m2 + 0))), (5, .int 1), (4, .int (nI (nv (f (nw % 8 * 48 + (9 + i)))))), (3, .int (nI i)), (2, .int 1), (0, .ref hm)]) hx hb dX4_keys_111 hl (k := 1) rfl (nI_add j 1) (by decide) rfl (fun ls hl => ?_)
                        refine lv_goto (tgt := 78) hx hb dX4_keys_114 (by decide) ?_
                        exact ih78 (j + 1) (m2 + 0) (by omega) (by rw [← Nat.add_assoc] at c101; rw [pg_told_0 c101, em]; rfl) (by omega) _ _ hP hD hS ls (lv_sub hl [0, 2, 3, 4, 5, 1, 6] rfl)
                      · skip
                        refine lv_iconst (v := 1) hx hb dX4_keys_104 (by decide) ?_
                        refine lv_goto (tgt := 109) hx hb dX4_keys_105 (by decide) ?_
                        refine lv_iadd hx hb dX4_keys_109 ?_
                        refine ct_top (y := nI (m2 + 1)) (nI_add m2 1) ?_
                        refine lv_istore_n (lv' := [(1, .int (nI (m2 + 1))), (6, .int (nI j)), (5, .int 1), (4, .int (nI (nv (f (nw % 8 * 48 + (9 + i)))))), (3, .int (nI i)), (2, .int 1), (0, .ref hm)]) hx hb dX4_keys_110 rfl hl (by decide) rfl (fun ls hl => ?_)
                        refine lv_iinc (v := nI (j + 1)) (lv' := [(6, .int (nI (j + 1))), (1, .int (nI (m2 + 1))), (5, .int 1), (4, .int (nI (nv (f (nw % 8 * 48 + (9 + i)))))), (3, .int (nI i)), (2, .int 1), (0, .ref hm)]) hx hb dX4_keys_111 hl (k := 1) rfl (nI_add j 1) (by decide) rfl (fun ls hl => ?_)
                        refine lv_goto (tgt := 78) hx hb dX4_keys_114 (by decide) ?_
                        exact ih78 (j + 1) (m2 + 1) (by omega) (by rw [← Nat.add_assoc] at c101; rw [pg_told_1 c101, em]; rfl) (by omega) _ _ hP hD hS ls (lv_sub hl [0, 2, 3, 4, 5, 1, 6] rfl)
                exact loop78 _ 0 k (by omega) (rfl) (Nat.lt_succ_self _) _ _ hP hD hS ls (lv_sub hl [0, 1, 2, 3, 4, 5, 6] rfl)
      exact loop32 _ 0 0 (by omega) (rfl) (Nat.lt_succ_self _) _ _ hP hD hS ls (lv_sub hl [0, 1, 2, 3] rfl)
set_option maxHeartbeats 4000000 in
set_option maxRecDepth 100000 in
theorem c_X4_count (l : Launch) (D : va_G) (cI cZ : ClassId) (hm gB gT gZ a tc nw ol : Nat) (f t z : Nat → Int32) (O : Prop) (lf us bd : Int32) (x : Int32) (ha : a ≤ 120) (h12 : 12 ≤ a) (htc : tc ≤ 32) (hnw : nw ≤ 1000000) (hol : ol ≤ nw + 1) : CtI l yX4_count wsX4_count ({ frames := 8, cells := 0, slots := 0, locals := 181 }) D vwCl (ct_T cI cZ) [.ref hm, .int x] [(hm, .inr (4, [.int 0, .int (nI a), .ref gB, .int (nI nw), .int (nI ol), .int (b2i O), .int lf, .int us, .int (nI tc), .ref gT, .ref gZ, .int bd])), (gB, .inl (cI, 5760, .inl f)), (gT, .inl (cI, 32, .inl t)), (gZ, .inl (cZ, 120, .inl z))] [(hm, .inr (4, [.int 0, .int (nI a), .ref gB, .int (nI nw), .int (nI ol), .int (b2i O), .int lf, .int us, .int (nI tc), .ref gT, .ref gZ, .int ((sp_cnR O f a tc ol nw z bd x).2.2)])), (gB, .inl (cI, 5760, .inl f)), (gT, .inl (cI, 32, .inl t)), (gZ, .inl (cZ, 120, .inl ((sp_cnR O f a tc ol nw z bd x).2.1)))] ((sp_cnR O f a tc ol nw z bd x).1) := by
  refine ct_of (Qf := ct_Qi D vwCl [(hm, .inr (4, [.int 0, .int (nI a), .ref gB, .int (nI nw), .int (nI ol), .int (b2i O), .int lf, .int us, .int (nI tc), .ref gT, .ref gZ, .int ((sp_cnR O f a tc ol nw z bd x).2.2)])), (gB, .inl (cI, 5760, .inl f)), (gT, .inl (cI, 32, .inl t)), (gZ, .inl (cZ, 120, .inl ((sp_cnR O f a tc ol nw z bd x).2.1)))] ((sp_cnR O f a tc ol nw z bd x).1)) (cc := cX4_count) (maxL := 2) (ret := (some .int)) [(0, .ref hm), (1, .int x)] (by decide) rfl (Nat.le_of_ble_eq_true rfl) rfl ?_
  intro p e s m below meth c hx hb hr hts hown hlocks hml hnm A hA hK hN hP hD hS ls hl
  have hown : s.vm.findClass RX4 = some m.cls := hown
  have hk0 := hts (.fieldLink RX4 30 "DesignPagesModel" "code" "I") (by decide +kernel)
  have hk1 := hts (.fieldLink RX4 83 "DesignPagesModel" "down" "Z") (by decide +kernel)
  have hk2 := hts (.fieldLink RX4 67 "DesignPagesModel" "newest" "I") (by decide +kernel)
  have hk3 := hts (.fieldLink RX4 13 "DesignPagesModel" "oldest" "I") (by decide +kernel)
  have hk4 := hts (.fieldLink RX4 87 "DesignPagesModel" "typed" "I") (by decide +kernel)
  have hiX4 : ∀ w ∈ wsX40, w ∈ wsX4_count := by decide +kernel
  refine lv_aload_n hx hb dX4_count_0 rfl (lv_at hl 0 rfl) ?_
  refine lv_iconst (v := 0) hx hb dX4_count_1 (by decide) ?_
  refine va_put (D := D) (cl := vwCl) (ci := 4) (v := .int 0) (ty := .int) (C := RX4) (T := TX4) (N := 12) hx hb hts hiX4 tyX4 tyX4_ok nmX4 hown hK hP hD hS 0 rfl rfl 0 (by decide) hk0 (fun _ h9 => h9) rfl (by decide +kernel) rfl rfl (Nat.le_of_ble_eq_true rfl) dX4_count_2 (fun H locs hP hD hS => ?_)
  have hP : va_P D vwCl [(hm, .inr (4, [.int 0, .int (nI a), .ref gB, .int (nI nw), .int (nI ol), .int (b2i O), .int lf, .int us, .int (nI tc), .ref gT, .ref gZ, .int bd])), (gB, .inl (cI, 5760, .inl f)), (gT, .inl (cI, 32, .inl t)), (gZ, .inl (cZ, 120, .inl z))] _ := hP
  have hD : va_D A [(hm, .inr (4, [.int 0, .int (nI a), .ref gB, .int (nI nw), .int (nI ol), .int (b2i O), .int lf, .int us, .int (nI tc), .ref gT, .ref gZ, .int bd])), (gB, .inl (cI, 5760, .inl f)), (gT, .inl (cI, 32, .inl t)), (gZ, .inl (cZ, 120, .inl z))] := hD
  refine lv_aload_n hx hb dX4_count_5 rfl (lv_at hl 0 rfl) ?_
  refine va_get (D := D) (cl := vwCl) (ci := 4) (v := .int (b2i O)) (C := RX4) (T := TX4) (N := 12) hx hb hts hiX4 hown hK hP 0 rfl rfl 5 (by decide) hk1 (fun _ h9 => h9) rfl dX4_count_6 ?_
  refine lv_if_eq (tgt := 15) hx hb dX4_count_9 (by decide) (fun c9 => ?_) (fun c9 => ?_)
  · skip
    refine lv_iload_n hx hb dX4_count_15 rfl (lv_at hl 1 rfl) ?_
    by_cases c16o : x.toInt < 0 ∨ 4 < x.toInt
    · skip
      refine lv_tableOut (tgt := 77) hx hb dX4_count_16 c16o (by decide) ?_
      refine lv_bipush (v := (-2)) hx hb dX4_count_77 (by decide) ?_
      have e9 : sp_cnR O f a tc ol nw z bd x = ((-2), z, bd) := by obtain ⟨g0, g1, g2, g3, g4⟩ := sw_out c16o; unfold sp_cnR; rw [ifp_f (b2i_0.mp c9), ifp_f g0, ifp_f g1, ifp_f g2, ifp_f g3, ifp_f g4]
      exact ct_iret hx hb hr hlocks (by rw [e9]) (by rw [e9]) hP hD hS dX4_count_79
    · skip
      by_cases c16_0 : x = 0
      · skip
        refine ct_top (y := 0) c16_0 ?_
        refine lv_tableIn (tgt := 52) hx hb dX4_count_16 (by decide) (by decide) rfl (by decide) ?_
        refine lv_aload_n hx hb dX4_count_52 rfl (lv_at hl 0 rfl) ?_
        refine va_get (D := D) (cl := vwCl) (ci := 4) (v := .int (nI nw)) (C := RX4) (T := TX4) (N := 12) hx hb hts hiX4 hown hK hP 0 rfl rfl 3 (by decide) hk2 (fun _ h9 => h9) rfl dX4_count_53 ?_
        have e9 : sp_cnR O f a tc ol nw z bd x = (nI nw, z, bd) := by unfold sp_cnR; rw [ifp_f (b2i_0.mp c9), ifp_t c16_0]
        exact ct_iret hx hb hr hlocks (by rw [e9]) (by rw [e9]) hP hD hS dX4_count_56
      · skip
        by_cases c16_1 : x = 1
        · skip
          refine ct_top (y := 1) c16_1 ?_
          refine lv_tableIn (tgt := 57) hx hb dX4_count_16 (by decide) (by decide) rfl (by decide) ?_
          refine lv_aload_n hx hb dX4_count_57 rfl (lv_at hl 0 rfl) ?_
          refine va_get (D := D) (cl := vwCl) (ci := 4) (v := .int (nI ol)) (C := RX4) (T := TX4) (N := 12) hx hb hts hiX4 hown hK hP 0 rfl rfl 4 (by decide) hk3 (fun _ h9 => h9) rfl dX4_count_58 ?_
          have e9 : sp_cnR O f a tc ol nw z bd x = (nI ol, z, bd) := by unfold sp_cnR; rw [ifp_f (b2i_0.mp c9), ifp_f c16_0, ifp_t c16_1]
          exact ct_iret hx hb hr hlocks (by rw [e9]) (by rw [e9]) hP hD hS dX4_count_61
        · skip
          by_cases c16_2 : x = 2
          · skip
            refine ct_top (y := 2) c16_2 ?_
            refine lv_tableIn (tgt := 62) hx hb dX4_count_16 (by decide) (by decide) rfl (by decide) ?_
            refine lv_aload_n hx hb dX4_count_62 rfl (lv_at hl 0 rfl) ?_
            refine ct_calli (w := [(hm, .inr (4, [.int 0, .int (nI a), .ref gB, .int (nI nw), .int (nI ol), .int (b2i O), .int lf, .int us, .int (nI tc), .ref gT, .ref gZ, .int bd])), (gB, .inl (cI, 5760, .inl f)), (gT, .inl (cI, 32, .inl t)), (gZ, .inl (cZ, 120, .inl z))]) (w' := [(hm, .inr (4, [.int 0, .int (nI a), .ref gB, .int (nI nw), .int (nI ol), .int (b2i O), .int lf, .int us, .int (nI tc), .ref gT, .ref gZ, .int ((rall f a ol (nw + 1 - ol) z).2)])), (gB, .inl (cI, 5760, .inl f)), (gT, .inl (cI, 32, .inl t)), (gZ, .inl (cZ, 120, .inl ((rall f a ol (nw + 1 - ol) z).1)))]) (va_runV (As := []) (rest := []) ⟨hx, hb, hml, hown, hts⟩ (c_X4_freePages l D cI cZ hm gB gT gZ a tc nw ol f t z O lf us bd  (by omega) (by omega) (by omega) (by omega) (by omega)  _) (cwV 0 hts gX4_count_X4_freePages rfl rfl rfl (by decide +kernel) ⟨Nat.le_of_ble_eq_true rfl, Nat.le_of_ble_eq_true rfl⟩) (ct_preV (w := [(hm, .inr (4, [.int 0, .int (nI a), .ref gB, .int (nI nw), .int (nI ol), .int (b2i O), .int lf, .int us, .int (nI tc), .ref gT, .ref gZ, .int bd])), (gB, .inl (cI, 5760, .inl f)), (gT, .inl (cI, 32, .inl t)), (gZ, .inl (cZ, 120, .inl z))]) (ci := 4) (i0 := 0) hK hN hP hD [0, 1, 2, 3] (by decide) rfl rfl rfl) rfl rfl hl.1 rfl (lv_room (Nat.le_of_ble_eq_true rfl)) dX4_count_63 ⟨Nat.le_of_ble_eq_true rfl, Nat.le_of_ble_eq_true rfl⟩) hP hD hS hA [0, 1, 2, 3] rfl [hm, gB, gT, gZ] rfl rfl (fun H locs hP hD hS => ?_)
            have hP : va_P D vwCl [(hm, .inr (4, [.int 0, .int (nI a), .ref gB, .int (nI nw), .int (nI ol), .int (b2i O), .int lf, .int us, .int (nI tc), .ref gT, .ref gZ, .int ((rall f a ol (nw + 1 - ol) z).2)])), (gB, .inl (cI, 5760, .inl f)), (gT, .inl (cI, 32, .inl t)), (gZ, .inl (cZ, 120, .inl ((rall f a ol (nw + 1 - ol) z).1)))] _ := hP
            have hD : va_D A [(hm, .inr (4, [.int 0, .int (nI a), .ref gB, .int (nI nw), .int (nI ol), .int (b2i O), .int lf, .int us, .int (nI tc), .ref gT, .ref gZ, .int ((rall f a ol (nw + 1 - ol) z).2)])), (gB, .inl (cI, 5760, .inl f)), (gT, .inl (cI, 32, .inl t)), (gZ, .inl (cZ, 120, .inl ((rall f a ol (nw + 1 - ol) z).1)))] := hD
            have e9 : sp_cnR O f a tc ol nw z bd x = (nI (fp_R f a ol nw z), (rall f a ol (nw + 1 - ol) z).1, (rall f a ol (nw + 1 - ol) z).2) := by unfold sp_cnR; rw [ifp_f (b2i_0.mp c9), ifp_f c16_0, ifp_f c16_1, ifp_t c16_2]
            exact ct_iret hx hb hr hlocks (by rw [e9]) (by rw [e9]) hP hD hS dX4_count_66
          · skip
            by_cases c16_3 : x = 3
            · skip
              refine ct_top (y := 3) c16_3 ?_
              refine lv_tableIn (tgt := 67) hx hb dX4_count_16 (by decide) (by decide) rfl (by decide) ?_
              refine lv_aload_n hx hb dX4_count_67 rfl (lv_at hl 0 rfl) ?_
              refine ct_calli (w := [(hm, .inr (4, [.int 0, .int (nI a), .ref gB, .int (nI nw), .int (nI ol), .int (b2i O), .int lf, .int us, .int (nI tc), .ref gT, .ref gZ, .int bd])), (gB, .inl (cI, 5760, .inl f)), (gT, .inl (cI, 32, .inl t)), (gZ, .inl (cZ, 120, .inl z))]) (w' := [(hm, .inr (4, [.int 0, .int (nI a), .ref gB, .int (nI nw), .int (nI ol), .int (b2i O), .int lf, .int us, .int (nI tc), .ref gT, .ref gZ, .int bd])), (gB, .inl (cI, 5760, .inl f)), (gT, .inl (cI, 32, .inl t)), (gZ, .inl (cZ, 120, .inl z))]) (va_runV (As := []) (rest := []) ⟨hx, hb, hml, hown, hts⟩ (c_X4_keys l D cI cZ hm gB gT gZ a tc nw ol f t z O lf us bd  (by omega) (by omega) (by omega) (by omega) (by omega)  _) (cwV 0 hts gX4_count_X4_keys rfl rfl rfl (by decide +kernel) ⟨Nat.le_of_ble_eq_true rfl, Nat.le_of_ble_eq_true rfl⟩) (ct_preV (w := [(hm, .inr (4, [.int 0, .int (nI a), .ref gB, .int (nI nw), .int (nI ol), .int (b2i O), .int lf, .int us, .int (nI tc), .ref gT, .ref gZ, .int bd])), (gB, .inl (cI, 5760, .inl f)), (gT, .inl (cI, 32, .inl t)), (gZ, .inl (cZ, 120, .inl z))]) (ci := 4) (i0 := 0) hK hN hP hD [0, 1, 2, 3] (by decide) rfl rfl rfl) rfl rfl hl.1 rfl (lv_room (Nat.le_of_ble_eq_true rfl)) dX4_count_68 ⟨Nat.le_of_ble_eq_true rfl, Nat.le_of_ble_eq_true rfl⟩) hP hD hS hA [0, 1, 2, 3] rfl [hm, gB, gT, gZ] rfl rfl (fun H locs hP hD hS => ?_)
              have hP : va_P D vwCl [(hm, .inr (4, [.int 0, .int (nI a), .ref gB, .int (nI nw), .int (nI ol), .int (b2i O), .int lf, .int us, .int (nI tc), .ref gT, .ref gZ, .int bd])), (gB, .inl (cI, 5760, .inl f)), (gT, .inl (cI, 32, .inl t)), (gZ, .inl (cZ, 120, .inl z))] _ := hP
              have hD : va_D A [(hm, .inr (4, [.int 0, .int (nI a), .ref gB, .int (nI nw), .int (nI ol), .int (b2i O), .int lf, .int us, .int (nI tc), .ref gT, .ref gZ, .int bd])), (gB, .inl (cI, 5760, .inl f)), (gT, .inl (cI, 32, .inl t)), (gZ, .inl (cZ, 120, .inl z))] := hD
              have e9 : sp_cnR O f a tc ol nw z bd x = (nI (ks_R f a nw ol), z, bd) := by unfold sp_cnR; rw [ifp_f (b2i_0.mp c9), ifp_f c16_0, ifp_f c16_1, ifp_f c16_2, ifp_t c16_3]
              exact ct_iret hx hb hr hlocks (by rw [e9]) (by rw [e9]) hP hD hS dX4_count_71
            · skip
              by_cases c16_4 : x = 4
              · skip
                refine ct_top (y := 4) c16_4 ?_
                refine lv_tableIn (tgt := 72) hx hb dX4_count_16 (by decide) (by decide) rfl (by decide) ?_
                refine lv_aload_n hx hb dX4_count_72 rfl (lv_at hl 0 rfl) ?_
                refine va_get (D := D) (cl := vwCl) (ci := 4) (v := .int (nI tc)) (C := RX4) (T := TX4) (N := 12) hx hb hts hiX4 hown hK hP 0 rfl rfl 8 (by decide) hk4 (fun _ h9 => h9) rfl dX4_count_73 ?_
                have e9 : sp_cnR O f a tc ol nw z bd x = (nI tc, z, bd) := by unfold sp_cnR; rw [ifp_f (b2i_0.mp c9), ifp_f c16_0, ifp_f c16_1, ifp_f c16_2, ifp_f c16_3, ifp_t c16_4]
                exact ct_iret hx hb hr hlocks (by rw [e9]) (by rw [e9]) hP hD hS dX4_count_76
              · skip
                exact absurd (sw_all c16o c16_0 c16_1 c16_2 c16_3 c16_4) id
  · skip
    refine lv_bipush (v := (-5)) hx hb dX4_count_12 (by decide) ?_
    have e9 : sp_cnR O f a tc ol nw z bd x = ((-5), z, bd) := by unfold sp_cnR; rw [ifp_t (b2i_n0 c9)]
    exact ct_iret hx hb hr hlocks (by rw [e9]) (by rw [e9]) hP hD hS dX4_count_14
set_option maxHeartbeats 4000000 in
set_option maxRecDepth 100000 in
theorem c_X4_written (l : Launch) (D : va_G) (cI cZ : ClassId) (hm gB gT gZ a tc nw ol : Nat) (f t z : Nat → Int32) (O : Prop) (lf us bd : Int32) (ha : a ≤ 120) (h12 : 12 ≤ a) (htc : tc ≤ 32) (hnw : nw ≤ 1000000) (hol : ol ≤ nw + 1) : CtI l yX4_written wsX4_written ({ frames := 0, cells := 0, slots := 0, locals := 0 }) D vwCl (ct_T cI cZ) [.ref hm] [(hm, .inr (4, [.int 0, .int (nI a), .ref gB, .int (nI nw), .int (nI ol), .int (b2i O), .int lf, .int us, .int (nI tc), .ref gT, .ref gZ, .int bd])), (gB, .inl (cI, 5760, .inl f)), (gT, .inl (cI, 32, .inl t)), (gZ, .inl (cZ, 120, .inl z))] [(hm, .inr (4, [.int 0, .int (nI a), .ref gB, .int (nI nw), .int (nI ol), .int (b2i O), .int lf, .int us, .int (nI tc), .ref gT, .ref gZ, .int bd])), (gB, .inl (cI, 5760, .inl f)), (gT, .inl (cI, 32, .inl t)), (gZ, .inl (cZ, 120, .inl z))] us := by
  refine ct_of (Qf := ct_Qi D vwCl [(hm, .inr (4, [.int 0, .int (nI a), .ref gB, .int (nI nw), .int (nI ol), .int (b2i O), .int lf, .int us, .int (nI tc), .ref gT, .ref gZ, .int bd])), (gB, .inl (cI, 5760, .inl f)), (gT, .inl (cI, 32, .inl t)), (gZ, .inl (cZ, 120, .inl z))] us) (cc := cX4_written) (maxL := 1) (ret := (some .int)) [(0, .ref hm)] (by decide) rfl (Nat.le_of_ble_eq_true rfl) rfl ?_
  intro p e s m below meth c hx hb hr hts hown hlocks hml hnm A hA hK hN hP hD hS ls hl
  have hown : s.vm.findClass RX4 = some m.cls := hown
  have hk0 := hts (.fieldLink RX4 30 "DesignPagesModel" "code" "I") (by decide +kernel)
  have hk1 := hts (.fieldLink RX4 77 "DesignPagesModel" "written" "I") (by decide +kernel)
  have hiX4 : ∀ w ∈ wsX40, w ∈ wsX4_written := by decide +kernel
  refine lv_aload_n hx hb dX4_written_0 rfl (lv_at hl 0 rfl) ?_
  refine lv_iconst (v := 0) hx hb dX4_written_1 (by decide) ?_
  refine va_put (D := D) (cl := vwCl) (ci := 4) (v := .int 0) (ty := .int) (C := RX4) (T := TX4) (N := 12) hx hb hts hiX4 tyX4 tyX4_ok nmX4 hown hK hP hD hS 0 rfl rfl 0 (by decide) hk0 (fun _ h9 => h9) rfl (by decide +kernel) rfl rfl (Nat.le_of_ble_eq_true rfl) dX4_written_2 (fun H locs hP hD hS => ?_)
  have hP : va_P D vwCl [(hm, .inr (4, [.int 0, .int (nI a), .ref gB, .int (nI nw), .int (nI ol), .int (b2i O), .int lf, .int us, .int (nI tc), .ref gT, .ref gZ, .int bd])), (gB, .inl (cI, 5760, .inl f)), (gT, .inl (cI, 32, .inl t)), (gZ, .inl (cZ, 120, .inl z))] _ := hP
  have hD : va_D A [(hm, .inr (4, [.int 0, .int (nI a), .ref gB, .int (nI nw), .int (nI ol), .int (b2i O), .int lf, .int us, .int (nI tc), .ref gT, .ref gZ, .int bd])), (gB, .inl (cI, 5760, .inl f)), (gT, .inl (cI, 32, .inl t)), (gZ, .inl (cZ, 120, .inl z))] := hD
  refine lv_aload_n hx hb dX4_written_5 rfl (lv_at hl 0 rfl) ?_
  refine va_get (D := D) (cl := vwCl) (ci := 4) (v := .int us) (C := RX4) (T := TX4) (N := 12) hx hb hts hiX4 hown hK hP 0 rfl rfl 7 (by decide) hk1 (fun _ h9 => h9) rfl dX4_written_6 ?_
  exact ct_iret hx hb hr hlocks (rfl) (rfl) hP hD hS dX4_written_9
set_option maxHeartbeats 4000000 in
set_option maxRecDepth 100000 in
theorem c_X4_isDown (l : Launch) (D : va_G) (cI cZ : ClassId) (hm gB gT gZ a tc nw ol : Nat) (f t z : Nat → Int32) (O : Prop) (lf us bd : Int32) (ha : a ≤ 120) (h12 : 12 ≤ a) (htc : tc ≤ 32) (hnw : nw ≤ 1000000) (hol : ol ≤ nw + 1) : CtI l yX4_isDown wsX4_isDown ({ frames := 0, cells := 0, slots := 0, locals := 0 }) D vwCl (ct_T cI cZ) [.ref hm] [(hm, .inr (4, [.int 0, .int (nI a), .ref gB, .int (nI nw), .int (nI ol), .int (b2i O), .int lf, .int us, .int (nI tc), .ref gT, .ref gZ, .int bd])), (gB, .inl (cI, 5760, .inl f)), (gT, .inl (cI, 32, .inl t)), (gZ, .inl (cZ, 120, .inl z))] [(hm, .inr (4, [.int 0, .int (nI a), .ref gB, .int (nI nw), .int (nI ol), .int (b2i O), .int lf, .int us, .int (nI tc), .ref gT, .ref gZ, .int bd])), (gB, .inl (cI, 5760, .inl f)), (gT, .inl (cI, 32, .inl t)), (gZ, .inl (cZ, 120, .inl z))] (b2i O) := by
  refine ct_of (Qf := ct_Qi D vwCl [(hm, .inr (4, [.int 0, .int (nI a), .ref gB, .int (nI nw), .int (nI ol), .int (b2i O), .int lf, .int us, .int (nI tc), .ref gT, .ref gZ, .int bd])), (gB, .inl (cI, 5760, .inl f)), (gT, .inl (cI, 32, .inl t)), (gZ, .inl (cZ, 120, .inl z))] (b2i O)) (cc := cX4_isDown) (maxL := 1) (ret := (some .boolean)) [(0, .ref hm)] (by decide) rfl (Nat.le_of_ble_eq_true rfl) rfl ?_
  intro p e s m below meth c hx hb hr hts hown hlocks hml hnm A hA hK hN hP hD hS ls hl
  have hown : s.vm.findClass RX4 = some m.cls := hown
  have hk0 := hts (.fieldLink RX4 30 "DesignPagesModel" "code" "I") (by decide +kernel)
  have hk1 := hts (.fieldLink RX4 83 "DesignPagesModel" "down" "Z") (by decide +kernel)
  have hiX4 : ∀ w ∈ wsX40, w ∈ wsX4_isDown := by decide +kernel
  refine lv_aload_n hx hb dX4_isDown_0 rfl (lv_at hl 0 rfl) ?_
  refine lv_iconst (v := 0) hx hb dX4_isDown_1 (by decide) ?_
  refine va_put (D := D) (cl := vwCl) (ci := 4) (v := .int 0) (ty := .int) (C := RX4) (T := TX4) (N := 12) hx hb hts hiX4 tyX4 tyX4_ok nmX4 hown hK hP hD hS 0 rfl rfl 0 (by decide) hk0 (fun _ h9 => h9) rfl (by decide +kernel) rfl rfl (Nat.le_of_ble_eq_true rfl) dX4_isDown_2 (fun H locs hP hD hS => ?_)
  have hP : va_P D vwCl [(hm, .inr (4, [.int 0, .int (nI a), .ref gB, .int (nI nw), .int (nI ol), .int (b2i O), .int lf, .int us, .int (nI tc), .ref gT, .ref gZ, .int bd])), (gB, .inl (cI, 5760, .inl f)), (gT, .inl (cI, 32, .inl t)), (gZ, .inl (cZ, 120, .inl z))] _ := hP
  have hD : va_D A [(hm, .inr (4, [.int 0, .int (nI a), .ref gB, .int (nI nw), .int (nI ol), .int (b2i O), .int lf, .int us, .int (nI tc), .ref gT, .ref gZ, .int bd])), (gB, .inl (cI, 5760, .inl f)), (gT, .inl (cI, 32, .inl t)), (gZ, .inl (cZ, 120, .inl z))] := hD
  refine lv_aload_n hx hb dX4_isDown_5 rfl (lv_at hl 0 rfl) ?_
  refine va_get (D := D) (cl := vwCl) (ci := 4) (v := .int (b2i O)) (C := RX4) (T := TX4) (N := 12) hx hb hts hiX4 hown hK hP 0 rfl rfl 5 (by decide) hk1 (fun _ h9 => h9) rfl dX4_isDown_6 ?_
  exact ct_zret hx hb hr hlocks (b2i_nar _) (rfl) (rfl) hP hD hS dX4_isDown_9
