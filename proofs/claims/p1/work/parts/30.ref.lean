set_option maxHeartbeats 4000000 in
set_option maxRecDepth 100000 in
theorem c_X4_at (l : Launch) (D : va_G) (cI cZ : ClassId) (hm gB gT gZ a tc nw ol : Nat) (f t z : Nat → Int32) (O : Prop) (lf us bd : Int32) (q i : Nat) (ha : a ≤ 120) (h12 : 12 ≤ a) (htc : tc ≤ 32) (hnw : nw ≤ 1000000) (hol : ol ≤ nw + 1) (h1 : q < a) (h2 : i < 48) : CtI l yX4_at wsX4_at ({ frames := 0, cells := 0, slots := 0, locals := 0 }) D vwCl (ct_T cI cZ) [.ref hm, .int (nI q), .int (nI i)] [(hm, .inr (4, [.int 0, .int (nI a), .ref gB, .int (nI nw), .int (nI ol), .int (b2i O), .int lf, .int us, .int (nI tc), .ref gT, .ref gZ, .int bd])), (gB, .inl (cI, 5760, .inl f)), (gT, .inl (cI, 32, .inl t)), (gZ, .inl (cZ, 120, .inl z))] [(hm, .inr (4, [.int 0, .int (nI a), .ref gB, .int (nI nw), .int (nI ol), .int (b2i O), .int lf, .int us, .int (nI tc), .ref gT, .ref gZ, .int bd])), (gB, .inl (cI, 5760, .inl f)), (gT, .inl (cI, 32, .inl t)), (gZ, .inl (cZ, 120, .inl z))] (f (q * 48 + i)) := by
  refine ct_of (Qf := ct_Qi D vwCl [(hm, .inr (4, [.int 0, .int (nI a), .ref gB, .int (nI nw), .int (nI ol), .int (b2i O), .int lf, .int us, .int (nI tc), .ref gT, .ref gZ, .int bd])), (gB, .inl (cI, 5760, .inl f)), (gT, .inl (cI, 32, .inl t)), (gZ, .inl (cZ, 120, .inl z))] (f (q * 48 + i))) (cc := cX4_at) (maxL := 3) (ret := (some .int)) [(0, .ref hm), (1, .int (nI q)), (2, .int (nI i))] (by decide) rfl (Nat.le_of_ble_eq_true rfl) rfl ?_
  intro p e s m below meth c hx hb hr hts hown hlocks hml hnm A hA hK hN hP hD hS ls hl
  have hown : s.vm.findClass RX4 = some m.cls := hown
  have hk0 := hts (.fieldLink RX4 7 "DesignPagesModel" "bytes" "[I") (by decide +kernel)
  have hiX4 : ∀ w ∈ wsX40, w ∈ wsX4_at := by decide +kernel
  refine lv_aload_n hx hb dX4_at_0 rfl (lv_at hl 0 rfl) ?_
  refine va_get (D := D) (cl := vwCl) (ci := 4) (v := .ref gB) (C := RX4) (T := TX4) (N := 12) hx hb hts hiX4 hown hK hP 0 rfl rfl 2 (by decide) hk0 (fun _ h9 => h9) rfl dX4_at_1 ?_
  refine lv_bipush (v := 48) hx hb dX4_at_4 (by decide) ?_
  refine lv_iload_n hx hb dX4_at_6 rfl (lv_at hl 1 rfl) ?_
  refine lv_imul hx hb dX4_at_7 ?_
  refine ct_top (y := nI (48 * q)) (pk_mul 48 q) ?_
  refine lv_iload_n hx hb dX4_at_8 rfl (lv_at hl 2 rfl) ?_
  refine lv_iadd hx hb dX4_at_9 ?_
  refine ct_top (y := nI ((48 * q) + i)) (nI_add (48 * q) i) ?_
  refine ct_iald hx hb hK hP 1 0 (k := ((48 * q) + i)) rfl rfl (by omega) (by omega) dX4_at_10 ?_
  exact ct_iret hx hb hr hlocks (by rw [Nat.mul_comm]) (rfl) hP hD hS dX4_at_11
set_option maxHeartbeats 4000000 in
set_option maxRecDepth 100000 in
theorem c_X4_number (l : Launch) (D : va_G) (cI cZ : ClassId) (hm gB gT gZ a tc nw ol : Nat) (f t z : Nat → Int32) (O : Prop) (lf us bd : Int32) (q i : Nat) (ha : a ≤ 120) (h12 : 12 ≤ a) (htc : tc ≤ 32) (hnw : nw ≤ 1000000) (hol : ol ≤ nw + 1) (h1 : q < a) (h2 : i + 3 < 48) : CtI l yX4_number wsX4_number ({ frames := 1, cells := 0, slots := 0, locals := 22 }) D vwCl (ct_T cI cZ) [.ref hm, .int (nI q), .int (nI i)] [(hm, .inr (4, [.int 0, .int (nI a), .ref gB, .int (nI nw), .int (nI ol), .int (b2i O), .int lf, .int us, .int (nI tc), .ref gT, .ref gZ, .int bd])), (gB, .inl (cI, 5760, .inl f)), (gT, .inl (cI, 32, .inl t)), (gZ, .inl (cZ, 120, .inl z))] [(hm, .inr (4, [.int 0, .int (nI a), .ref gB, .int (nI nw), .int (nI ol), .int (b2i O), .int lf, .int us, .int (nI tc), .ref gT, .ref gZ, .int bd])), (gB, .inl (cI, 5760, .inl f)), (gT, .inl (cI, 32, .inl t)), (gZ, .inl (cZ, 120, .inl z))] (pg_num f (q * 48 + i)) := by
  refine ct_of (Qf := ct_Qi D vwCl [(hm, .inr (4, [.int 0, .int (nI a), .ref gB, .int (nI nw), .int (nI ol), .int (b2i O), .int lf, .int us, .int (nI tc), .ref gT, .ref gZ, .int bd])), (gB, .inl (cI, 5760, .inl f)), (gT, .inl (cI, 32, .inl t)), (gZ, .inl (cZ, 120, .inl z))] (pg_num f (q * 48 + i))) (cc := cX4_number) (maxL := 3) (ret := (some .int)) [(0, .ref hm), (1, .int (nI q)), (2, .int (nI i))] (by decide) rfl (Nat.le_of_ble_eq_true rfl) rfl ?_
  intro p e s m below meth c hx hb hr hts hown hlocks hml hnm A hA hK hN hP hD hS ls hl
  have hown : s.vm.findClass RX4 = some m.cls := hown
  refine lv_aload_n hx hb dX4_number_0 rfl (lv_at hl 0 rfl) ?_
  refine lv_iload_n hx hb dX4_number_1 rfl (lv_at hl 1 rfl) ?_
  refine lv_iload_n hx hb dX4_number_2 rfl (lv_at hl 2 rfl) ?_
  refine ct_calli (w := [(hm, .inr (4, [.int 0, .int (nI a), .ref gB, .int (nI nw), .int (nI ol), .int (b2i O), .int lf, .int us, .int (nI tc), .ref gT, .ref gZ, .int bd])), (gB, .inl (cI, 5760, .inl f)), (gT, .inl (cI, 32, .inl t)), (gZ, .inl (cZ, 120, .inl z))]) (w' := [(hm, .inr (4, [.int 0, .int (nI a), .ref gB, .int (nI nw), .int (nI ol), .int (b2i O), .int lf, .int us, .int (nI tc), .ref gT, .ref gZ, .int bd])), (gB, .inl (cI, 5760, .inl f)), (gT, .inl (cI, 32, .inl t)), (gZ, .inl (cZ, 120, .inl z))]) (va_runV (As := [.int (nI q), .int (nI i)]) (rest := []) ⟨hx, hb, hml, hown, hts⟩ (c_X4_at l D cI cZ hm gB gT gZ a tc nw ol f t z O lf us bd q i (by omega) (by omega) (by omega) (by omega) (by omega) (by omega) (by omega) _) (cwV 2 hts gX4_number_X4_at rfl rfl rfl (by decide +kernel) ⟨Nat.le_of_ble_eq_true rfl, Nat.le_of_ble_eq_true rfl⟩) (ct_preV (w := [(hm, .inr (4, [.int 0, .int (nI a), .ref gB, .int (nI nw), .int (nI ol), .int (b2i O), .int lf, .int us, .int (nI tc), .ref gT, .ref gZ, .int bd])), (gB, .inl (cI, 5760, .inl f)), (gT, .inl (cI, 32, .inl t)), (gZ, .inl (cZ, 120, .inl z))]) (ci := 4) (i0 := 0) hK hN hP hD [0, 1, 2, 3] (by decide) rfl rfl rfl) rfl rfl hl.1 rfl (lv_room (Nat.le_of_ble_eq_true rfl)) dX4_number_3 ⟨Nat.le_of_ble_eq_true rfl, Nat.le_of_ble_eq_true rfl⟩) hP hD hS hA [0, 1, 2, 3] rfl [hm, gB, gT, gZ] rfl rfl (fun H locs hP hD hS => ?_)
  have hP : va_P D vwCl [(hm, .inr (4, [.int 0, .int (nI a), .ref gB, .int (nI nw), .int (nI ol), .int (b2i O), .int lf, .int us, .int (nI tc), .ref gT, .ref gZ, .int bd])), (gB, .inl (cI, 5760, .inl f)), (gT, .inl (cI, 32, .inl t)), (gZ, .inl (cZ, 120, .inl z))] _ := hP
  have hD : va_D A [(hm, .inr (4, [.int 0, .int (nI a), .ref gB, .int (nI nw), .int (nI ol), .int (b2i O), .int lf, .int us, .int (nI tc), .ref gT, .ref gZ, .int bd])), (gB, .inl (cI, 5760, .inl f)), (gT, .inl (cI, 32, .inl t)), (gZ, .inl (cZ, 120, .inl z))] := hD
  refine lv_bipush (v := 24) hx hb dX4_number_6 (by decide) ?_
  refine lv_ishl hx hb dX4_number_8 ?_
  refine lv_aload_n hx hb dX4_number_9 rfl (lv_at hl 0 rfl) ?_
  refine lv_iload_n hx hb dX4_number_10 rfl (lv_at hl 1 rfl) ?_
  refine lv_iload_n hx hb dX4_number_11 rfl (lv_at hl 2 rfl) ?_
  refine lv_iconst (v := 1) hx hb dX4_number_12 (by decide) ?_
  refine lv_iadd hx hb dX4_number_13 ?_
  refine ct_top (y := nI (i + 1)) (nI_add i 1) ?_
  refine ct_calli (w := [(hm, .inr (4, [.int 0, .int (nI a), .ref gB, .int (nI nw), .int (nI ol), .int (b2i O), .int lf, .int us, .int (nI tc), .ref gT, .ref gZ, .int bd])), (gB, .inl (cI, 5760, .inl f)), (gT, .inl (cI, 32, .inl t)), (gZ, .inl (cZ, 120, .inl z))]) (w' := [(hm, .inr (4, [.int 0, .int (nI a), .ref gB, .int (nI nw), .int (nI ol), .int (b2i O), .int lf, .int us, .int (nI tc), .ref gT, .ref gZ, .int bd])), (gB, .inl (cI, 5760, .inl f)), (gT, .inl (cI, 32, .inl t)), (gZ, .inl (cZ, 120, .inl z))]) (va_runV (As := [.int (nI q), .int (nI (i + 1))]) (rest := [.int ((f (q * 48 + i)) <<< (24 &&& 31))]) ⟨hx, hb, hml, hown, hts⟩ (c_X4_at l D cI cZ hm gB gT gZ a tc nw ol f t z O lf us bd q (i + 1) (by omega) (by omega) (by omega) (by omega) (by omega) (by omega) (by omega) _) (cwV 2 hts gX4_number_X4_at rfl rfl rfl (by decide +kernel) ⟨Nat.le_of_ble_eq_true rfl, Nat.le_of_ble_eq_true rfl⟩) (ct_preV (w := [(hm, .inr (4, [.int 0, .int (nI a), .ref gB, .int (nI nw), .int (nI ol), .int (b2i O), .int lf, .int us, .int (nI tc), .ref gT, .ref gZ, .int bd])), (gB, .inl (cI, 5760, .inl f)), (gT, .inl (cI, 32, .inl t)), (gZ, .inl (cZ, 120, .inl z))]) (ci := 4) (i0 := 0) hK hN hP hD [0, 1, 2, 3] (by decide) rfl rfl rfl) rfl rfl hl.1 rfl (lv_room (Nat.le_of_ble_eq_true rfl)) dX4_number_14 ⟨Nat.le_of_ble_eq_true rfl, Nat.le_of_ble_eq_true rfl⟩) hP hD hS hA [0, 1, 2, 3] rfl [hm, gB, gT, gZ] rfl rfl (fun H locs hP hD hS => ?_)
  have hP : va_P D vwCl [(hm, .inr (4, [.int 0, .int (nI a), .ref gB, .int (nI nw), .int (nI ol), .int (b2i O), .int lf, .int us, .int (nI tc), .ref gT, .ref gZ, .int bd])), (gB, .inl (cI, 5760, .inl f)), (gT, .inl (cI, 32, .inl t)), (gZ, .inl (cZ, 120, .inl z))] _ := hP
  have hD : va_D A [(hm, .inr (4, [.int 0, .int (nI a), .ref gB, .int (nI nw), .int (nI ol), .int (b2i O), .int lf, .int us, .int (nI tc), .ref gT, .ref gZ, .int bd])), (gB, .inl (cI, 5760, .inl f)), (gT, .inl (cI, 32, .inl t)), (gZ, .inl (cZ, 120, .inl z))] := hD
  refine lv_bipush (v := 16) hx hb dX4_number_17 (by decide) ?_
  refine lv_ishl hx hb dX4_number_19 ?_
  refine lv_ior hx hb dX4_number_20 ?_
  refine lv_aload_n hx hb dX4_number_21 rfl (lv_at hl 0 rfl) ?_
  refine lv_iload_n hx hb dX4_number_22 rfl (lv_at hl 1 rfl) ?_
  refine lv_iload_n hx hb dX4_number_23 rfl (lv_at hl 2 rfl) ?_
  refine lv_iconst (v := 2) hx hb dX4_number_24 (by decide) ?_
  refine lv_iadd hx hb dX4_number_25 ?_
  refine ct_top (y := nI (i + 2)) (nI_add i 2) ?_
  refine ct_calli (w := [(hm, .inr (4, [.int 0, .int (nI a), .ref gB, .int (nI nw), .int (nI ol), .int (b2i O), .int lf, .int us, .int (nI tc), .ref gT, .ref gZ, .int bd])), (gB, .inl (cI, 5760, .inl f)), (gT, .inl (cI, 32, .inl t)), (gZ, .inl (cZ, 120, .inl z))]) (w' := [(hm, .inr (4, [.int 0, .int (nI a), .ref gB, .int (nI nw), .int (nI ol), .int (b2i O), .int lf, .int us, .int (nI tc), .ref gT, .ref gZ, .int bd])), (gB, .inl (cI, 5760, .inl f)), (gT, .inl (cI, 32, .inl t)), (gZ, .inl (cZ, 120, .inl z))]) (va_runV (As := [.int (nI q), .int (nI (i + 2))]) (rest := [.int (((f (q * 48 + i)) <<< (24 &&& 31)) ||| ((f (q * 48 + (i + 1))) <<< (16 &&& 31)))]) ⟨hx, hb, hml, hown, hts⟩ (c_X4_at l D cI cZ hm gB gT gZ a tc nw ol f t z O lf us bd q (i + 2) (by omega) (by omega) (by omega) (by omega) (by omega) (by omega) (by omega) _) (cwV 2 hts gX4_number_X4_at rfl rfl rfl (by decide +kernel) ⟨Nat.le_of_ble_eq_true rfl, Nat.le_of_ble_eq_true rfl⟩) (ct_preV (w := [(hm, .inr (4, [.int 0, .int (nI a), .ref gB, .int (nI nw), .int (nI ol), .int (b2i O), .int lf, .int us, .int (nI tc), .ref gT, .ref gZ, .int bd])), (gB, .inl (cI, 5760, .inl f)), (gT, .inl (cI, 32, .inl t)), (gZ, .inl (cZ, 120, .inl z))]) (ci := 4) (i0 := 0) hK hN hP hD [0, 1, 2, 3] (by decide) rfl rfl rfl) rfl rfl hl.1 rfl (lv_room (Nat.le_of_ble_eq_true rfl)) dX4_number_26 ⟨Nat.le_of_ble_eq_true rfl, Nat.le_of_ble_eq_true rfl⟩) hP hD hS hA [0, 1, 2, 3] rfl [hm, gB, gT, gZ] rfl rfl (fun H locs hP hD hS => ?_)
  have hP : va_P D vwCl [(hm, .inr (4, [.int 0, .int (nI a), .ref gB, .int (nI nw), .int (nI ol), .int (b2i O), .int lf, .int us, .int (nI tc), .ref gT, .ref gZ, .int bd])), (gB, .inl (cI, 5760, .inl f)), (gT, .inl (cI, 32, .inl t)), (gZ, .inl (cZ, 120, .inl z))] _ := hP
  have hD : va_D A [(hm, .inr (4, [.int 0, .int (nI a), .ref gB, .int (nI nw), .int (nI ol), .int (b2i O), .int lf, .int us, .int (nI tc), .ref gT, .ref gZ, .int bd])), (gB, .inl (cI, 5760, .inl f)), (gT, .inl (cI, 32, .inl t)), (gZ, .inl (cZ, 120, .inl z))] := hD
  refine lv_bipush (v := 8) hx hb dX4_number_29 (by decide) ?_
  refine lv_ishl hx hb dX4_number_31 ?_
  refine lv_ior hx hb dX4_number_32 ?_
  refine lv_aload_n hx hb dX4_number_33 rfl (lv_at hl 0 rfl) ?_
  refine lv_iload_n hx hb dX4_number_34 rfl (lv_at hl 1 rfl) ?_
  refine lv_iload_n hx hb dX4_number_35 rfl (lv_at hl 2 rfl) ?_
  refine lv_iconst (v := 3) hx hb dX4_number_36 (by decide) ?_
  refine lv_iadd hx hb dX4_number_37 ?_
  refine ct_top (y := nI (i + 3)) (nI_add i 3) ?_
  refine ct_calli (w := [(hm, .inr (4, [.int 0, .int (nI a), .ref gB, .int (nI nw), .int (nI ol), .int (b2i O), .int lf, .int us, .int (nI tc), .ref gT, .ref gZ, .int bd])), (gB, .inl (cI, 5760, .inl f)), (gT, .inl (cI, 32, .inl t)), (gZ, .inl (cZ, 120, .inl z))]) (w' := [(hm, .inr (4, [.int 0, .int (nI a), .ref gB, .int (nI nw), .int (nI ol), .int (b2i O), .int lf, .int us, .int (nI tc), .ref gT, .ref gZ, .int bd])), (gB, .inl (cI, 5760, .inl f)), (gT, .inl (cI, 32, .inl t)), (gZ, .inl (cZ, 120, .inl z))]) (va_runV (As := [.int (nI q), .int (nI (i + 3))]) (rest := [.int ((((f (q * 48 + i)) <<< (24 &&& 31)) ||| ((f (q * 48 + (i + 1))) <<< (16 &&& 31))) ||| ((f (q * 48 + (i + 2))) <<< (8 &&& 31)))]) ⟨hx, hb, hml, hown, hts⟩ (c_X4_at l D cI cZ hm gB gT gZ a tc nw ol f t z O lf us bd q (i + 3) (by omega) (by omega) (by omega) (by omega) (by omega) (by omega) (by omega) _) (cwV 2 hts gX4_number_X4_at rfl rfl rfl (by decide +kernel) ⟨Nat.le_of_ble_eq_true rfl, Nat.le_of_ble_eq_true rfl⟩) (ct_preV (w := [(hm, .inr (4, [.int 0, .int (nI a), .ref gB, .int (nI nw), .int (nI ol), .int (b2i O), .int lf, .int us, .int (nI tc), .ref gT, .ref gZ, .int bd])), (gB, .inl (cI, 5760, .inl f)), (gT, .inl (cI, 32, .inl t)), (gZ, .inl (cZ, 120, .inl z))]) (ci := 4) (i0 := 0) hK hN hP hD [0, 1, 2, 3] (by decide) rfl rfl rfl) rfl rfl hl.1 rfl (lv_room (Nat.le_of_ble_eq_true rfl)) dX4_number_38 ⟨Nat.le_of_ble_eq_true rfl, Nat.le_of_ble_eq_true rfl⟩) hP hD hS hA [0, 1, 2, 3] rfl [hm, gB, gT, gZ] rfl rfl (fun H locs hP hD hS => ?_)
  have hP : va_P D vwCl [(hm, .inr (4, [.int 0, .int (nI a), .ref gB, .int (nI nw), .int (nI ol), .int (b2i O), .int lf, .int us, .int (nI tc), .ref gT, .ref gZ, .int bd])), (gB, .inl (cI, 5760, .inl f)), (gT, .inl (cI, 32, .inl t)), (gZ, .inl (cZ, 120, .inl z))] _ := hP
  have hD : va_D A [(hm, .inr (4, [.int 0, .int (nI a), .ref gB, .int (nI nw), .int (nI ol), .int (b2i O), .int lf, .int us, .int (nI tc), .ref gT, .ref gZ, .int bd])), (gB, .inl (cI, 5760, .inl f)), (gT, .inl (cI, 32, .inl t)), (gZ, .inl (cZ, 120, .inl z))] := hD
  refine lv_ior hx hb dX4_number_41 ?_
  exact ct_iret hx hb hr hlocks (rfl) (rfl) hP hD hS dX4_number_42
set_option maxHeartbeats 4000000 in
set_option maxRecDepth 100000 in
theorem c_X4_lay (l : Launch) (D : va_G) (cI cZ : ClassId) (hm gB gT gZ a tc nw ol : Nat) (f t z : Nat → Int32) (O : Prop) (lf us bd : Int32) (q i : Nat) (x : Int32) (ha : a ≤ 120) (h12 : 12 ≤ a) (htc : tc ≤ 32) (hnw : nw ≤ 1000000) (hol : ol ≤ nw + 1) (h1 : q < a) (h2 : i < 48) : CtV l yX4_lay wsX4_lay ({ frames := 0, cells := 0, slots := 0, locals := 0 }) D vwCl (ct_T cI cZ) [.ref hm, .int (nI q), .int (nI i), .int x] [(hm, .inr (4, [.int 0, .int (nI a), .ref gB, .int (nI nw), .int (nI ol), .int (b2i O), .int lf, .int us, .int (nI tc), .ref gT, .ref gZ, .int bd])), (gB, .inl (cI, 5760, .inl f)), (gT, .inl (cI, 32, .inl t)), (gZ, .inl (cZ, 120, .inl z))] [(hm, .inr (4, [.int 0, .int (nI a), .ref gB, .int (nI nw), .int (nI ol), .int (b2i O), .int lf, .int us, .int (nI tc), .ref gT, .ref gZ, .int bd])), (gB, .inl (cI, 5760, .inl (upd f (q * 48 + i) (x &&& 255)))), (gT, .inl (cI, 32, .inl t)), (gZ, .inl (cZ, 120, .inl z))] := by
  refine ct_of (Qf := ct_Qv D vwCl [(hm, .inr (4, [.int 0, .int (nI a), .ref gB, .int (nI nw), .int (nI ol), .int (b2i O), .int lf, .int us, .int (nI tc), .ref gT, .ref gZ, .int bd])), (gB, .inl (cI, 5760, .inl (upd f (q * 48 + i) (x &&& 255)))), (gT, .inl (cI, 32, .inl t)), (gZ, .inl (cZ, 120, .inl z))]) (cc := cX4_lay) (maxL := 4) (ret := none) [(0, .ref hm), (1, .int (nI q)), (2, .int (nI i)), (3, .int x)] (by decide) rfl (Nat.le_of_ble_eq_true rfl) rfl ?_
  intro p e s m below meth c hx hb hr hts hown hlocks hml hnm A hA hK hN hP hD hS ls hl
  have hown : s.vm.findClass RX4 = some m.cls := hown
  have hk0 := hts (.fieldLink RX4 7 "DesignPagesModel" "bytes" "[I") (by decide +kernel)
  have hiX4 : ∀ w ∈ wsX40, w ∈ wsX4_lay := by decide +kernel
  refine lv_aload_n hx hb dX4_lay_0 rfl (lv_at hl 0 rfl) ?_
  refine va_get (D := D) (cl := vwCl) (ci := 4) (v := .ref gB) (C := RX4) (T := TX4) (N := 12) hx hb hts hiX4 hown hK hP 0 rfl rfl 2 (by decide) hk0 (fun _ h9 => h9) rfl dX4_lay_1 ?_
  refine lv_bipush (v := 48) hx hb dX4_lay_4 (by decide) ?_
  refine lv_iload_n hx hb dX4_lay_6 rfl (lv_at hl 1 rfl) ?_
  refine lv_imul hx hb dX4_lay_7 ?_
  refine ct_top (y := nI (48 * q)) (pk_mul 48 q) ?_
  refine lv_iload_n hx hb dX4_lay_8 rfl (lv_at hl 2 rfl) ?_
  refine lv_iadd hx hb dX4_lay_9 ?_
  refine ct_top (y := nI ((48 * q) + i)) (nI_add (48 * q) i) ?_
  refine lv_iload_n hx hb dX4_lay_10 rfl (lv_at hl 3 rfl) ?_
  refine lv_sipush (v := 255) hx hb dX4_lay_11 (by decide) ?_
  refine lv_iand hx hb dX4_lay_14 ?_
  refine ct_iast hx hb hK hP hD hS 1 0 (k := ((48 * q) + i)) (x := (x &&& 255)) rfl rfl (by omega) (by omega) dX4_lay_15 (fun H locs hP hD hS => ?_)
  have hP : va_P D vwCl [(hm, .inr (4, [.int 0, .int (nI a), .ref gB, .int (nI nw), .int (nI ol), .int (b2i O), .int lf, .int us, .int (nI tc), .ref gT, .ref gZ, .int bd])), (gB, .inl (cI, 5760, .inl (upd f ((48 * q) + i) (x &&& 255)))), (gT, .inl (cI, 32, .inl t)), (gZ, .inl (cZ, 120, .inl z))] _ := hP
  have hD : va_D A [(hm, .inr (4, [.int 0, .int (nI a), .ref gB, .int (nI nw), .int (nI ol), .int (b2i O), .int lf, .int us, .int (nI tc), .ref gT, .ref gZ, .int bd])), (gB, .inl (cI, 5760, .inl (upd f ((48 * q) + i) (x &&& 255)))), (gT, .inl (cI, 32, .inl t)), (gZ, .inl (cZ, 120, .inl z))] := hD
  exact ct_vret hx hb hr hlocks (by rw [Nat.mul_comm]) hP hD hS dX4_lay_16
set_option maxHeartbeats 4000000 in
set_option maxRecDepth 100000 in
theorem c_X4_putNumber (l : Launch) (D : va_G) (cI cZ : ClassId) (hm gB gT gZ a tc nw ol : Nat) (f t z : Nat → Int32) (O : Prop) (lf us bd : Int32) (q i : Nat) (x : Int32) (ha : a ≤ 120) (h12 : 12 ≤ a) (htc : tc ≤ 32) (hnw : nw ≤ 1000000) (hol : ol ≤ nw + 1) (h1 : q < a) (h2 : i + 3 < 48) : CtV l yX4_putNumber wsX4_putNumber ({ frames := 1, cells := 0, slots := 0, locals := 23 }) D vwCl (ct_T cI cZ) [.ref hm, .int (nI q), .int (nI i), .int x] [(hm, .inr (4, [.int 0, .int (nI a), .ref gB, .int (nI nw), .int (nI ol), .int (b2i O), .int lf, .int us, .int (nI tc), .ref gT, .ref gZ, .int bd])), (gB, .inl (cI, 5760, .inl f)), (gT, .inl (cI, 32, .inl t)), (gZ, .inl (cZ, 120, .inl z))] [(hm, .inr (4, [.int 0, .int (nI a), .ref gB, .int (nI nw), .int (nI ol), .int (b2i O), .int lf, .int us, .int (nI tc), .ref gT, .ref gZ, .int bd])), (gB, .inl (cI, 5760, .inl (pg_setn f (q * 48 + i) x))), (gT, .inl (cI, 32, .inl t)), (gZ, .inl (cZ, 120, .inl z))] := by
  refine ct_of (Qf := ct_Qv D vwCl [(hm, .inr (4, [.int 0, .int (nI a), .ref gB, .int (nI nw), .int (nI ol), .int (b2i O), .int lf, .int us, .int (nI tc), .ref gT, .ref gZ, .int bd])), (gB, .inl (cI, 5760, .inl (pg_setn f (q * 48 + i) x))), (gT, .inl (cI, 32, .inl t)), (gZ, .inl (cZ, 120, .inl z))]) (cc := cX4_putNumber) (maxL := 5) (ret := none) [(0, .ref hm), (1, .int (nI q)), (2, .int (nI i)), (3, .int x)] (by decide) rfl (Nat.le_of_ble_eq_true rfl) rfl ?_
  intro p e s m below meth c hx hb hr hts hown hlocks hml hnm A hA hK hN hP hD hS ls hl
  have hown : s.vm.findClass RX4 = some m.cls := hown
  refine lv_iconst (v := 0) hx hb dX4_putNumber_0 (by decide) ?_
  refine lv_istore (lv' := [(4, .int 0), (0, .ref hm), (1, .int (nI q)), (2, .int (nI i)), (3, .int x)]) hx hb dX4_putNumber_1 hl (by decide) rfl (fun ls hl => ?_)
  refine lv_iload hx hb dX4_putNumber_3 (lv_at hl 0 rfl) ?_
  refine lv_iconst (v := 4) hx hb dX4_putNumber_5 (by decide) ?_
  refine lv_icmp_ge (tgt := 34) hx hb dX4_putNumber_6 (by decide) (fun c9 => absurd c9 (by decide)) (fun _ => ?_)
  refine lv_aload_n hx hb dX4_putNumber_9 rfl (lv_at hl 1 rfl) ?_
  refine lv_iload_n hx hb dX4_putNumber_10 rfl (lv_at hl 2 rfl) ?_
  refine lv_iload_n hx hb dX4_putNumber_11 rfl (lv_at hl 3 rfl) ?_
  refine lv_iload hx hb dX4_putNumber_12 (lv_at hl 0 rfl) ?_
  refine lv_iadd hx hb dX4_putNumber_14 ?_
  refine ct_top (y := nI (i + 0)) (nI_add i 0) ?_
  refine lv_iload_n hx hb dX4_putNumber_15 rfl (lv_at hl 4 rfl) ?_
  refine lv_bipush (v := 24) hx hb dX4_putNumber_16 (by decide) ?_
  refine lv_bipush (v := 8) hx hb dX4_putNumber_18 (by decide) ?_
  refine lv_iload hx hb dX4_putNumber_20 (lv_at hl 0 rfl) ?_
  refine lv_imul hx hb dX4_putNumber_22 ?_
  refine ct_top (y := 0) (by decide) ?_
  refine lv_isub hx hb dX4_putNumber_23 ?_
  refine ct_top (y := 24) (by decide) ?_
  refine lv_ishr hx hb dX4_putNumber_24 ?_
  refine ct_callv (w := [(hm, .inr (4, [.int 0, .int (nI a), .ref gB, .int (nI nw), .int (nI ol), .int (b2i O), .int lf, .int us, .int (nI tc), .ref gT, .ref gZ, .int bd])), (gB, .inl (cI, 5760, .inl f)), (gT, .inl (cI, 32, .inl t)), (gZ, .inl (cZ, 120, .inl z))]) (w' := [(hm, .inr (4, [.int 0, .int (nI a), .ref gB, .int (nI nw), .int (nI ol), .int (b2i O), .int lf, .int us, .int (nI tc), .ref gT, .ref gZ, .int bd])), (gB, .inl (cI, 5760, .inl (upd f (q * 48 + (i + 0)) ((x >>> (24 &&& 31)) &&& 255)))), (gT, .inl (cI, 32, .inl t)), (gZ, .inl (cZ, 120, .inl z))]) (va_runV (As := [.int (nI q), .int (nI (i + 0)), .int (x >>> (24 &&& 31))]) (rest := []) ⟨hx, hb, hml, hown, hts⟩ (c_X4_lay l D cI cZ hm gB gT gZ a tc nw ol f t z O lf us bd q (i + 0) (x >>> (24 &&& 31)) (by omega) (by omega) (by omega) (by omega) (by omega) (by omega) (by omega) _) (cwV 3 hts gX4_putNumber_X4_lay rfl rfl rfl (by decide +kernel) ⟨Nat.le_of_ble_eq_true rfl, Nat.le_of_ble_eq_true rfl⟩) (ct_preV (w := [(hm, .inr (4, [.int 0, .int (nI a), .ref gB, .int (nI nw), .int (nI ol), .int (b2i O), .int lf, .int us, .int (nI tc), .ref gT, .ref gZ, .int bd])), (gB, .inl (cI, 5760, .inl f)), (gT, .inl (cI, 32, .inl t)), (gZ, .inl (cZ, 120, .inl z))]) (ci := 4) (i0 := 0) hK hN hP hD [0, 1, 2, 3] (by decide) rfl rfl rfl) rfl rfl hl.1 rfl (lv_room (Nat.le_of_ble_eq_true rfl)) dX4_putNumber_25 ⟨Nat.le_of_ble_eq_true rfl, Nat.le_of_ble_eq_true rfl⟩) hP hD hS hA [0, 1, 2, 3] rfl [hm, gB, gT, gZ] rfl rfl (fun H locs hP hD hS => ?_)
  have hP : va_P D vwCl [(hm, .inr (4, [.int 0, .int (nI a), .ref gB, .int (nI nw), .int (nI ol), .int (b2i O), .int lf, .int us, .int (nI tc), .ref gT, .ref gZ, .int bd])), (gB, .inl (cI, 5760, .inl (upd f (q * 48 + (i + 0)) ((x >>> (24 &&& 31)) &&& 255)))), (gT, .inl (cI, 32, .inl t)), (gZ, .inl (cZ, 120, .inl z))] _ := hP
  have hD : va_D A [(hm, .inr (4, [.int 0, .int (nI a), .ref gB, .int (nI nw), .int (nI ol), .int (b2i O), .int lf, .int us, .int (nI tc), .ref gT, .ref gZ, .int bd])), (gB, .inl (cI, 5760, .inl (upd f (q * 48 + (i + 0)) ((x >>> (24 &&& 31)) &&& 255)))), (gT, .inl (cI, 32, .inl t)), (gZ, .inl (cZ, 120, .inl z))] := hD
  refine lv_iinc (v := 1) (lv' := [(4, .int 1), (0, .ref hm), (1, .int (nI q)), (2, .int (nI i)), (3, .int x)]) hx hb dX4_putNumber_28 hl (k := 0) rfl (by decide) (by decide) rfl (fun ls hl => ?_)
  refine lv_goto (tgt := 3) hx hb dX4_putNumber_31 (by decide) ?_
  refine lv_iload hx hb dX4_putNumber_3 (lv_at hl 0 rfl) ?_
  refine lv_iconst (v := 4) hx hb dX4_putNumber_5 (by decide) ?_
  refine lv_icmp_ge (tgt := 34) hx hb dX4_putNumber_6 (by decide) (fun c9 => absurd c9 (by decide)) (fun _ => ?_)
  refine lv_aload_n hx hb dX4_putNumber_9 rfl (lv_at hl 1 rfl) ?_
  refine lv_iload_n hx hb dX4_putNumber_10 rfl (lv_at hl 2 rfl) ?_
  refine lv_iload_n hx hb dX4_putNumber_11 rfl (lv_at hl 3 rfl) ?_
  refine lv_iload hx hb dX4_putNumber_12 (lv_at hl 0 rfl) ?_
  refine lv_iadd hx hb dX4_putNumber_14 ?_
  refine ct_top (y := nI (i + 1)) (nI_add i 1) ?_
  refine lv_iload_n hx hb dX4_putNumber_15 rfl (lv_at hl 4 rfl) ?_
  refine lv_bipush (v := 24) hx hb dX4_putNumber_16 (by decide) ?_
  refine lv_bipush (v := 8) hx hb dX4_putNumber_18 (by decide) ?_
  refine lv_iload hx hb dX4_putNumber_20 (lv_at hl 0 rfl) ?_
  refine lv_imul hx hb dX4_putNumber_22 ?_
  refine ct_top (y := 8) (by decide) ?_
  refine lv_isub hx hb dX4_putNumber_23 ?_
  refine ct_top (y := 16) (by decide) ?_
  refine lv_ishr hx hb dX4_putNumber_24 ?_
  refine ct_callv (w := [(hm, .inr (4, [.int 0, .int (nI a), .ref gB, .int (nI nw), .int (nI ol), .int (b2i O), .int lf, .int us, .int (nI tc), .ref gT, .ref gZ, .int bd])), (gB, .inl (cI, 5760, .inl (upd f (q * 48 + (i + 0)) ((x >>> (24 &&& 31)) &&& 255)))), (gT, .inl (cI, 32, .inl t)), (gZ, .inl (cZ, 120, .inl z))]) (w' := [(hm, .inr (4, [.int 0, .int (nI a), .ref gB, .int (nI nw), .int (nI ol), .int (b2i O), .int lf, .int us, .int (nI tc), .ref gT, .ref gZ, .int bd])), (gB, .inl (cI, 5760, .inl (upd (upd f (q * 48 + (i + 0)) ((x >>> (24 &&& 31)) &&& 255)) (q * 48 + (i + 1)) ((x >>> (16 &&& 31)) &&& 255)))), (gT, .inl (cI, 32, .inl t)), (gZ, .inl (cZ, 120, .inl z))]) (va_runV (As := [.int (nI q), .int (nI (i + 1)), .int (x >>> (16 &&& 31))]) (rest := []) ⟨hx, hb, hml, hown, hts⟩ (c_X4_lay l D cI cZ hm gB gT gZ a tc nw ol (upd f (q * 48 + (i + 0)) ((x >>> (24 &&& 31)) &&& 255)) t z O lf us bd q (i + 1) (x >>> (16 &&& 31)) (by omega) (by omega) (by omega) (by omega) (by omega) (by omega) (by omega) _) (cwV 3 hts gX4_putNumber_X4_lay rfl rfl rfl (by decide +kernel) ⟨Nat.le_of_ble_eq_true rfl, Nat.le_of_ble_eq_true rfl⟩) (ct_preV (w := [(hm, .inr (4, [.int 0, .int (nI a), .ref gB, .int (nI nw), .int (nI ol), .int (b2i O), .int lf, .int us, .int (nI tc), .ref gT, .ref gZ, .int bd])), (gB, .inl (cI, 5760, .inl (upd f (q * 48 + (i + 0)) ((x >>> (24 &&& 31)) &&& 255)))), (gT, .inl (cI, 32, .inl t)), (gZ, .inl (cZ, 120, .inl z))]) (ci := 4) (i0 := 0) hK hN hP hD [0, 1, 2, 3] (by decide) rfl rfl rfl) rfl rfl hl.1 rfl (lv_room (Nat.le_of_ble_eq_true rfl)) dX4_putNumber_25 ⟨Nat.le_of_ble_eq_true rfl, Nat.le_of_ble_eq_true rfl⟩) hP hD hS hA [0, 1, 2, 3] rfl [hm, gB, gT, gZ] rfl rfl (fun H locs hP hD hS => ?_)
  have hP : va_P D vwCl [(hm, .inr (4, [.int 0, .int (nI a), .ref gB, .int (nI nw), .int (nI ol), .int (b2i O), .int lf, .int us, .int (nI tc), .ref gT, .ref gZ, .int bd])), (gB, .inl (cI, 5760, .inl (upd (upd f (q * 48 + (i + 0)) ((x >>> (24 &&& 31)) &&& 255)) (q * 48 + (i + 1)) ((x >>> (16 &&& 31)) &&& 255)))), (gT, .inl (cI, 32, .inl t)), (gZ, .inl (cZ, 120, .inl z))] _ := hP
  have hD : va_D A [(hm, .inr (4, [.int 0, .int (nI a), .ref gB, .int (nI nw), .int (nI ol), .int (b2i O), .int lf, .int us, .int (nI tc), .ref gT, .ref gZ, .int bd])), (gB, .inl (cI, 5760, .inl (upd (upd f (q * 48 + (i + 0)) ((x >>> (24 &&& 31)) &&& 255)) (q * 48 + (i + 1)) ((x >>> (16 &&& 31)) &&& 255)))), (gT, .inl (cI, 32, .inl t)), (gZ, .inl (cZ, 120, .inl z))] := hD
  refine lv_iinc (v := 2) (lv' := [(4, .int 2), (0, .ref hm), (1, .int (nI q)), (2, .int (nI i)), (3, .int x)]) hx hb dX4_putNumber_28 hl (k := 0) rfl (by decide) (by decide) rfl (fun ls hl => ?_)
  refine lv_goto (tgt := 3) hx hb dX4_putNumber_31 (by decide) ?_
  refine lv_iload hx hb dX4_putNumber_3 (lv_at hl 0 rfl) ?_
  refine lv_iconst (v := 4) hx hb dX4_putNumber_5 (by decide) ?_
  refine lv_icmp_ge (tgt := 34) hx hb dX4_putNumber_6 (by decide) (fun c9 => absurd c9 (by decide)) (fun _ => ?_)
  refine lv_aload_n hx hb dX4_putNumber_9 rfl (lv_at hl 1 rfl) ?_
  refine lv_iload_n hx hb dX4_putNumber_10 rfl (lv_at hl 2 rfl) ?_
  refine lv_iload_n hx hb dX4_putNumber_11 rfl (lv_at hl 3 rfl) ?_
  refine lv_iload hx hb dX4_putNumber_12 (lv_at hl 0 rfl) ?_
  refine lv_iadd hx hb dX4_putNumber_14 ?_
  refine ct_top (y := nI (i + 2)) (nI_add i 2) ?_
  refine lv_iload_n hx hb dX4_putNumber_15 rfl (lv_at hl 4 rfl) ?_
  refine lv_bipush (v := 24) hx hb dX4_putNumber_16 (by decide) ?_
  refine lv_bipush (v := 8) hx hb dX4_putNumber_18 (by decide) ?_
  refine lv_iload hx hb dX4_putNumber_20 (lv_at hl 0 rfl) ?_
  refine lv_imul hx hb dX4_putNumber_22 ?_
  refine ct_top (y := 16) (by decide) ?_
  refine lv_isub hx hb dX4_putNumber_23 ?_
  refine ct_top (y := 8) (by decide) ?_
  refine lv_ishr hx hb dX4_putNumber_24 ?_
  refine ct_callv (w := [(hm, .inr (4, [.int 0, .int (nI a), .ref gB, .int (nI nw), .int (nI ol), .int (b2i O), .int lf, .int us, .int (nI tc), .ref gT, .ref gZ, .int bd])), (gB, .inl (cI, 5760, .inl (upd (upd f (q * 48 + (i + 0)) ((x >>> (24 &&& 31)) &&& 255)) (q * 48 + (i + 1)) ((x >>> (16 &&& 31)) &&& 255)))), (gT, .inl (cI, 32, .inl t)), (gZ, .inl (cZ, 120, .inl z))]) (w' := [(hm, .inr (4, [.int 0, .int (nI a), .ref gB, .int (nI nw), .int (nI ol), .int (b2i O), .int lf, .int us, .int (nI tc), .ref gT, .ref gZ, .int bd])), (gB, .inl (cI, 5760, .inl (upd (upd (upd f (q * 48 + (i + 0)) ((x >>> (24 &&& 31)) &&& 255)) (q * 48 + (i + 1)) ((x >>> (16 &&& 31)) &&& 255)) (q * 48 + (i + 2)) ((x >>> (8 &&& 31)) &&& 255)))), (gT, .inl (cI, 32, .inl t)), (gZ, .inl (cZ, 120, .inl z))]) (va_runV (As := [.int (nI q), .int (nI (i + 2)), .int (x >>> (8 &&& 31))]) (rest := []) ⟨hx, hb, hml, hown, hts⟩ (c_X4_lay l D cI cZ hm gB gT gZ a tc nw ol (upd (upd f (q * 48 + (i + 0)) ((x >>> (24 &&& 31)) &&& 255)) (q * 48 + (i + 1)) ((x >>> (16 &&& 31)) &&& 255)) t z O lf us bd q (i + 2) (x >>> (8 &&& 31)) (by omega) (by omega) (by omega) (by omega) (by omega) (by omega) (by omega) _) (cwV 3 hts gX4_putNumber_X4_lay rfl rfl rfl (by decide +kernel) ⟨Nat.le_of_ble_eq_true rfl, Nat.le_of_ble_eq_true rfl⟩) (ct_preV (w := [(hm, .inr (4, [.int 0, .int (nI a), .ref gB, .int (nI nw), .int (nI ol), .int (b2i O), .int lf, .int us, .int (nI tc), .ref gT, .ref gZ, .int bd])), (gB, .inl (cI, 5760, .inl (upd (upd f (q * 48 + (i + 0)) ((x >>> (24 &&& 31)) &&& 255)) (q * 48 + (i + 1)) ((x >>> (16 &&& 31)) &&& 255)))), (gT, .inl (cI, 32, .inl t)), (gZ, .inl (cZ, 120, .inl z))]) (ci := 4) (i0 := 0) hK hN hP hD [0, 1, 2, 3] (by decide) rfl rfl rfl) rfl rfl hl.1 rfl (lv_room (Nat.le_of_ble_eq_true rfl)) dX4_putNumber_25 ⟨Nat.le_of_ble_eq_true rfl, Nat.le_of_ble_eq_true rfl⟩) hP hD hS hA [0, 1, 2, 3] rfl [hm, gB, gT, gZ] rfl rfl (fun H locs hP hD hS => ?_)
  have hP : va_P D vwCl [(hm, .inr (4, [.int 0, .int (nI a), .ref gB, .int (nI nw), .int (nI ol), .int (b2i O), .int lf, .int us, .int (nI tc), .ref gT, .ref gZ, .int bd])), (gB, .inl (cI, 5760, .inl (upd (upd (upd f (q * 48 + (i + 0)) ((x >>> (24 &&& 31)) &&& 255)) (q * 48 + (i + 1)) ((x >>> (16 &&& 31)) &&& 255)) (q * 48 + (i + 2)) ((x >>> (8 &&& 31)) &&& 255)))), (gT, .inl (cI, 32, .inl t)), (gZ, .inl (cZ, 120, .inl z))] _ := hP
  have hD : va_D A [(hm, .inr (4, [.int 0, .int (nI a), .ref gB, .int (nI nw), .int (nI ol), .int (b2i O), .int lf, .int us, .int (nI tc), .ref gT, .ref gZ, .int bd])), (gB, .inl (cI, 5760, .inl (upd (upd (upd f (q * 48 + (i + 0)) ((x >>> (24 &&& 31)) &&& 255)) (q * 48 + (i + 1)) ((x >>> (16 &&& 31)) &&& 255)) (q * 48 + (i + 2)) ((x >>> (8 &&& 31)) &&& 255)))), (gT, .inl (cI, 32, .inl t)), (gZ, .inl (cZ, 120, .inl z))] := hD
  refine lv_iinc (v := 3) (lv' := [(4, .int 3), (0, .ref hm), (1, .int (nI q)), (2, .int (nI i)), (3, .int x)]) hx hb dX4_putNumber_28 hl (k := 0) rfl (by decide) (by decide) rfl (fun ls hl => ?_)
  refine lv_goto (tgt := 3) hx hb dX4_putNumber_31 (by decide) ?_
  refine lv_iload hx hb dX4_putNumber_3 (lv_at hl 0 rfl) ?_
  refine lv_iconst (v := 4) hx hb dX4_putNumber_5 (by decide) ?_
  refine lv_icmp_ge (tgt := 34) hx hb dX4_putNumber_6 (by decide) (fun c9 => absurd c9 (by decide)) (fun _ => ?_)
  refine lv_aload_n hx hb dX4_putNumber_9 rfl (lv_at hl 1 rfl) ?_
  refine lv_iload_n hx hb dX4_putNumber_10 rfl (lv_at hl 2 rfl) ?_
  refine lv_iload_n hx hb dX4_putNumber_11 rfl (lv_at hl 3 rfl) ?_
  refine lv_iload hx hb dX4_putNumber_12 (lv_at hl 0 rfl) ?_
  refine lv_iadd hx hb dX4_putNumber_14 ?_
  refine ct_top (y := nI (i + 3)) (nI_add i 3) ?_
  refine lv_iload_n hx hb dX4_putNumber_15 rfl (lv_at hl 4 rfl) ?_
  refine lv_bipush (v := 24) hx hb dX4_putNumber_16 (by decide) ?_
  refine lv_bipush (v := 8) hx hb dX4_putNumber_18 (by decide) ?_
  refine lv_iload hx hb dX4_putNumber_20 (lv_at hl 0 rfl) ?_
  refine lv_imul hx hb dX4_putNumber_22 ?_
  refine ct_top (y := 24) (by decide) ?_
  refine lv_isub hx hb dX4_putNumber_23 ?_
  refine ct_top (y := 0) (by decide) ?_
  refine lv_ishr hx hb dX4_putNumber_24 ?_
  refine ct_callv (w := [(hm, .inr (4, [.int 0, .int (nI a), .ref gB, .int (nI nw), .int (nI ol), .int (b2i O), .int lf, .int us, .int (nI tc), .ref gT, .ref gZ, .int bd])), (gB, .inl (cI, 5760, .inl (upd (upd (upd f (q * 48 + (i + 0)) ((x >>> (24 &&& 31)) &&& 255)) (q * 48 + (i + 1)) ((x >>> (16 &&& 31)) &&& 255)) (q * 48 + (i + 2)) ((x >>> (8 &&& 31)) &&& 255)))), (gT, .inl (cI, 32, .inl t)), (gZ, .inl (cZ, 120, .inl z))]) (w' := [(hm, .inr (4, [.int 0, .int (nI a), .ref gB, .int (nI nw), .int (nI ol), .int (b2i O), .int lf, .int us, .int (nI tc), .ref gT, .ref gZ, .int bd])), (gB, .inl (cI, 5760, .inl (upd (upd (upd (upd f (q * 48 + (i + 0)) ((x >>> (24 &&& 31)) &&& 255)) (q * 48 + (i + 1)) ((x >>> (16 &&& 31)) &&& 255)) (q * 48 + (i + 2)) ((x >>> (8 &&& 31)) &&& 255)) (q * 48 + (i + 3)) ((x >>> (0 &&& 31)) &&& 255)))), (gT, .inl (cI, 32, .inl t)), (gZ, .inl (cZ, 120, .inl z))]) (va_runV (As := [.int (nI q), .int (nI (i + 3)), .int (x >>> (0 &&& 31))]) (rest := []) ⟨hx, hb, hml, hown, hts⟩ (c_X4_lay l D cI cZ hm gB gT gZ a tc nw ol (upd (upd (upd f (q * 48 + (i + 0)) ((x >>> (24 &&& 31)) &&& 255)) (q * 48 + (i + 1)) ((x >>> (16 &&& 31)) &&& 255)) (q * 48 + (i + 2)) ((x >>> (8 &&& 31)) &&& 255)) t z O lf us bd q (i + 3) (x >>> (0 &&& 31)) (by omega) (by omega) (by omega) (by omega) (by omega) (by omega) (by omega) _) (cwV 3 hts gX4_putNumber_X4_lay rfl rfl rfl (by decide +kernel) ⟨Nat.le_of_ble_eq_true rfl, Nat.le_of_ble_eq_true rfl⟩) (ct_preV (w := [(hm, .inr (4, [.int 0, .int (nI a), .ref gB, .int (nI nw), .int (nI ol), .int (b2i O), .int lf, .int us, .int (nI tc), .ref gT, .ref gZ, .int bd])), (gB, .inl (cI, 5760, .inl (upd (upd (upd f (q * 48 + (i + 0)) ((x >>> (24 &&& 31)) &&& 255)) (q * 48 + (i + 1)) ((x >>> (16 &&& 31)) &&& 255)) (q * 48 + (i + 2)) ((x >>> (8 &&& 31)) &&& 255)))), (gT, .inl (cI, 32, .inl t)), (gZ, .inl (cZ, 120, .inl z))]) (ci := 4) (i0 := 0) hK hN hP hD [0, 1, 2, 3] (by decide) rfl rfl rfl) rfl rfl hl.1 rfl (lv_room (Nat.le_of_ble_eq_true rfl)) dX4_putNumber_25 ⟨Nat.le_of_ble_eq_true rfl, Nat.le_of_ble_eq_true rfl⟩) hP hD hS hA [0, 1, 2, 3] rfl [hm, gB, gT, gZ] rfl rfl (fun H locs hP hD hS => ?_)
  have hP : va_P D vwCl [(hm, .inr (4, [.int 0, .int (nI a), .ref gB, .int (nI nw), .int (nI ol), .int (b2i O), .int lf, .int us, .int (nI tc), .ref gT, .ref gZ, .int bd])), (gB, .inl (cI, 5760, .inl (upd (upd (upd (upd f (q * 48 + (i + 0)) ((x >>> (24 &&& 31)) &&& 255)) (q * 48 + (i + 1)) ((x >>> (16 &&& 31)) &&& 255)) (q * 48 + (i + 2)) ((x >>> (8 &&& 31)) &&& 255)) (q * 48 + (i + 3)) ((x >>> (0 &&& 31)) &&& 255)))), (gT, .inl (cI, 32, .inl t)), (gZ, .inl (cZ, 120, .inl z))] _ := hP
  have hD : va_D A [(hm, .inr (4, [.int 0, .int (nI a), .ref gB, .int (nI nw), .int (nI ol), .int (b2i O), .int lf, .int us, .int (nI tc), .ref gT, .ref gZ, .int bd])), (gB, .inl (cI, 5760, .inl (upd (upd (upd (upd f (q * 48 + (i + 0)) ((x >>> (24 &&& 31)) &&& 255)) (q * 48 + (i + 1)) ((x >>> (16 &&& 31)) &&& 255)) (q * 48 + (i + 2)) ((x >>> (8 &&& 31)) &&& 255)) (q * 48 + (i + 3)) ((x >>> (0 &&& 31)) &&& 255)))), (gT, .inl (cI, 32, .inl t)), (gZ, .inl (cZ, 120, .inl z))] := hD
  refine lv_iinc (v := 4) (lv' := [(4, .int 4), (0, .ref hm), (1, .int (nI q)), (2, .int (nI i)), (3, .int x)]) hx hb dX4_putNumber_28 hl (k := 0) rfl (by decide) (by decide) rfl (fun ls hl => ?_)
  refine lv_goto (tgt := 3) hx hb dX4_putNumber_31 (by decide) ?_
  refine lv_iload hx hb dX4_putNumber_3 (lv_at hl 0 rfl) ?_
  refine lv_iconst (v := 4) hx hb dX4_putNumber_5 (by decide) ?_
  refine lv_icmp_ge (tgt := 34) hx hb dX4_putNumber_6 (by decide) (fun _ => ?_) (fun c9 => absurd c9 (by decide))
  exact ct_vret hx hb hr hlocks (by rw [putn_eq]) hP hD hS dX4_putNumber_34
set_option maxHeartbeats 4000000 in
set_option maxRecDepth 100000 in
theorem c_X4_sum (l : Launch) (D : va_G) (cI cZ : ClassId) (hm gB gT gZ a tc nw ol : Nat) (f t z : Nat → Int32) (O : Prop) (lf us bd : Int32) (q : Nat) (ha : a ≤ 120) (h12 : 12 ≤ a) (htc : tc ≤ 32) (hnw : nw ≤ 1000000) (hol : ol ≤ nw + 1) (h1 : q < a) : CtI l yX4_sum wsX4_sum ({ frames := 1, cells := 0, slots := 0, locals := 22 }) D vwCl (ct_T cI cZ) [.ref hm, .int (nI q)] [(hm, .inr (4, [.int 0, .int (nI a), .ref gB, .int (nI nw), .int (nI ol), .int (b2i O), .int lf, .int us, .int (nI tc), .ref gT, .ref gZ, .int bd])), (gB, .inl (cI, 5760, .inl f)), (gT, .inl (cI, 32, .inl t)), (gZ, .inl (cZ, 120, .inl z))] [(hm, .inr (4, [.int 0, .int (nI a), .ref gB, .int (nI nw), .int (nI ol), .int (b2i O), .int lf, .int us, .int (nI tc), .ref gT, .ref gZ, .int bd])), (gB, .inl (cI, 5760, .inl f)), (gT, .inl (cI, 32, .inl t)), (gZ, .inl (cZ, 120, .inl z))] (pg_sum f (q * 48) 44) := by
  refine ct_of (Qf := ct_Qi D vwCl [(hm, .inr (4, [.int 0, .int (nI a), .ref gB, .int (nI nw), .int (nI ol), .int (b2i O), .int lf, .int us, .int (nI tc), .ref gT, .ref gZ, .int bd])), (gB, .inl (cI, 5760, .inl f)), (gT, .inl (cI, 32, .inl t)), (gZ, .inl (cZ, 120, .inl z))] (pg_sum f (q * 48) 44)) (cc := cX4_sum) (maxL := 5) (ret := (some .int)) [(0, .ref hm), (1, .int (nI q))] (by decide) rfl (Nat.le_of_ble_eq_true rfl) rfl ?_
  intro p e s m below meth c hx hb hr hts hown hlocks hml hnm A hA hK hN hP hD hS ls hl
  have hown : s.vm.findClass RX4 = some m.cls := hown
  have hk0 := hts (.constant RX4 41 (668265263)) (by decide +kernel)
  refine lv_iconst (v := 0) hx hb dX4_sum_0 (by decide) ?_
  refine lv_istore_n (lv' := [(2, .int 0), (0, .ref hm), (1, .int (nI q))]) hx hb dX4_sum_1 rfl hl (by decide) rfl (fun ls hl => ?_)
  refine lv_iconst (v := 0) hx hb dX4_sum_2 (by decide) ?_
  refine lv_istore_n (lv' := [(3, .int 0), (2, .int 0), (0, .ref hm), (1, .int (nI q))]) hx hb dX4_sum_3 rfl hl (by decide) rfl (fun ls hl => ?_)
  have loop4 : ∀ (n4 : Nat) (i : Nat) (x : Int32), i ≤ 44 → x = pg_sum f (q * 48) i → 44 - i < n4 → ∀ (H : Heap) (locs : List Loc), va_P D vwCl [(hm, .inr (4, [.int 0, .int (nI a), .ref gB, .int (nI nw), .int (nI ol), .int (b2i O), .int lf, .int us, .int (nI tc), .ref gT, .ref gZ, .int bd])), (gB, .inl (cI, 5760, .inl f)), (gT, .inl (cI, 32, .inl t)), (gZ, .inl (cZ, 120, .inl z))] H → va_D A [(hm, .inr (4, [.int 0, .int (nI a), .ref gB, .int (nI nw), .int (nI ol), .int (b2i O), .int lf, .int us, .int (nI tc), .ref gT, .ref gZ, .int bd])), (gB, .inl (cI, 5760, .inl f)), (gT, .inl (cI, 32, .inl t)), (gZ, .inl (cZ, 120, .inl z))] → va_S A s.heap H locs → ∀ (ls : Array Slot), lv_has ls 5 [(3, .int (nI i)), (2, .int x), (0, .ref hm), (1, .int (nI q))] → W p l e ({ frames := 1, cells := 0, slots := 0, locals := 22 }) s m ([.ref hm, .int (nI q)] : List Value).toArray below meth c H locs 0 0 (MQ below (ct_Qi D vwCl [(hm, .inr (4, [.int 0, .int (nI a), .ref gB, .int (nI nw), .int (nI ol), .int (b2i O), .int lf, .int us, .int (nI tc), .ref gT, .ref gZ, .int bd])), (gB, .inl (cI, 5760, .inl f)), (gT, .inl (cI, 32, .inl t)), (gZ, .inl (cZ, 120, .inl z))] (pg_sum f (q * 48) 44) A) ([.ref hm, .int (nI q)] : List Value).toArray s 0 0 A) (F0 m 4 ls []) := by
    intro n4
    induction n4 with
    | zero =>
      intro i x _ _ hm
      exact absurd hm (Nat.not_lt_zero _)
    | succ n4 ih4 =>
      intro i x hi ex hm4 H locs hP hD hS ls hl
      refine lv_iload_n hx hb dX4_sum_4 rfl (lv_at hl 0 rfl) ?_
      refine lv_bipush (v := 44) hx hb dX4_sum_5 (by decide) ?_
      refine lv_icmp_ge (tgt := 41) hx hb dX4_sum_7 (by decide) (fun c7 => ?_) (fun c7 => ?_)
      · skip
        have c7 : 44 ≤ i := (nI_leI (a := 44) (b := i) (by omega) (by omega)).mp c7
        refine lv_iload_n hx hb dX4_sum_41 rfl (lv_at hl 1 rfl) ?_
        exact ct_iret hx hb hr hlocks (by have e1 : i = 44 := (by omega); subst e1; exact ex) (rfl) hP hD hS dX4_sum_42
      · skip
        have c7 : ¬ 44 ≤ i := fun h => c7 ((nI_leI (a := 44) (b := i) (by omega) (by omega)).mpr h)
        refine lv_iload_n hx hb dX4_sum_10 rfl (lv_at hl 1 rfl) ?_
        refine lv_aload_n hx hb dX4_sum_11 rfl (lv_at hl 2 rfl) ?_
        refine lv_iload_n hx hb dX4_sum_12 rfl (lv_at hl 3 rfl) ?_
        refine lv_iload_n hx hb dX4_sum_13 rfl (lv_at hl 0 rfl) ?_
        refine ct_calli (w := [(hm, .inr (4, [.int 0, .int (nI a), .ref gB, .int (nI nw), .int (nI ol), .int (b2i O), .int lf, .int us, .int (nI tc), .ref gT, .ref gZ, .int bd])), (gB, .inl (cI, 5760, .inl f)), (gT, .inl (cI, 32, .inl t)), (gZ, .inl (cZ, 120, .inl z))]) (w' := [(hm, .inr (4, [.int 0, .int (nI a), .ref gB, .int (nI nw), .int (nI ol), .int (b2i O), .int lf, .int us, .int (nI tc), .ref gT, .ref gZ, .int bd])), (gB, .inl (cI, 5760, .inl f)), (gT, .inl (cI, 32, .inl t)), (gZ, .inl (cZ, 120, .inl z))]) (va_runV (As := [.int (nI q), .int (nI i)]) (rest := [.int x]) ⟨hx, hb, hml, hown, hts⟩ (c_X4_at l D cI cZ hm gB gT gZ a tc nw ol f t z O lf us bd q i (by omega) (by omega) (by omega) (by omega) (by omega) (by omega) (by omega) _) (cwV 2 hts gX4_sum_X4_at rfl rfl rfl (by decide +kernel) ⟨Nat.le_of_ble_eq_true rfl, Nat.le_of_ble_eq_true rfl⟩) (ct_preV (w := [(hm, .inr (4, [.int 0, .int (nI a), .ref gB, .int (nI nw), .int (nI ol), .int (b2i O), .int lf, .int us, .int (nI tc), .ref gT, .ref gZ, .int bd])), (gB, .inl (cI, 5760, .inl f)), (gT, .inl (cI, 32, .inl t)), (gZ, .inl (cZ, 120, .inl z))]) (ci := 4) (i0 := 0) hK hN hP hD [0, 1, 2, 3] (by decide) rfl rfl rfl) rfl rfl hl.1 rfl (lv_room (Nat.le_of_ble_eq_true rfl)) dX4_sum_14 ⟨Nat.le_of_ble_eq_true rfl, Nat.le_of_ble_eq_true rfl⟩) hP hD hS hA [0, 1, 2, 3] rfl [hm, gB, gT, gZ] rfl rfl (fun H locs hP hD hS => ?_)
        have hP : va_P D vwCl [(hm, .inr (4, [.int 0, .int (nI a), .ref gB, .int (nI nw), .int (nI ol), .int (b2i O), .int lf, .int us, .int (nI tc), .ref gT, .ref gZ, .int bd])), (gB, .inl (cI, 5760, .inl f)), (gT, .inl (cI, 32, .inl t)), (gZ, .inl (cZ, 120, .inl z))] _ := hP
        have hD : va_D A [(hm, .inr (4, [.int 0, .int (nI a), .ref gB, .int (nI nw), .int (nI ol), .int (b2i O), .int lf, .int us, .int (nI tc), .ref gT, .ref gZ, .int bd])), (gB, .inl (cI, 5760, .inl f)), (gT, .inl (cI, 32, .inl t)), (gZ, .inl (cZ, 120, .inl z))] := hD
        refine lv_ixor hx hb dX4_sum_17 ?_
        refine lv_istore (lv' := [(4, .int (x ^^^ (f (q * 48 + i)))), (3, .int (nI i)), (2, .int x), (0, .ref hm), (1, .int (nI q))]) hx hb dX4_sum_18 hl (by decide) rfl (fun ls hl => ?_)
        refine lv_iload hx hb dX4_sum_20 (lv_at hl 0 rfl) ?_
        refine lv_bipush (v := 9) hx hb dX4_sum_22 (by decide) ?_
        refine lv_ishl hx hb dX4_sum_24 ?_
        refine lv_iload hx hb dX4_sum_25 (lv_at hl 0 rfl) ?_
        refine lv_bipush (v := 23) hx hb dX4_sum_27 (by decide) ?_
        refine lv_iushr hx hb dX4_sum_29 rfl ?_
        refine lv_ior hx hb dX4_sum_30 ?_
        refine lv_ldc (v := 668265263) hx hb hown hk0 dX4_sum_31 ?_
        refine lv_imul hx hb dX4_sum_33 ?_
        refine lv_istore_n (lv' := [(2, .int ((((x ^^^ (f (q * 48 + i))) <<< (9 &&& 31)) ||| ((Int32.toUInt32 (x ^^^ (f (q * 48 + i))) >>> (Int32.toUInt32 23 &&& Int32.toUInt32 31)).toInt32)) * 668265263)), (4, .int (x ^^^ (f (q * 48 + i)))), (3, .int (nI i)), (0, .ref hm), (1, .int (nI q))]) hx hb dX4_sum_34 rfl hl (by decide) rfl (fun ls hl => ?_)
        refine lv_iinc (v := nI (i + 1)) (lv' := [(3, .int (nI (i + 1))), (2, .int ((((x ^^^ (f (q * 48 + i))) <<< (9 &&& 31)) ||| ((Int32.toUInt32 (x ^^^ (f (q * 48 + i))) >>> (Int32.toUInt32 23 &&& Int32.toUInt32 31)).toInt32)) * 668265263)), (4, .int (x ^^^ (f (q * 48 + i)))), (0, .ref hm), (1, .int (nI q))]) hx hb dX4_sum_35 hl (k := 2) rfl (nI_add i 1) (by decide) rfl (fun ls hl => ?_)
        refine lv_goto (tgt := 4) hx hb dX4_sum_38 (by decide) ?_
        exact ih4 (i + 1) ((((x ^^^ (f (q * 48 + i))) <<< (9 &&& 31)) ||| ((Int32.toUInt32 (x ^^^ (f (q * 48 + i))) >>> (Int32.toUInt32 23 &&& Int32.toUInt32 31)).toInt32)) * 668265263) (by omega) (by subst ex; rfl) (by omega) _ _ hP hD hS ls (lv_sub hl [0, 1, 3, 4] rfl)
  exact loop4 _ 0 0 (by omega) (rfl) (Nat.lt_succ_self _) _ _ hP hD hS ls (lv_sub hl [0, 1, 2, 3] rfl)
set_option maxHeartbeats 4000000 in
set_option maxRecDepth 100000 in
theorem c_X4_isKind (l : Launch) (D : va_G) (cI cZ : ClassId) (hm gB gT gZ a tc nw ol : Nat) (f t z : Nat → Int32) (O : Prop) (lf us bd : Int32) (q : Nat) (k : Int32) (ha : a ≤ 120) (h12 : 12 ≤ a) (htc : tc ≤ 32) (hnw : nw ≤ 1000000) (hol : ol ≤ nw + 1) (h1 : q < a) : CtI l yX4_isKind wsX4_isKind ({ frames := 2, cells := 0, slots := 0, locals := 46 }) D vwCl (ct_T cI cZ) [.ref hm, .int (nI q), .int k] [(hm, .inr (4, [.int 0, .int (nI a), .ref gB, .int (nI nw), .int (nI ol), .int (b2i O), .int lf, .int us, .int (nI tc), .ref gT, .ref gZ, .int bd])), (gB, .inl (cI, 5760, .inl f)), (gT, .inl (cI, 32, .inl t)), (gZ, .inl (cZ, 120, .inl z))] [(hm, .inr (4, [.int 0, .int (nI a), .ref gB, .int (nI nw), .int (nI ol), .int (b2i O), .int lf, .int us, .int (nI tc), .ref gT, .ref gZ, .int bd])), (gB, .inl (cI, 5760, .inl f)), (gT, .inl (cI, 32, .inl t)), (gZ, .inl (cZ, 120, .inl z))] (b2i (f (q * 48 + 0) = k ∧ pg_num f (q * 48 + 44) = pg_sum f (q * 48) 44)) := by
  refine ct_of (Qf := ct_Qi D vwCl [(hm, .inr (4, [.int 0, .int (nI a), .ref gB, .int (nI nw), .int (nI ol), .int (b2i O), .int lf, .int us, .int (nI tc), .ref gT, .ref gZ, .int bd])), (gB, .inl (cI, 5760, .inl f)), (gT, .inl (cI, 32, .inl t)), (gZ, .inl (cZ, 120, .inl z))] (b2i (f (q * 48 + 0) = k ∧ pg_num f (q * 48 + 44) = pg_sum f (q * 48) 44))) (cc := cX4_isKind) (maxL := 3) (ret := (some .boolean)) [(0, .ref hm), (1, .int (nI q)), (2, .int k)] (by decide) rfl (Nat.le_of_ble_eq_true rfl) rfl ?_
  intro p e s m below meth c hx hb hr hts hown hlocks hml hnm A hA hK hN hP hD hS ls hl
  have hown : s.vm.findClass RX4 = some m.cls := hown
  refine lv_aload_n hx hb dX4_isKind_0 rfl (lv_at hl 0 rfl) ?_
  refine lv_iload_n hx hb dX4_isKind_1 rfl (lv_at hl 1 rfl) ?_
  refine lv_iconst (v := 0) hx hb dX4_isKind_2 (by decide) ?_
  refine ct_calli (w := [(hm, .inr (4, [.int 0, .int (nI a), .ref gB, .int (nI nw), .int (nI ol), .int (b2i O), .int lf, .int us, .int (nI tc), .ref gT, .ref gZ, .int bd])), (gB, .inl (cI, 5760, .inl f)), (gT, .inl (cI, 32, .inl t)), (gZ, .inl (cZ, 120, .inl z))]) (w' := [(hm, .inr (4, [.int 0, .int (nI a), .ref gB, .int (nI nw), .int (nI ol), .int (b2i O), .int lf, .int us, .int (nI tc), .ref gT, .ref gZ, .int bd])), (gB, .inl (cI, 5760, .inl f)), (gT, .inl (cI, 32, .inl t)), (gZ, .inl (cZ, 120, .inl z))]) (va_runV (As := [.int (nI q), .int 0]) (rest := []) ⟨hx, hb, hml, hown, hts⟩ (c_X4_at l D cI cZ hm gB gT gZ a tc nw ol f t z O lf us bd q 0 (by omega) (by omega) (by omega) (by omega) (by omega) (by omega) (by omega) _) (cwV 2 hts gX4_isKind_X4_at rfl rfl rfl (by decide +kernel) ⟨Nat.le_of_ble_eq_true rfl, Nat.le_of_ble_eq_true rfl⟩) (ct_preV (w := [(hm, .inr (4, [.int 0, .int (nI a), .ref gB, .int (nI nw), .int (nI ol), .int (b2i O), .int lf, .int us, .int (nI tc), .ref gT, .ref gZ, .int bd])), (gB, .inl (cI, 5760, .inl f)), (gT, .inl (cI, 32, .inl t)), (gZ, .inl (cZ, 120, .inl z))]) (ci := 4) (i0 := 0) hK hN hP hD [0, 1, 2, 3] (by decide) rfl rfl rfl) rfl rfl hl.1 rfl (lv_room (Nat.le_of_ble_eq_true rfl)) dX4_isKind_3 ⟨Nat.le_of_ble_eq_true rfl, Nat.le_of_ble_eq_true rfl⟩) hP hD hS hA [0, 1, 2, 3] rfl [hm, gB, gT, gZ] rfl rfl (fun H locs hP hD hS => ?_)
  have hP : va_P D vwCl [(hm, .inr (4, [.int 0, .int (nI a), .ref gB, .int (nI nw), .int (nI ol), .int (b2i O), .int lf, .int us, .int (nI tc), .ref gT, .ref gZ, .int bd])), (gB, .inl (cI, 5760, .inl f)), (gT, .inl (cI, 32, .inl t)), (gZ, .inl (cZ, 120, .inl z))] _ := hP
  have hD : va_D A [(hm, .inr (4, [.int 0, .int (nI a), .ref gB, .int (nI nw), .int (nI ol), .int (b2i O), .int lf, .int us, .int (nI tc), .ref gT, .ref gZ, .int bd])), (gB, .inl (cI, 5760, .inl f)), (gT, .inl (cI, 32, .inl t)), (gZ, .inl (cZ, 120, .inl z))] := hD
  refine lv_iload_n hx hb dX4_isKind_6 rfl (lv_at hl 2 rfl) ?_
  refine lv_icmp_ne (tgt := 29) hx hb dX4_isKind_7 (by decide) (fun c7 => ?_) (fun c7 => ?_)
  · skip
    refine lv_iconst (v := 0) hx hb dX4_isKind_29 (by decide) ?_
    exact ct_zret hx hb hr hlocks (rfl) ((b2i_f (fun h => by first | exact h.1 c7 | exact c7 h.1)).symm) (rfl) hP hD hS dX4_isKind_30
  · skip
    refine lv_aload_n hx hb dX4_isKind_10 rfl (lv_at hl 0 rfl) ?_
    refine lv_iload_n hx hb dX4_isKind_11 rfl (lv_at hl 1 rfl) ?_
    refine lv_bipush (v := 44) hx hb dX4_isKind_12 (by decide) ?_
    refine ct_calli (w := [(hm, .inr (4, [.int 0, .int (nI a), .ref gB, .int (nI nw), .int (nI ol), .int (b2i O), .int lf, .int us, .int (nI tc), .ref gT, .ref gZ, .int bd])), (gB, .inl (cI, 5760, .inl f)), (gT, .inl (cI, 32, .inl t)), (gZ, .inl (cZ, 120, .inl z))]) (w' := [(hm, .inr (4, [.int 0, .int (nI a), .ref gB, .int (nI nw), .int (nI ol), .int (b2i O), .int lf, .int us, .int (nI tc), .ref gT, .ref gZ, .int bd])), (gB, .inl (cI, 5760, .inl f)), (gT, .inl (cI, 32, .inl t)), (gZ, .inl (cZ, 120, .inl z))]) (va_runV (As := [.int (nI q), .int 44]) (rest := []) ⟨hx, hb, hml, hown, hts⟩ (c_X4_number l D cI cZ hm gB gT gZ a tc nw ol f t z O lf us bd q 44 (by omega) (by omega) (by omega) (by omega) (by omega) (by omega) (by omega) _) (cwV 2 hts gX4_isKind_X4_number rfl rfl rfl (by decide +kernel) ⟨Nat.le_of_ble_eq_true rfl, Nat.le_of_ble_eq_true rfl⟩) (ct_preV (w := [(hm, .inr (4, [.int 0, .int (nI a), .ref gB, .int (nI nw), .int (nI ol), .int (b2i O), .int lf, .int us, .int (nI tc), .ref gT, .ref gZ, .int bd])), (gB, .inl (cI, 5760, .inl f)), (gT, .inl (cI, 32, .inl t)), (gZ, .inl (cZ, 120, .inl z))]) (ci := 4) (i0 := 0) hK hN hP hD [0, 1, 2, 3] (by decide) rfl rfl rfl) rfl rfl hl.1 rfl (lv_room (Nat.le_of_ble_eq_true rfl)) dX4_isKind_14 ⟨Nat.le_of_ble_eq_true rfl, Nat.le_of_ble_eq_true rfl⟩) hP hD hS hA [0, 1, 2, 3] rfl [hm, gB, gT, gZ] rfl rfl (fun H locs hP hD hS => ?_)
    have hP : va_P D vwCl [(hm, .inr (4, [.int 0, .int (nI a), .ref gB, .int (nI nw), .int (nI ol), .int (b2i O), .int lf, .int us, .int (nI tc), .ref gT, .ref gZ, .int bd])), (gB, .inl (cI, 5760, .inl f)), (gT, .inl (cI, 32, .inl t)), (gZ, .inl (cZ, 120, .inl z))] _ := hP
    have hD : va_D A [(hm, .inr (4, [.int 0, .int (nI a), .ref gB, .int (nI nw), .int (nI ol), .int (b2i O), .int lf, .int us, .int (nI tc), .ref gT, .ref gZ, .int bd])), (gB, .inl (cI, 5760, .inl f)), (gT, .inl (cI, 32, .inl t)), (gZ, .inl (cZ, 120, .inl z))] := hD
    refine lv_aload_n hx hb dX4_isKind_17 rfl (lv_at hl 0 rfl) ?_
    refine lv_iload_n hx hb dX4_isKind_18 rfl (lv_at hl 1 rfl) ?_
    refine ct_calli (w := [(hm, .inr (4, [.int 0, .int (nI a), .ref gB, .int (nI nw), .int (nI ol), .int (b2i O), .int lf, .int us, .int (nI tc), .ref gT, .ref gZ, .int bd])), (gB, .inl (cI, 5760, .inl f)), (gT, .inl (cI, 32, .inl t)), (gZ, .inl (cZ, 120, .inl z))]) (w' := [(hm, .inr (4, [.int 0, .int (nI a), .ref gB, .int (nI nw), .int (nI ol), .int (b2i O), .int lf, .int us, .int (nI tc), .ref gT, .ref gZ, .int bd])), (gB, .inl (cI, 5760, .inl f)), (gT, .inl (cI, 32, .inl t)), (gZ, .inl (cZ, 120, .inl z))]) (va_runV (As := [.int (nI q)]) (rest := [.int (pg_num f (q * 48 + 44))]) ⟨hx, hb, hml, hown, hts⟩ (c_X4_sum l D cI cZ hm gB gT gZ a tc nw ol f t z O lf us bd q (by omega) (by omega) (by omega) (by omega) (by omega) (by omega) _) (cwV 1 hts gX4_isKind_X4_sum rfl rfl rfl (by decide +kernel) ⟨Nat.le_of_ble_eq_true rfl, Nat.le_of_ble_eq_true rfl⟩) (ct_preV (w := [(hm, .inr (4, [.int 0, .int (nI a), .ref gB, .int (nI nw), .int (nI ol), .int (b2i O), .int lf, .int us, .int (nI tc), .ref gT, .ref gZ, .int bd])), (gB, .inl (cI, 5760, .inl f)), (gT, .inl (cI, 32, .inl t)), (gZ, .inl (cZ, 120, .inl z))]) (ci := 4) (i0 := 0) hK hN hP hD [0, 1, 2, 3] (by decide) rfl rfl rfl) rfl rfl hl.1 rfl (lv_room (Nat.le_of_ble_eq_true rfl)) dX4_isKind_19 ⟨Nat.le_of_ble_eq_true rfl, Nat.le_of_ble_eq_true rfl⟩) hP hD hS hA [0, 1, 2, 3] rfl [hm, gB, gT, gZ] rfl rfl (fun H locs hP hD hS => ?_)
    have hP : va_P D vwCl [(hm, .inr (4, [.int 0, .int (nI a), .ref gB, .int (nI nw), .int (nI ol), .int (b2i O), .int lf, .int us, .int (nI tc), .ref gT, .ref gZ, .int bd])), (gB, .inl (cI, 5760, .inl f)), (gT, .inl (cI, 32, .inl t)), (gZ, .inl (cZ, 120, .inl z))] _ := hP
    have hD : va_D A [(hm, .inr (4, [.int 0, .int (nI a), .ref gB, .int (nI nw), .int (nI ol), .int (b2i O), .int lf, .int us, .int (nI tc), .ref gT, .ref gZ, .int bd])), (gB, .inl (cI, 5760, .inl f)), (gT, .inl (cI, 32, .inl t)), (gZ, .inl (cZ, 120, .inl z))] := hD
    refine lv_icmp_ne (tgt := 29) hx hb dX4_isKind_22 (by decide) (fun c22 => ?_) (fun c22 => ?_)
    · skip
      refine lv_iconst (v := 0) hx hb dX4_isKind_29 (by decide) ?_
      exact ct_zret hx hb hr hlocks (rfl) ((b2i_f (fun h => by first | exact h.2 c22 | exact c22 h.2)).symm) (rfl) hP hD hS dX4_isKind_30
    · skip
      refine lv_iconst (v := 1) hx hb dX4_isKind_25 (by decide) ?_
      refine lv_goto (tgt := 30) hx hb dX4_isKind_26 (by decide) ?_
      exact ct_zret hx hb hr hlocks (rfl) ((b2i_t ⟨c7, c22⟩).symm) (rfl) hP hD hS dX4_isKind_30
set_option maxHeartbeats 4000000 in
set_option maxRecDepth 100000 in
theorem c_X4_tellsPages (l : Launch) (D : va_G) (cI cZ : ClassId) (hm gB gT gZ a tc nw ol : Nat) (f t z : Nat → Int32) (O : Prop) (lf us bd : Int32) (q st : Nat) (ha : a ≤ 120) (h12 : 12 ≤ a) (htc : tc ≤ 32) (hnw : nw ≤ 1000000) (hol : ol ≤ nw + 1) (h1 : q < a) (h2 : st + 32 ≤ 48) : CtI l yX4_tellsPages wsX4_tellsPages ({ frames := 1, cells := 0, slots := 0, locals := 22 }) D vwCl (ct_T cI cZ) [.ref hm, .int (nI q), .int (nI st)] [(hm, .inr (4, [.int 0, .int (nI a), .ref gB, .int (nI nw), .int (nI ol), .int (b2i O), .int lf, .int us, .int (nI tc), .ref gT, .ref gZ, .int bd])), (gB, .inl (cI, 5760, .inl f)), (gT, .inl (cI, 32, .inl t)), (gZ, .inl (cZ, 120, .inl z))] [(hm, .inr (4, [.int 0, .int (nI a), .ref gB, .int (nI nw), .int (nI ol), .int (b2i O), .int lf, .int us, .int (nI tc), .ref gT, .ref gZ, .int bd])), (gB, .inl (cI, 5760, .inl f)), (gT, .inl (cI, 32, .inl t)), (gZ, .inl (cZ, 120, .inl z))] (b2i (pg_ok f a (q * 48 + st) 32)) := by
  refine ct_of (Qf := ct_Qi D vwCl [(hm, .inr (4, [.int 0, .int (nI a), .ref gB, .int (nI nw), .int (nI ol), .int (b2i O), .int lf, .int us, .int (nI tc), .ref gT, .ref gZ, .int bd])), (gB, .inl (cI, 5760, .inl f)), (gT, .inl (cI, 32, .inl t)), (gZ, .inl (cZ, 120, .inl z))] (b2i (pg_ok f a (q * 48 + st) 32))) (cc := cX4_tellsPages) (maxL := 6) (ret := (some .boolean)) [(0, .ref hm), (1, .int (nI q)), (2, .int (nI st))] (by decide) rfl (Nat.le_of_ble_eq_true rfl) rfl ?_
  intro p e s m below meth c hx hb hr hts hown hlocks hml hnm A hA hK hN hP hD hS ls hl
  have hown : s.vm.findClass RX4 = some m.cls := hown
  have hk0 := hts (.fieldLink RX4 27 "DesignPagesModel" "pages" "I") (by decide +kernel)
  have hiX4 : ∀ w ∈ wsX40, w ∈ wsX4_tellsPages := by decide +kernel
  refine lv_iconst (v := 1) hx hb dX4_tellsPages_0 (by decide) ?_
  refine lv_istore_n (lv' := [(3, .int 1), (0, .ref hm), (1, .int (nI q)), (2, .int (nI st))]) hx hb dX4_tellsPages_1 rfl hl (by decide) rfl (fun ls hl => ?_)
  refine lv_iconst (v := 0) hx hb dX4_tellsPages_2 (by decide) ?_
  refine lv_istore (lv' := [(4, .int 0), (3, .int 1), (0, .ref hm), (1, .int (nI q)), (2, .int (nI st))]) hx hb dX4_tellsPages_3 hl (by decide) rfl (fun ls hl => ?_)
  have loop5 : ∀ (n5 : Nat) (i : Nat) (w : Int32), i ≤ 32 → w = b2i (pg_ok f a (q * 48 + st) i) → 32 - i < n5 → ∀ (H : Heap) (locs : List Loc), va_P D vwCl [(hm, .inr (4, [.int 0, .int (nI a), .ref gB, .int (nI nw), .int (nI ol), .int (b2i O), .int lf, .int us, .int (nI tc), .ref gT, .ref gZ, .int bd])), (gB, .inl (cI, 5760, .inl f)), (gT, .inl (cI, 32, .inl t)), (gZ, .inl (cZ, 120, .inl z))] H → va_D A [(hm, .inr (4, [.int 0, .int (nI a), .ref gB, .int (nI nw), .int (nI ol), .int (b2i O), .int lf, .int us, .int (nI tc), .ref gT, .ref gZ, .int bd])), (gB, .inl (cI, 5760, .inl f)), (gT, .inl (cI, 32, .inl t)), (gZ, .inl (cZ, 120, .inl z))] → va_S A s.heap H locs → ∀ (ls : Array Slot), lv_has ls 6 [(4, .int (nI i)), (3, .int w), (0, .ref hm), (1, .int (nI q)), (2, .int (nI st))] → W p l e ({ frames := 1, cells := 0, slots := 0, locals := 22 }) s m ([.ref hm, .int (nI q), .int (nI st)] : List Value).toArray below meth c H locs 0 0 (MQ below (ct_Qi D vwCl [(hm, .inr (4, [.int 0, .int (nI a), .ref gB, .int (nI nw), .int (nI ol), .int (b2i O), .int lf, .int us, .int (nI tc), .ref gT, .ref gZ, .int bd])), (gB, .inl (cI, 5760, .inl f)), (gT, .inl (cI, 32, .inl t)), (gZ, .inl (cZ, 120, .inl z))] (b2i (pg_ok f a (q * 48 + st) 32)) A) ([.ref hm, .int (nI q), .int (nI st)] : List Value).toArray s 0 0 A) (F0 m 5 ls []) := by
    intro n5
    induction n5 with
    | zero =>
      intro i w _ _ hm
      exact absurd hm (Nat.not_lt_zero _)
    | succ n5 ih5 =>
      intro i w hi ew hm5 H locs hP hD hS ls hl
      refine lv_iload hx hb dX4_tellsPages_5 (lv_at hl 0 rfl) ?_
      refine lv_bipush (v := 32) hx hb dX4_tellsPages_7 (by decide) ?_
      refine lv_icmp_ge (tgt := 60) hx hb dX4_tellsPages_9 (by decide) (fun c9 => ?_) (fun c9 => ?_)
      · skip
        have c9 : 32 ≤ i := (nI_leI (a := 32) (b := i) (by omega) (by omega)).mp c9
        refine lv_iload_n hx hb dX4_tellsPages_60 rfl (lv_at hl 1 rfl) ?_
        exact ct_zret hx hb hr hlocks (by rw [ew]; exact b2i_nar _) (by rw [ew, show i = 32 by omega]) (rfl) hP hD hS dX4_tellsPages_61
      · skip
        have c9 : ¬ 32 ≤ i := fun h => c9 ((nI_leI (a := 32) (b := i) (by omega) (by omega)).mpr h)
        refine lv_aload_n hx hb dX4_tellsPages_12 rfl (lv_at hl 2 rfl) ?_
        refine lv_iload_n hx hb dX4_tellsPages_13 rfl (lv_at hl 3 rfl) ?_
        refine lv_iload_n hx hb dX4_tellsPages_14 rfl (lv_at hl 4 rfl) ?_
        refine lv_iload hx hb dX4_tellsPages_15 (lv_at hl 0 rfl) ?_
        refine lv_iadd hx hb dX4_tellsPages_17 ?_
        refine ct_top (y := nI (st + i)) (nI_add st i) ?_
        refine ct_calli (w := [(hm, .inr (4, [.int 0, .int (nI a), .ref gB, .int (nI nw), .int (nI ol), .int (b2i O), .int lf, .int us, .int (nI tc), .ref gT, .ref gZ, .int bd])), (gB, .inl (cI, 5760, .inl f)), (gT, .inl (cI, 32, .inl t)), (gZ, .inl (cZ, 120, .inl z))]) (w' := [(hm, .inr (4, [.int 0, .int (nI a), .ref gB, .int (nI nw), .int (nI ol), .int (b2i O), .int lf, .int us, .int (nI tc), .ref gT, .ref gZ, .int bd])), (gB, .inl (cI, 5760, .inl f)), (gT, .inl (cI, 32, .inl t)), (gZ, .inl (cZ, 120, .inl z))]) (va_runV (As := [.int (nI q), .int (nI (st + i))]) (rest := []) ⟨hx, hb, hml, hown, hts⟩ (c_X4_at l D cI cZ hm gB gT gZ a tc nw ol f t z O lf us bd q (st + i) (by omega) (by omega) (by omega) (by omega) (by omega) (by omega) (by omega) _) (cwV 2 hts gX4_tellsPages_X4_at rfl rfl rfl (by decide +kernel) ⟨Nat.le_of_ble_eq_true rfl, Nat.le_of_ble_eq_true rfl⟩) (ct_preV (w := [(hm, .inr (4, [.int 0, .int (nI a), .ref gB, .int (nI nw), .int (nI ol), .int (b2i O), .int lf, .int us, .int (nI tc), .ref gT, .ref gZ, .int bd])), (gB, .inl (cI, 5760, .inl f)), (gT, .inl (cI, 32, .inl t)), (gZ, .inl (cZ, 120, .inl z))]) (ci := 4) (i0 := 0) hK hN hP hD [0, 1, 2, 3] (by decide) rfl rfl rfl) rfl rfl hl.1 rfl (lv_room (Nat.le_of_ble_eq_true rfl)) dX4_tellsPages_18 ⟨Nat.le_of_ble_eq_true rfl, Nat.le_of_ble_eq_true rfl⟩) hP hD hS hA [0, 1, 2, 3] rfl [hm, gB, gT, gZ] rfl rfl (fun H locs hP hD hS => ?_)
        have hP : va_P D vwCl [(hm, .inr (4, [.int 0, .int (nI a), .ref gB, .int (nI nw), .int (nI ol), .int (b2i O), .int lf, .int us, .int (nI tc), .ref gT, .ref gZ, .int bd])), (gB, .inl (cI, 5760, .inl f)), (gT, .inl (cI, 32, .inl t)), (gZ, .inl (cZ, 120, .inl z))] _ := hP
        have hD : va_D A [(hm, .inr (4, [.int 0, .int (nI a), .ref gB, .int (nI nw), .int (nI ol), .int (b2i O), .int lf, .int us, .int (nI tc), .ref gT, .ref gZ, .int bd])), (gB, .inl (cI, 5760, .inl f)), (gT, .inl (cI, 32, .inl t)), (gZ, .inl (cZ, 120, .inl z))] := hD
        refine ct_top (y := f (q * 48 + st + i)) (by rw [Nat.add_assoc]) ?_
        refine lv_istore (lv' := [(5, .int (f (q * 48 + st + i))), (4, .int (nI i)), (3, .int w), (0, .ref hm), (1, .int (nI q)), (2, .int (nI st))]) hx hb dX4_tellsPages_21 hl (by decide) rfl (fun ls hl => ?_)
        refine lv_iload_n hx hb dX4_tellsPages_23 rfl (lv_at hl 2 rfl) ?_
        refine lv_if_eq (tgt := 52) hx hb dX4_tellsPages_24 (by decide) (fun c24 => ?_) (fun c24 => ?_)
        · skip
          refine lv_iconst (v := 0) hx hb dX4_tellsPages_52 (by decide) ?_
          refine lv_istore_n (lv' := [(3, .int 0), (5, .int (f (q * 48 + st + i))), (4, .int (nI i)), (0, .ref hm), (1, .int (nI q)), (2, .int (nI st))]) hx hb dX4_tellsPages_53 rfl hl (by decide) rfl (fun ls hl => ?_)
          refine lv_iinc (v := nI (i + 1)) (lv' := [(4, .int (nI (i + 1))), (3, .int 0), (5, .int (f (q * 48 + st + i))), (0, .ref hm), (1, .int (nI q)), (2, .int (nI st))]) hx hb dX4_tellsPages_54 hl (k := 2) rfl (nI_add i 1) (by decide) rfl (fun ls hl => ?_)
          refine lv_goto (tgt := 5) hx hb dX4_tellsPages_57 (by decide) ?_
          exact ih5 (i + 1) 0 (by omega) ((b2i_f (fun h => b2i_0.mp (ew.symm.trans c24) (ok_w h).1)).symm) (by omega) _ _ hP hD hS ls (lv_sub hl [0, 1, 3, 4, 5] rfl)
        · skip
          refine lv_iload hx hb dX4_tellsPages_27 (lv_at hl 0 rfl) ?_
          refine lv_if_eq (tgt := 48) hx hb dX4_tellsPages_29 (by decide) (fun c29 => ?_) (fun c29 => ?_)
          · skip
            refine lv_iconst (v := 1) hx hb dX4_tellsPages_48 (by decide) ?_
            refine lv_goto (tgt := 53) hx hb dX4_tellsPages_49 (by decide) ?_
            refine lv_istore_n (lv' := [(3, .int 1), (5, .int (f (q * 48 + st + i))), (4, .int (nI i)), (0, .ref hm), (1, .int (nI q)), (2, .int (nI st))]) hx hb dX4_tellsPages_53 rfl hl (by decide) rfl (fun ls hl => ?_)
            refine lv_iinc (v := nI (i + 1)) (lv' := [(4, .int (nI (i + 1))), (3, .int 1), (5, .int (f (q * 48 + st + i))), (0, .ref hm), (1, .int (nI q)), (2, .int (nI st))]) hx hb dX4_tellsPages_54 hl (k := 2) rfl (nI_add i 1) (by decide) rfl (fun ls hl => ?_)
            refine lv_goto (tgt := 5) hx hb dX4_tellsPages_57 (by decide) ?_
            exact ih5 (i + 1) 1 (by omega) ((b2i_t (ok_s (b2i_n0 (by rw [← ew]; exact c24)) (Or.inl c29))).symm) (by omega) _ _ hP hD hS ls (lv_sub hl [0, 1, 3, 4, 5] rfl)
          · skip
            refine lv_iload hx hb dX4_tellsPages_32 (lv_at hl 0 rfl) ?_
            refine lv_bipush (v := 8) hx hb dX4_tellsPages_34 (by decide) ?_
            refine lv_icmp_lt (tgt := 52) hx hb dX4_tellsPages_36 (by decide) (fun c36 => ?_) (fun c36 => ?_)
            · skip
              refine lv_iconst (v := 0) hx hb dX4_tellsPages_52 (by decide) ?_
              refine lv_istore_n (lv' := [(3, .int 0), (5, .int (f (q * 48 + st + i))), (4, .int (nI i)), (0, .ref hm), (1, .int (nI q)), (2, .int (nI st))]) hx hb dX4_tellsPages_53 rfl hl (by decide) rfl (fun ls hl => ?_)
              refine lv_iinc (v := nI (i + 1)) (lv' := [(4, .int (nI (i + 1))), (3, .int 0), (5, .int (f (q * 48 + st + i))), (0, .ref hm), (1, .int (nI q)), (2, .int (nI st))]) hx hb dX4_tellsPages_54 hl (k := 2) rfl (nI_add i 1) (by decide) rfl (fun ls hl => ?_)
              refine lv_goto (tgt := 5) hx hb dX4_tellsPages_57 (by decide) ?_
              exact ih5 (i + 1) 0 (by omega) ((b2i_f (fun h => (ok_w h).2.elim c29 (fun h => h.1 c36))).symm) (by omega) _ _ hP hD hS ls (lv_sub hl [0, 1, 3, 4, 5] rfl)
            · skip
              refine lv_iload hx hb dX4_tellsPages_39 (lv_at hl 0 rfl) ?_
              refine lv_aload_n hx hb dX4_tellsPages_41 rfl (lv_at hl 3 rfl) ?_
              refine va_get (D := D) (cl := vwCl) (ci := 4) (v := .int (nI a)) (C := RX4) (T := TX4) (N := 12) hx hb hts hiX4 hown hK hP 0 rfl rfl 1 (by decide) hk0 (fun _ h9 => h9) rfl dX4_tellsPages_42 ?_
              refine lv_icmp_ge (tgt := 52) hx hb dX4_tellsPages_45 (by decide) (fun c45 => ?_) (fun c45 => ?_)
              · skip
                refine lv_iconst (v := 0) hx hb dX4_tellsPages_52 (by decide) ?_
                refine lv_istore_n (lv' := [(3, .int 0), (5, .int (f (q * 48 + st + i))), (4, .int (nI i)), (0, .ref hm), (1, .int (nI q)), (2, .int (nI st))]) hx hb dX4_tellsPages_53 rfl hl (by decide) rfl (fun ls hl => ?_)
                refine lv_iinc (v := nI (i + 1)) (lv' := [(4, .int (nI (i + 1))), (3, .int 0), (5, .int (f (q * 48 + st + i))), (0, .ref hm), (1, .int (nI q)), (2, .int (nI st))]) hx hb dX4_tellsPages_54 hl (k := 2) rfl (nI_add i 1) (by decide) rfl (fun ls hl => ?_)
                refine lv_goto (tgt := 5) hx hb dX4_tellsPages_57 (by decide) ?_
                exact ih5 (i + 1) 0 (by omega) ((b2i_f (fun h => (ok_w h).2.elim c29 (fun h => h.2 c45))).symm) (by omega) _ _ hP hD hS ls (lv_sub hl [0, 1, 3, 4, 5] rfl)
              · skip
                refine lv_iconst (v := 1) hx hb dX4_tellsPages_48 (by decide) ?_
                refine lv_goto (tgt := 53) hx hb dX4_tellsPages_49 (by decide) ?_
                refine lv_istore_n (lv' := [(3, .int 1), (5, .int (f (q * 48 + st + i))), (4, .int (nI i)), (0, .ref hm), (1, .int (nI q)), (2, .int (nI st))]) hx hb dX4_tellsPages_53 rfl hl (by decide) rfl (fun ls hl => ?_)
                refine lv_iinc (v := nI (i + 1)) (lv' := [(4, .int (nI (i + 1))), (3, .int 1), (5, .int (f (q * 48 + st + i))), (0, .ref hm), (1, .int (nI q)), (2, .int (nI st))]) hx hb dX4_tellsPages_54 hl (k := 2) rfl (nI_add i 1) (by decide) rfl (fun ls hl => ?_)
                refine lv_goto (tgt := 5) hx hb dX4_tellsPages_57 (by decide) ?_
                exact ih5 (i + 1) 1 (by omega) ((b2i_t (ok_s (b2i_n0 (by rw [← ew]; exact c24)) (Or.inr ⟨c36, c45⟩))).symm) (by omega) _ _ hP hD hS ls (lv_sub hl [0, 1, 3, 4, 5] rfl)
  exact loop5 _ 0 1 (by omega) ((b2i_t (ok_0 f a _)).symm) (Nat.lt_succ_self _) _ _ hP hD hS ls (lv_sub hl [0, 1, 2, 3, 4] rfl)
set_option maxHeartbeats 4000000 in
set_option maxRecDepth 100000 in
theorem c_X4_isRight (l : Launch) (D : va_G) (cI cZ : ClassId) (hm gB gT gZ a tc nw ol : Nat) (f t z : Nat → Int32) (O : Prop) (lf us bd : Int32) (q : Nat) (k : Int32) (ha : a ≤ 120) (h12 : 12 ≤ a) (htc : tc ≤ 32) (hnw : nw ≤ 1000000) (hol : ol ≤ nw + 1) (h1 : q < a) (hk : k = 1 ∨ k = 2 ∨ k = 3) : CtI l yX4_isRight wsX4_isRight ({ frames := 3, cells := 0, slots := 0, locals := 68 }) D vwCl (ct_T cI cZ) [.ref hm, .int (nI q), .int k] [(hm, .inr (4, [.int 0, .int (nI a), .ref gB, .int (nI nw), .int (nI ol), .int (b2i O), .int lf, .int us, .int (nI tc), .ref gT, .ref gZ, .int bd])), (gB, .inl (cI, 5760, .inl f)), (gT, .inl (cI, 32, .inl t)), (gZ, .inl (cZ, 120, .inl z))] [(hm, .inr (4, [.int 0, .int (nI a), .ref gB, .int (nI nw), .int (nI ol), .int (b2i O), .int lf, .int us, .int (nI tc), .ref gT, .ref gZ, .int bd])), (gB, .inl (cI, 5760, .inl f)), (gT, .inl (cI, 32, .inl t)), (gZ, .inl (cZ, 120, .inl z))] (b2i (pg_right f a q k)) := by
  refine ct_of (Qf := ct_Qi D vwCl [(hm, .inr (4, [.int 0, .int (nI a), .ref gB, .int (nI nw), .int (nI ol), .int (b2i O), .int lf, .int us, .int (nI tc), .ref gT, .ref gZ, .int bd])), (gB, .inl (cI, 5760, .inl f)), (gT, .inl (cI, 32, .inl t)), (gZ, .inl (cZ, 120, .inl z))] (b2i (pg_right f a q k))) (cc := cX4_isRight) (maxL := 5) (ret := (some .boolean)) [(0, .ref hm), (1, .int (nI q)), (2, .int k)] (by decide) rfl (Nat.le_of_ble_eq_true rfl) rfl ?_
  intro p e s m below meth c hx hb hr hts hown hlocks hml hnm A hA hK hN hP hD hS ls hl
  have hown : s.vm.findClass RX4 = some m.cls := hown
  have hk0 := hts (.constant RX4 56 (1000000)) (by decide +kernel)
  refine lv_aload_n hx hb dX4_isRight_0 rfl (lv_at hl 0 rfl) ?_
  refine lv_iload_n hx hb dX4_isRight_1 rfl (lv_at hl 1 rfl) ?_
  refine lv_iload_n hx hb dX4_isRight_2 rfl (lv_at hl 2 rfl) ?_
  refine ct_calli (w := [(hm, .inr (4, [.int 0, .int (nI a), .ref gB, .int (nI nw), .int (nI ol), .int (b2i O), .int lf, .int us, .int (nI tc), .ref gT, .ref gZ, .int bd])), (gB, .inl (cI, 5760, .inl f)), (gT, .inl (cI, 32, .inl t)), (gZ, .inl (cZ, 120, .inl z))]) (w' := [(hm, .inr (4, [.int 0, .int (nI a), .ref gB, .int (nI nw), .int (nI ol), .int (b2i O), .int lf, .int us, .int (nI tc), .ref gT, .ref gZ, .int bd])), (gB, .inl (cI, 5760, .inl f)), (gT, .inl (cI, 32, .inl t)), (gZ, .inl (cZ, 120, .inl z))]) (va_runV (As := [.int (nI q), .int k]) (rest := []) ⟨hx, hb, hml, hown, hts⟩ (c_X4_isKind l D cI cZ hm gB gT gZ a tc nw ol f t z O lf us bd q k (by omega) (by omega) (by omega) (by omega) (by omega) (by omega) _) (cwV 2 hts gX4_isRight_X4_isKind rfl rfl rfl (by decide +kernel) ⟨Nat.le_of_ble_eq_true rfl, Nat.le_of_ble_eq_true rfl⟩) (ct_preV (w := [(hm, .inr (4, [.int 0, .int (nI a), .ref gB, .int (nI nw), .int (nI ol), .int (b2i O), .int lf, .int us, .int (nI tc), .ref gT, .ref gZ, .int bd])), (gB, .inl (cI, 5760, .inl f)), (gT, .inl (cI, 32, .inl t)), (gZ, .inl (cZ, 120, .inl z))]) (ci := 4) (i0 := 0) hK hN hP hD [0, 1, 2, 3] (by decide) rfl rfl rfl) rfl rfl hl.1 rfl (lv_room (Nat.le_of_ble_eq_true rfl)) dX4_isRight_3 ⟨Nat.le_of_ble_eq_true rfl, Nat.le_of_ble_eq_true rfl⟩) hP hD hS hA [0, 1, 2, 3] rfl [hm, gB, gT, gZ] rfl rfl (fun H locs hP hD hS => ?_)
  have hP : va_P D vwCl [(hm, .inr (4, [.int 0, .int (nI a), .ref gB, .int (nI nw), .int (nI ol), .int (b2i O), .int lf, .int us, .int (nI tc), .ref gT, .ref gZ, .int bd])), (gB, .inl (cI, 5760, .inl f)), (gT, .inl (cI, 32, .inl t)), (gZ, .inl (cZ, 120, .inl z))] _ := hP
  have hD : va_D A [(hm, .inr (4, [.int 0, .int (nI a), .ref gB, .int (nI nw), .int (nI ol), .int (b2i O), .int lf, .int us, .int (nI tc), .ref gT, .ref gZ, .int bd])), (gB, .inl (cI, 5760, .inl f)), (gT, .inl (cI, 32, .inl t)), (gZ, .inl (cZ, 120, .inl z))] := hD
  refine lv_if_ne (tgt := 11) hx hb dX4_isRight_6 (by decide) (fun c6 => ?_) (fun c6 => ?_)
  · skip
    refine lv_iload_n hx hb dX4_isRight_11 rfl (lv_at hl 2 rfl) ?_
    refine lv_iconst (v := 3) hx hb dX4_isRight_12 (by decide) ?_
    refine lv_icmp_ne (tgt := 33) hx hb dX4_isRight_13 (by decide) (fun c13 => ?_) (fun c13 => ?_)
    · skip
      refine lv_iload_n hx hb dX4_isRight_33 rfl (lv_at hl 2 rfl) ?_
      refine lv_iconst (v := 2) hx hb dX4_isRight_34 (by decide) ?_
      refine lv_icmp_ne (tgt := 45) hx hb dX4_isRight_35 (by decide) (fun c35 => ?_) (fun c35 => ?_)
      · skip
        refine lv_aload_n hx hb dX4_isRight_45 rfl (lv_at hl 0 rfl) ?_
        refine lv_iload_n hx hb dX4_isRight_46 rfl (lv_at hl 1 rfl) ?_
        refine lv_iconst (v := 1) hx hb dX4_isRight_47 (by decide) ?_
        refine ct_calli (w := [(hm, .inr (4, [.int 0, .int (nI a), .ref gB, .int (nI nw), .int (nI ol), .int (b2i O), .int lf, .int us, .int (nI tc), .ref gT, .ref gZ, .int bd])), (gB, .inl (cI, 5760, .inl f)), (gT, .inl (cI, 32, .inl t)), (gZ, .inl (cZ, 120, .inl z))]) (w' := [(hm, .inr (4, [.int 0, .int (nI a), .ref gB, .int (nI nw), .int (nI ol), .int (b2i O), .int lf, .int us, .int (nI tc), .ref gT, .ref gZ, .int bd])), (gB, .inl (cI, 5760, .inl f)), (gT, .inl (cI, 32, .inl t)), (gZ, .inl (cZ, 120, .inl z))]) (va_runV (As := [.int (nI q), .int 1]) (rest := []) ⟨hx, hb, hml, hown, hts⟩ (c_X4_number l D cI cZ hm gB gT gZ a tc nw ol f t z O lf us bd q 1 (by omega) (by omega) (by omega) (by omega) (by omega) (by omega) (by omega) _) (cwV 2 hts gX4_isRight_X4_number rfl rfl rfl (by decide +kernel) ⟨Nat.le_of_ble_eq_true rfl, Nat.le_of_ble_eq_true rfl⟩) (ct_preV (w := [(hm, .inr (4, [.int 0, .int (nI a), .ref gB, .int (nI nw), .int (nI ol), .int (b2i O), .int lf, .int us, .int (nI tc), .ref gT, .ref gZ, .int bd])), (gB, .inl (cI, 5760, .inl f)), (gT, .inl (cI, 32, .inl t)), (gZ, .inl (cZ, 120, .inl z))]) (ci := 4) (i0 := 0) hK hN hP hD [0, 1, 2, 3] (by decide) rfl rfl rfl) rfl rfl hl.1 rfl (lv_room (Nat.le_of_ble_eq_true rfl)) dX4_isRight_48 ⟨Nat.le_of_ble_eq_true rfl, Nat.le_of_ble_eq_true rfl⟩) hP hD hS hA [0, 1, 2, 3] rfl [hm, gB, gT, gZ] rfl rfl (fun H locs hP hD hS => ?_)
        have hP : va_P D vwCl [(hm, .inr (4, [.int 0, .int (nI a), .ref gB, .int (nI nw), .int (nI ol), .int (b2i O), .int lf, .int us, .int (nI tc), .ref gT, .ref gZ, .int bd])), (gB, .inl (cI, 5760, .inl f)), (gT, .inl (cI, 32, .inl t)), (gZ, .inl (cZ, 120, .inl z))] _ := hP
        have hD : va_D A [(hm, .inr (4, [.int 0, .int (nI a), .ref gB, .int (nI nw), .int (nI ol), .int (b2i O), .int lf, .int us, .int (nI tc), .ref gT, .ref gZ, .int bd])), (gB, .inl (cI, 5760, .inl f)), (gT, .inl (cI, 32, .inl t)), (gZ, .inl (cZ, 120, .inl z))] := hD
        refine lv_istore_n (lv' := [(3, .int (pg_num f (q * 48 + 1))), (0, .ref hm), (1, .int (nI q)), (2, .int k)]) hx hb dX4_isRight_51 rfl hl (by decide) rfl (fun ls hl => ?_)
        refine lv_aload_n hx hb dX4_isRight_52 rfl (lv_at hl 1 rfl) ?_
        refine lv_iload_n hx hb dX4_isRight_53 rfl (lv_at hl 2 rfl) ?_
        refine lv_iconst (v := 5) hx hb dX4_isRight_54 (by decide) ?_
        refine ct_calli (w := [(hm, .inr (4, [.int 0, .int (nI a), .ref gB, .int (nI nw), .int (nI ol), .int (b2i O), .int lf, .int us, .int (nI tc), .ref gT, .ref gZ, .int bd])), (gB, .inl (cI, 5760, .inl f)), (gT, .inl (cI, 32, .inl t)), (gZ, .inl (cZ, 120, .inl z))]) (w' := [(hm, .inr (4, [.int 0, .int (nI a), .ref gB, .int (nI nw), .int (nI ol), .int (b2i O), .int lf, .int us, .int (nI tc), .ref gT, .ref gZ, .int bd])), (gB, .inl (cI, 5760, .inl f)), (gT, .inl (cI, 32, .inl t)), (gZ, .inl (cZ, 120, .inl z))]) (va_runV (As := [.int (nI q), .int 5]) (rest := []) ⟨hx, hb, hml, hown, hts⟩ (c_X4_number l D cI cZ hm gB gT gZ a tc nw ol f t z O lf us bd q 5 (by omega) (by omega) (by omega) (by omega) (by omega) (by omega) (by omega) _) (cwV 2 hts gX4_isRight_X4_number rfl rfl rfl (by decide +kernel) ⟨Nat.le_of_ble_eq_true rfl, Nat.le_of_ble_eq_true rfl⟩) (ct_preV (w := [(hm, .inr (4, [.int 0, .int (nI a), .ref gB, .int (nI nw), .int (nI ol), .int (b2i O), .int lf, .int us, .int (nI tc), .ref gT, .ref gZ, .int bd])), (gB, .inl (cI, 5760, .inl f)), (gT, .inl (cI, 32, .inl t)), (gZ, .inl (cZ, 120, .inl z))]) (ci := 4) (i0 := 0) hK hN hP hD [0, 1, 2, 3] (by decide) rfl rfl rfl) rfl rfl hl.1 rfl (lv_room (Nat.le_of_ble_eq_true rfl)) dX4_isRight_55 ⟨Nat.le_of_ble_eq_true rfl, Nat.le_of_ble_eq_true rfl⟩) hP hD hS hA [0, 1, 2, 3] rfl [hm, gB, gT, gZ] rfl rfl (fun H locs hP hD hS => ?_)
        have hP : va_P D vwCl [(hm, .inr (4, [.int 0, .int (nI a), .ref gB, .int (nI nw), .int (nI ol), .int (b2i O), .int lf, .int us, .int (nI tc), .ref gT, .ref gZ, .int bd])), (gB, .inl (cI, 5760, .inl f)), (gT, .inl (cI, 32, .inl t)), (gZ, .inl (cZ, 120, .inl z))] _ := hP
        have hD : va_D A [(hm, .inr (4, [.int 0, .int (nI a), .ref gB, .int (nI nw), .int (nI ol), .int (b2i O), .int lf, .int us, .int (nI tc), .ref gT, .ref gZ, .int bd])), (gB, .inl (cI, 5760, .inl f)), (gT, .inl (cI, 32, .inl t)), (gZ, .inl (cZ, 120, .inl z))] := hD
        refine lv_istore (lv' := [(4, .int (pg_num f (q * 48 + 5))), (3, .int (pg_num f (q * 48 + 1))), (0, .ref hm), (1, .int (nI q)), (2, .int k)]) hx hb dX4_isRight_58 hl (by decide) rfl (fun ls hl => ?_)
        refine lv_iload_n hx hb dX4_isRight_60 rfl (lv_at hl 1 rfl) ?_
        refine lv_iconst (v := 1) hx hb dX4_isRight_61 (by decide) ?_
        refine lv_icmp_lt (tgt := 114) hx hb dX4_isRight_62 (by decide) (fun c62 => ?_) (fun c62 => ?_)
        · skip
          refine lv_iconst (v := 0) hx hb dX4_isRight_114 (by decide) ?_
          exact ct_zret hx hb hr hlocks (rfl) ((b2i_f (fun h => by first | exact (h.2.2.1 (hk.resolve_right (fun h => h.elim c35 c13))).1.1 c62 | exact c62 (h.2.2.1 (hk.resolve_right (fun h => h.elim c35 c13))).1.1)).symm) (rfl) hP hD hS dX4_isRight_115
        · skip
          refine lv_iload_n hx hb dX4_isRight_65 rfl (lv_at hl 1 rfl) ?_
          refine lv_ldc (v := 1000000) hx hb hown hk0 dX4_isRight_66 ?_
          refine lv_icmp_gt (tgt := 114) hx hb dX4_isRight_68 (by decide) (fun c68 => ?_) (fun c68 => ?_)
          · skip
            refine lv_iconst (v := 0) hx hb dX4_isRight_114 (by decide) ?_
            exact ct_zret hx hb hr hlocks (rfl) ((b2i_f (fun h => by first | exact (h.2.2.1 (hk.resolve_right (fun h => h.elim c35 c13))).1.2.1 c68 | exact c68 (h.2.2.1 (hk.resolve_right (fun h => h.elim c35 c13))).1.2.1)).symm) (rfl) hP hD hS dX4_isRight_115
          · skip
            refine lv_iload_n hx hb dX4_isRight_71 rfl (lv_at hl 1 rfl) ?_
            refine lv_bipush (v := 8) hx hb dX4_isRight_72 (by decide) ?_
            refine lv_irem hx hb dX4_isRight_74 (by decide) ?_
            refine lv_iload_n hx hb dX4_isRight_75 rfl (lv_at hl 3 rfl) ?_
            refine lv_icmp_ne (tgt := 114) hx hb dX4_isRight_76 (by decide) (fun c76 => ?_) (fun c76 => ?_)
            · skip
              refine lv_iconst (v := 0) hx hb dX4_isRight_114 (by decide) ?_
              exact ct_zret hx hb hr hlocks (rfl) ((b2i_f (fun h => by first | exact (h.2.2.1 (hk.resolve_right (fun h => h.elim c35 c13))).1.2.2.1 c76 | exact c76 (h.2.2.1 (hk.resolve_right (fun h => h.elim c35 c13))).1.2.2.1)).symm) (rfl) hP hD hS dX4_isRight_115
            · skip
              refine lv_iload hx hb dX4_isRight_79 (lv_at hl 0 rfl) ?_
              refine lv_iload_n hx hb dX4_isRight_81 rfl (lv_at hl 1 rfl) ?_
              refine lv_icmp_gt (tgt := 114) hx hb dX4_isRight_82 (by decide) (fun c82 => ?_) (fun c82 => ?_)
              · skip
                refine lv_iconst (v := 0) hx hb dX4_isRight_114 (by decide) ?_
                exact ct_zret hx hb hr hlocks (rfl) ((b2i_f (fun h => by first | exact (h.2.2.1 (hk.resolve_right (fun h => h.elim c35 c13))).1.2.2.2.2.1 c82 | exact c82 (h.2.2.1 (hk.resolve_right (fun h => h.elim c35 c13))).1.2.2.2.2.1)).symm) (rfl) hP hD hS dX4_isRight_115
              · skip
                refine lv_iload hx hb dX4_isRight_85 (lv_at hl 0 rfl) ?_
                refine lv_iload_n hx hb dX4_isRight_87 rfl (lv_at hl 1 rfl) ?_
                refine lv_bipush (v := 7) hx hb dX4_isRight_88 (by decide) ?_
                refine lv_isub hx hb dX4_isRight_90 ?_
                refine lv_icmp_lt (tgt := 114) hx hb dX4_isRight_91 (by decide) (fun c91 => ?_) (fun c91 => ?_)
                · skip
                  refine lv_iconst (v := 0) hx hb dX4_isRight_114 (by decide) ?_
                  exact ct_zret hx hb hr hlocks (rfl) ((b2i_f (fun h => by first | exact (h.2.2.1 (hk.resolve_right (fun h => h.elim c35 c13))).1.2.2.2.2.2 c91 | exact c91 (h.2.2.1 (hk.resolve_right (fun h => h.elim c35 c13))).1.2.2.2.2.2)).symm) (rfl) hP hD hS dX4_isRight_115
                · skip
                  refine lv_iload hx hb dX4_isRight_94 (lv_at hl 0 rfl) ?_
                  refine lv_iconst (v := 1) hx hb dX4_isRight_96 (by decide) ?_
                  refine lv_icmp_lt (tgt := 114) hx hb dX4_isRight_97 (by decide) (fun c97 => ?_) (fun c97 => ?_)
                  · skip
                    refine lv_iconst (v := 0) hx hb dX4_isRight_114 (by decide) ?_
                    exact ct_zret hx hb hr hlocks (rfl) ((b2i_f (fun h => by first | exact (h.2.2.1 (hk.resolve_right (fun h => h.elim c35 c13))).1.2.2.2.1 c97 | exact c97 (h.2.2.1 (hk.resolve_right (fun h => h.elim c35 c13))).1.2.2.2.1)).symm) (rfl) hP hD hS dX4_isRight_115
                  · skip
                    refine lv_aload_n hx hb dX4_isRight_100 rfl (lv_at hl 2 rfl) ?_
                    refine lv_iload_n hx hb dX4_isRight_101 rfl (lv_at hl 3 rfl) ?_
                    refine lv_bipush (v := 9) hx hb dX4_isRight_102 (by decide) ?_
                    refine ct_calli (w := [(hm, .inr (4, [.int 0, .int (nI a), .ref gB, .int (nI nw), .int (nI ol), .int (b2i O), .int lf, .int us, .int (nI tc), .ref gT, .ref gZ, .int bd])), (gB, .inl (cI, 5760, .inl f)), (gT, .inl (cI, 32, .inl t)), (gZ, .inl (cZ, 120, .inl z))]) (w' := [(hm, .inr (4, [.int 0, .int (nI a), .ref gB, .int (nI nw), .int (nI ol), .int (b2i O), .int lf, .int us, .int (nI tc), .ref gT, .ref gZ, .int bd])), (gB, .inl (cI, 5760, .inl f)), (gT, .inl (cI, 32, .inl t)), (gZ, .inl (cZ, 120, .inl z))]) (va_runV (As := [.int (nI q), .int 9]) (rest := []) ⟨hx, hb, hml, hown, hts⟩ (c_X4_tellsPages l D cI cZ hm gB gT gZ a tc nw ol f t z O lf us bd q 9 (by omega) (by omega) (by omega) (by omega) (by omega) (by omega) (by omega) _) (cwV 2 hts gX4_isRight_X4_tellsPages rfl rfl rfl (by decide +kernel) ⟨Nat.le_of_ble_eq_true rfl, Nat.le_of_ble_eq_true rfl⟩) (ct_preV (w := [(hm, .inr (4, [.int 0, .int (nI a), .ref gB, .int (nI nw), .int (nI ol), .int (b2i O), .int lf, .int us, .int (nI tc), .ref gT, .ref gZ, .int bd])), (gB, .inl (cI, 5760, .inl f)), (gT, .inl (cI, 32, .inl t)), (gZ, .inl (cZ, 120, .inl z))]) (ci := 4) (i0 := 0) hK hN hP hD [0, 1, 2, 3] (by decide) rfl rfl rfl) rfl rfl hl.1 rfl (lv_room (Nat.le_of_ble_eq_true rfl)) dX4_isRight_104 ⟨Nat.le_of_ble_eq_true rfl, Nat.le_of_ble_eq_true rfl⟩) hP hD hS hA [0, 1, 2, 3] rfl [hm, gB, gT, gZ] rfl rfl (fun H locs hP hD hS => ?_)
                    have hP : va_P D vwCl [(hm, .inr (4, [.int 0, .int (nI a), .ref gB, .int (nI nw), .int (nI ol), .int (b2i O), .int lf, .int us, .int (nI tc), .ref gT, .ref gZ, .int bd])), (gB, .inl (cI, 5760, .inl f)), (gT, .inl (cI, 32, .inl t)), (gZ, .inl (cZ, 120, .inl z))] _ := hP
                    have hD : va_D A [(hm, .inr (4, [.int 0, .int (nI a), .ref gB, .int (nI nw), .int (nI ol), .int (b2i O), .int lf, .int us, .int (nI tc), .ref gT, .ref gZ, .int bd])), (gB, .inl (cI, 5760, .inl f)), (gT, .inl (cI, 32, .inl t)), (gZ, .inl (cZ, 120, .inl z))] := hD
                    refine lv_if_eq (tgt := 114) hx hb dX4_isRight_107 (by decide) (fun c107 => ?_) (fun c107 => ?_)
                    · skip
                      refine lv_iconst (v := 0) hx hb dX4_isRight_114 (by decide) ?_
                      exact ct_zret hx hb hr hlocks (rfl) ((b2i_f (fun h => b2i_0.mp c107 (h.2.2.1 (hk.resolve_right (fun h => h.elim c35 c13))).2)).symm) (rfl) hP hD hS dX4_isRight_115
                    · skip
                      refine lv_iconst (v := 1) hx hb dX4_isRight_110 (by decide) ?_
                      refine lv_goto (tgt := 115) hx hb dX4_isRight_111 (by decide) ?_
                      exact ct_zret hx hb hr hlocks (rfl) ((b2i_t ⟨(b2i_n0 c6).1, (b2i_n0 c6).2, fun _ => ⟨⟨c62, c68, c76, c97, c82, c91⟩, b2i_n0 c107⟩, fun e1 => absurd e1 c35, fun e1 => absurd (hk.resolve_right (fun h => h.elim c35 c13)) e1⟩).symm) (rfl) hP hD hS dX4_isRight_115
      · skip
        refine lv_aload_n hx hb dX4_isRight_38 rfl (lv_at hl 0 rfl) ?_
        refine lv_iload_n hx hb dX4_isRight_39 rfl (lv_at hl 1 rfl) ?_
        refine lv_iconst (v := 2) hx hb dX4_isRight_40 (by decide) ?_
        refine ct_calli (w := [(hm, .inr (4, [.int 0, .int (nI a), .ref gB, .int (nI nw), .int (nI ol), .int (b2i O), .int lf, .int us, .int (nI tc), .ref gT, .ref gZ, .int bd])), (gB, .inl (cI, 5760, .inl f)), (gT, .inl (cI, 32, .inl t)), (gZ, .inl (cZ, 120, .inl z))]) (w' := [(hm, .inr (4, [.int 0, .int (nI a), .ref gB, .int (nI nw), .int (nI ol), .int (b2i O), .int lf, .int us, .int (nI tc), .ref gT, .ref gZ, .int bd])), (gB, .inl (cI, 5760, .inl f)), (gT, .inl (cI, 32, .inl t)), (gZ, .inl (cZ, 120, .inl z))]) (va_runV (As := [.int (nI q), .int 2]) (rest := []) ⟨hx, hb, hml, hown, hts⟩ (c_X4_tellsPages l D cI cZ hm gB gT gZ a tc nw ol f t z O lf us bd q 2 (by omega) (by omega) (by omega) (by omega) (by omega) (by omega) (by omega) _) (cwV 2 hts gX4_isRight_X4_tellsPages rfl rfl rfl (by decide +kernel) ⟨Nat.le_of_ble_eq_true rfl, Nat.le_of_ble_eq_true rfl⟩) (ct_preV (w := [(hm, .inr (4, [.int 0, .int (nI a), .ref gB, .int (nI nw), .int (nI ol), .int (b2i O), .int lf, .int us, .int (nI tc), .ref gT, .ref gZ, .int bd])), (gB, .inl (cI, 5760, .inl f)), (gT, .inl (cI, 32, .inl t)), (gZ, .inl (cZ, 120, .inl z))]) (ci := 4) (i0 := 0) hK hN hP hD [0, 1, 2, 3] (by decide) rfl rfl rfl) rfl rfl hl.1 rfl (lv_room (Nat.le_of_ble_eq_true rfl)) dX4_isRight_41 ⟨Nat.le_of_ble_eq_true rfl, Nat.le_of_ble_eq_true rfl⟩) hP hD hS hA [0, 1, 2, 3] rfl [hm, gB, gT, gZ] rfl rfl (fun H locs hP hD hS => ?_)
        have hP : va_P D vwCl [(hm, .inr (4, [.int 0, .int (nI a), .ref gB, .int (nI nw), .int (nI ol), .int (b2i O), .int lf, .int us, .int (nI tc), .ref gT, .ref gZ, .int bd])), (gB, .inl (cI, 5760, .inl f)), (gT, .inl (cI, 32, .inl t)), (gZ, .inl (cZ, 120, .inl z))] _ := hP
        have hD : va_D A [(hm, .inr (4, [.int 0, .int (nI a), .ref gB, .int (nI nw), .int (nI ol), .int (b2i O), .int lf, .int us, .int (nI tc), .ref gT, .ref gZ, .int bd])), (gB, .inl (cI, 5760, .inl f)), (gT, .inl (cI, 32, .inl t)), (gZ, .inl (cZ, 120, .inl z))] := hD
        exact ct_zret hx hb hr hlocks (b2i_nar _) (b2i_congr ⟨fun h => ⟨(b2i_n0 c6).1, (b2i_n0 c6).2, fun e1 => absurd (c35.symm.trans e1) (by decide), fun _ => h, fun _ e1 => absurd c35 e1⟩, fun h => h.2.2.2.1 c35⟩) (rfl) hP hD hS dX4_isRight_44
    · skip
      refine lv_aload_n hx hb dX4_isRight_16 rfl (lv_at hl 0 rfl) ?_
      refine lv_iload_n hx hb dX4_isRight_17 rfl (lv_at hl 1 rfl) ?_
      refine lv_iconst (v := 3) hx hb dX4_isRight_18 (by decide) ?_
      refine ct_calli (w := [(hm, .inr (4, [.int 0, .int (nI a), .ref gB, .int (nI nw), .int (nI ol), .int (b2i O), .int lf, .int us, .int (nI tc), .ref gT, .ref gZ, .int bd])), (gB, .inl (cI, 5760, .inl f)), (gT, .inl (cI, 32, .inl t)), (gZ, .inl (cZ, 120, .inl z))]) (w' := [(hm, .inr (4, [.int 0, .int (nI a), .ref gB, .int (nI nw), .int (nI ol), .int (b2i O), .int lf, .int us, .int (nI tc), .ref gT, .ref gZ, .int bd])), (gB, .inl (cI, 5760, .inl f)), (gT, .inl (cI, 32, .inl t)), (gZ, .inl (cZ, 120, .inl z))]) (va_runV (As := [.int (nI q), .int 3]) (rest := []) ⟨hx, hb, hml, hown, hts⟩ (c_X4_at l D cI cZ hm gB gT gZ a tc nw ol f t z O lf us bd q 3 (by omega) (by omega) (by omega) (by omega) (by omega) (by omega) (by omega) _) (cwV 2 hts gX4_isRight_X4_at rfl rfl rfl (by decide +kernel) ⟨Nat.le_of_ble_eq_true rfl, Nat.le_of_ble_eq_true rfl⟩) (ct_preV (w := [(hm, .inr (4, [.int 0, .int (nI a), .ref gB, .int (nI nw), .int (nI ol), .int (b2i O), .int lf, .int us, .int (nI tc), .ref gT, .ref gZ, .int bd])), (gB, .inl (cI, 5760, .inl f)), (gT, .inl (cI, 32, .inl t)), (gZ, .inl (cZ, 120, .inl z))]) (ci := 4) (i0 := 0) hK hN hP hD [0, 1, 2, 3] (by decide) rfl rfl rfl) rfl rfl hl.1 rfl (lv_room (Nat.le_of_ble_eq_true rfl)) dX4_isRight_19 ⟨Nat.le_of_ble_eq_true rfl, Nat.le_of_ble_eq_true rfl⟩) hP hD hS hA [0, 1, 2, 3] rfl [hm, gB, gT, gZ] rfl rfl (fun H locs hP hD hS => ?_)
      have hP : va_P D vwCl [(hm, .inr (4, [.int 0, .int (nI a), .ref gB, .int (nI nw), .int (nI ol), .int (b2i O), .int lf, .int us, .int (nI tc), .ref gT, .ref gZ, .int bd])), (gB, .inl (cI, 5760, .inl f)), (gT, .inl (cI, 32, .inl t)), (gZ, .inl (cZ, 120, .inl z))] _ := hP
      have hD : va_D A [(hm, .inr (4, [.int 0, .int (nI a), .ref gB, .int (nI nw), .int (nI ol), .int (b2i O), .int lf, .int us, .int (nI tc), .ref gT, .ref gZ, .int bd])), (gB, .inl (cI, 5760, .inl f)), (gT, .inl (cI, 32, .inl t)), (gZ, .inl (cZ, 120, .inl z))] := hD
      refine lv_bipush (v := 32) hx hb dX4_isRight_22 (by decide) ?_
      refine lv_icmp_gt (tgt := 31) hx hb dX4_isRight_24 (by decide) (fun c24 => ?_) (fun c24 => ?_)
      · skip
        refine lv_iconst (v := 0) hx hb dX4_isRight_31 (by decide) ?_
        exact ct_zret hx hb hr hlocks (rfl) ((b2i_f (fun h => h.2.2.2.2 (by rw [c13]; decide) (by rw [c13]; decide) c24)).symm) (rfl) hP hD hS dX4_isRight_32
      · skip
        refine lv_iconst (v := 1) hx hb dX4_isRight_27 (by decide) ?_
        refine lv_goto (tgt := 32) hx hb dX4_isRight_28 (by decide) ?_
        exact ct_zret hx hb hr hlocks (rfl) ((b2i_t ⟨(b2i_n0 c6).1, (b2i_n0 c6).2, fun e1 => absurd (c13.symm.trans e1) (by decide), fun e1 => absurd (c13.symm.trans e1) (by decide), fun _ _ => c24⟩).symm) (rfl) hP hD hS dX4_isRight_32
  · skip
    refine lv_iconst (v := 0) hx hb dX4_isRight_9 (by decide) ?_
    exact ct_zret hx hb hr hlocks (rfl) ((b2i_f (fun h => b2i_0.mp c6 ⟨h.1, h.2.1⟩)).symm) (rfl) hP hD hS dX4_isRight_10
