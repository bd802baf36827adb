set_option maxHeartbeats 4000000 in
set_option maxRecDepth 100000 in
theorem c_X1_isOff (l : Launch) (D : va_G) (cI cZ : ClassId) (hw : Nat) (O : Prop) (lf us : Int32)  : CtI l yX1_isOff wsX1_isOff ({ frames := 0, cells := 0, slots := 0, locals := 0 }) D vwCl (ct_T cI cZ) [.ref hw] [(hw, .inr (1, [.int (b2i O), .int lf, .int us]))] [(hw, .inr (1, [.int (b2i O), .int lf, .int us]))] (b2i O) := by
  refine ct_of (Qf := ct_Qi D vwCl [(hw, .inr (1, [.int (b2i O), .int lf, .int us]))] (b2i O)) (cc := cX1_isOff) (maxL := 1) (ret := (some .boolean)) [(0, .ref hw)] (by decide) rfl (Nat.le_of_ble_eq_true rfl) rfl ?_
  intro p e s m below meth c hx hb hr hts hown hlocks hml hnm A hA hK hN hP hD hS ls hl
  have hown : s.vm.findClass RX1 = some m.cls := hown
  have hk0 := hts (.fieldLink RX1 9 "DesignPages$Power" "off" "Z") (by decide +kernel)
  have hiX1 : ∀ w ∈ wsX10, w ∈ wsX1_isOff := by decide +kernel
  refine lv_aload_n hx hb dX1_isOff_0 rfl (lv_at hl 0 rfl) ?_
  refine va_get (D := D) (cl := vwCl) (ci := 1) (v := .int (b2i O)) (C := RX1) (T := TX1) (N := 3) hx hb hts hiX1 hown hK hP 0 rfl rfl 0 (by decide) hk0 (fun _ h9 => h9) rfl dX1_isOff_1 ?_
  exact ct_zret hx hb hr hlocks (b2i_nar _) (rfl) (rfl) hP hD hS dX1_isOff_4
set_option maxHeartbeats 4000000 in
set_option maxRecDepth 100000 in
theorem c_X1_pagesWritten (l : Launch) (D : va_G) (cI cZ : ClassId) (hw : Nat) (O : Prop) (lf us : Int32)  : CtI l yX1_pagesWritten wsX1_pagesWritten ({ frames := 0, cells := 0, slots := 0, locals := 0 }) D vwCl (ct_T cI cZ) [.ref hw] [(hw, .inr (1, [.int (b2i O), .int lf, .int us]))] [(hw, .inr (1, [.int (b2i O), .int lf, .int us]))] us := by
  refine ct_of (Qf := ct_Qi D vwCl [(hw, .inr (1, [.int (b2i O), .int lf, .int us]))] us) (cc := cX1_pagesWritten) (maxL := 1) (ret := (some .int)) [(0, .ref hw)] (by decide) rfl (Nat.le_of_ble_eq_true rfl) rfl ?_
  intro p e s m below meth c hx hb hr hts hown hlocks hml hnm A hA hK hN hP hD hS ls hl
  have hown : s.vm.findClass RX1 = some m.cls := hown
  have hk0 := hts (.fieldLink RX1 19 "DesignPages$Power" "used" "I") (by decide +kernel)
  have hiX1 : ∀ w ∈ wsX10, w ∈ wsX1_pagesWritten := by decide +kernel
  refine lv_aload_n hx hb dX1_pagesWritten_0 rfl (lv_at hl 0 rfl) ?_
  refine va_get (D := D) (cl := vwCl) (ci := 1) (v := .int us) (C := RX1) (T := TX1) (N := 3) hx hb hts hiX1 hown hK hP 0 rfl rfl 2 (by decide) hk0 (fun _ h9 => h9) rfl dX1_pagesWritten_1 ?_
  exact ct_iret hx hb hr hlocks (rfl) (rfl) hP hD hS dX1_pagesWritten_4
set_option maxHeartbeats 4000000 in
set_option maxRecDepth 100000 in
theorem c_X1_failAfter (l : Launch) (D : va_G) (cI cZ : ClassId) (hw : Nat) (O : Prop) (lf us : Int32) (x : Int32)  : CtV l yX1_failAfter wsX1_failAfter ({ frames := 0, cells := 0, slots := 0, locals := 0 }) D vwCl (ct_T cI cZ) [.ref hw, .int x] [(hw, .inr (1, [.int (b2i O), .int lf, .int us]))] [(hw, .inr (1, [.int (b2i (x = 0)), .int x, .int us]))] := by
  refine ct_of (Qf := ct_Qv D vwCl [(hw, .inr (1, [.int (b2i (x = 0)), .int x, .int us]))]) (cc := cX1_failAfter) (maxL := 2) (ret := none) [(0, .ref hw), (1, .int x)] (by decide) rfl (Nat.le_of_ble_eq_true rfl) rfl ?_
  intro p e s m below meth c hx hb hr hts hown hlocks hml hnm A hA hK hN hP hD hS ls hl
  have hown : s.vm.findClass RX1 = some m.cls := hown
  have hk0 := hts (.fieldLink RX1 15 "DesignPages$Power" "pagesLeft" "I") (by decide +kernel)
  have hk1 := hts (.fieldLink RX1 9 "DesignPages$Power" "off" "Z") (by decide +kernel)
  have hiX1 : ∀ w ∈ wsX10, w ∈ wsX1_failAfter := by decide +kernel
  refine lv_aload_n hx hb dX1_failAfter_0 rfl (lv_at hl 0 rfl) ?_
  refine lv_iload_n hx hb dX1_failAfter_1 rfl (lv_at hl 1 rfl) ?_
  refine va_put (D := D) (cl := vwCl) (ci := 1) (v := .int x) (ty := .int) (C := RX1) (T := TX1) (N := 3) hx hb hts hiX1 tyX1 tyX1_ok nmX1 hown hK hP hD hS 0 rfl rfl 1 (by decide) hk0 (fun _ h9 => h9) rfl (by decide +kernel) rfl rfl (Nat.le_of_ble_eq_true rfl) dX1_failAfter_2 (fun H locs hP hD hS => ?_)
  have hP : va_P D vwCl [(hw, .inr (1, [.int (b2i O), .int x, .int us]))] _ := hP
  have hD : va_D A [(hw, .inr (1, [.int (b2i O), .int x, .int us]))] := hD
  refine lv_aload_n hx hb dX1_failAfter_5 rfl (lv_at hl 0 rfl) ?_
  refine lv_iload_n hx hb dX1_failAfter_6 rfl (lv_at hl 1 rfl) ?_
  refine lv_if_ne (tgt := 14) hx hb dX1_failAfter_7 (by decide) (fun c7 => ?_) (fun c7 => ?_)
  · skip
    refine lv_iconst (v := 0) hx hb dX1_failAfter_14 (by decide) ?_
    refine va_put (D := D) (cl := vwCl) (ci := 1) (v := .int 0) (ty := .boolean) (C := RX1) (T := TX1) (N := 3) hx hb hts hiX1 tyX1 tyX1_ok nmX1 hown hK hP hD hS 0 rfl rfl 0 (by decide) hk1 (fun _ h9 => h9) rfl (by decide +kernel) rfl rfl (Nat.le_of_ble_eq_true rfl) dX1_failAfter_15 (fun H locs hP hD hS => ?_)
    have hP : va_P D vwCl [(hw, .inr (1, [.int 0, .int x, .int us]))] _ := hP
    have hD : va_D A [(hw, .inr (1, [.int 0, .int x, .int us]))] := hD
    exact ct_vret hx hb hr hlocks (by rw [b2i_f c7]) hP hD hS dX1_failAfter_18
  · skip
    refine lv_iconst (v := 1) hx hb dX1_failAfter_10 (by decide) ?_
    refine lv_goto (tgt := 15) hx hb dX1_failAfter_11 (by decide) ?_
    refine va_put (D := D) (cl := vwCl) (ci := 1) (v := .int 1) (ty := .boolean) (C := RX1) (T := TX1) (N := 3) hx hb hts hiX1 tyX1 tyX1_ok nmX1 hown hK hP hD hS 0 rfl rfl 0 (by decide) hk1 (fun _ h9 => h9) rfl (by decide +kernel) rfl rfl (Nat.le_of_ble_eq_true rfl) dX1_failAfter_15 (fun H locs hP hD hS => ?_)
    have hP : va_P D vwCl [(hw, .inr (1, [.int 1, .int x, .int us]))] _ := hP
    have hD : va_D A [(hw, .inr (1, [.int 1, .int x, .int us]))] := hD
    exact ct_vret hx hb hr hlocks (by rw [b2i_t c7]) hP hD hS dX1_failAfter_18
set_option maxHeartbeats 4000000 in
set_option maxRecDepth 100000 in
theorem c_X1_usePage (l : Launch) (D : va_G) (cI cZ : ClassId) (hw : Nat) (O : Prop) (lf us : Int32)  : CtV l yX1_usePage wsX1_usePage ({ frames := 0, cells := 0, slots := 0, locals := 0 }) D vwCl (ct_T cI cZ) [.ref hw] [(hw, .inr (1, [.int (b2i O), .int lf, .int us]))] [(hw, .inr (1, [.int (b2i (pw_off O lf)), .int (pw_left lf), .int (us + 1)]))] := by
  refine ct_of (Qf := ct_Qv D vwCl [(hw, .inr (1, [.int (b2i (pw_off O lf)), .int (pw_left lf), .int (us + 1)]))]) (cc := cX1_usePage) (maxL := 1) (ret := none) [(0, .ref hw)] (by decide) rfl (Nat.le_of_ble_eq_true rfl) rfl ?_
  intro p e s m below meth c hx hb hr hts hown hlocks hml hnm A hA hK hN hP hD hS ls hl
  have hown : s.vm.findClass RX1 = some m.cls := hown
  have hk0 := hts (.fieldLink RX1 19 "DesignPages$Power" "used" "I") (by decide +kernel)
  have hk1 := hts (.fieldLink RX1 15 "DesignPages$Power" "pagesLeft" "I") (by decide +kernel)
  have hk2 := hts (.fieldLink RX1 9 "DesignPages$Power" "off" "Z") (by decide +kernel)
  have hiX1 : ∀ w ∈ wsX10, w ∈ wsX1_usePage := by decide +kernel
  refine lv_aload_n hx hb dX1_usePage_0 rfl (lv_at hl 0 rfl) ?_
  refine lv_dup hx hb dX1_usePage_1 rfl ?_
  refine va_get (D := D) (cl := vwCl) (ci := 1) (v := .int us) (C := RX1) (T := TX1) (N := 3) hx hb hts hiX1 hown hK hP 0 rfl rfl 2 (by decide) hk0 (fun _ h9 => h9) rfl dX1_usePage_2 ?_
  refine lv_iconst (v := 1) hx hb dX1_usePage_5 (by decide) ?_
  refine lv_iadd hx hb dX1_usePage_6 ?_
  refine va_put (D := D) (cl := vwCl) (ci := 1) (v := .int (us + 1)) (ty := .int) (C := RX1) (T := TX1) (N := 3) hx hb hts hiX1 tyX1 tyX1_ok nmX1 hown hK hP hD hS 0 rfl rfl 2 (by decide) hk0 (fun _ h9 => h9) rfl (by decide +kernel) rfl rfl (Nat.le_of_ble_eq_true rfl) dX1_usePage_7 (fun H locs hP hD hS => ?_)
  have hP : va_P D vwCl [(hw, .inr (1, [.int (b2i O), .int lf, .int (us + 1)]))] _ := hP
  have hD : va_D A [(hw, .inr (1, [.int (b2i O), .int lf, .int (us + 1)]))] := hD
  refine lv_aload_n hx hb dX1_usePage_10 rfl (lv_at hl 0 rfl) ?_
  refine va_get (D := D) (cl := vwCl) (ci := 1) (v := .int lf) (C := RX1) (T := TX1) (N := 3) hx hb hts hiX1 hown hK hP 0 rfl rfl 1 (by decide) hk1 (fun _ h9 => h9) rfl dX1_usePage_11 ?_
  refine lv_if_le (tgt := 43) hx hb dX1_usePage_14 (by decide) (fun c14 => ?_) (fun c14 => ?_)
  · skip
    exact ct_vret hx hb hr hlocks (by have e1 : ¬ 0 < lf := Int32.not_lt.mpr c14; rw [show pw_left lf = lf from if_neg e1, b2i_congr (P := pw_off O lf) (Q := O) ⟨fun h => h.elim (fun h => absurd h.1 e1) (fun h => h.2), fun h => Or.inr ⟨e1, h⟩⟩]) hP hD hS dX1_usePage_43
  · skip
    refine lv_aload_n hx hb dX1_usePage_17 rfl (lv_at hl 0 rfl) ?_
    refine lv_dup hx hb dX1_usePage_18 rfl ?_
    refine va_get (D := D) (cl := vwCl) (ci := 1) (v := .int lf) (C := RX1) (T := TX1) (N := 3) hx hb hts hiX1 hown hK hP 0 rfl rfl 1 (by decide) hk1 (fun _ h9 => h9) rfl dX1_usePage_19 ?_
    refine lv_iconst (v := 1) hx hb dX1_usePage_22 (by decide) ?_
    refine lv_isub hx hb dX1_usePage_23 ?_
    refine va_put (D := D) (cl := vwCl) (ci := 1) (v := .int (lf - 1)) (ty := .int) (C := RX1) (T := TX1) (N := 3) hx hb hts hiX1 tyX1 tyX1_ok nmX1 hown hK hP hD hS 0 rfl rfl 1 (by decide) hk1 (fun _ h9 => h9) rfl (by decide +kernel) rfl rfl (Nat.le_of_ble_eq_true rfl) dX1_usePage_24 (fun H locs hP hD hS => ?_)
    have hP : va_P D vwCl [(hw, .inr (1, [.int (b2i O), .int (lf - 1), .int (us + 1)]))] _ := hP
    have hD : va_D A [(hw, .inr (1, [.int (b2i O), .int (lf - 1), .int (us + 1)]))] := hD
    refine lv_aload_n hx hb dX1_usePage_27 rfl (lv_at hl 0 rfl) ?_
    refine lv_aload_n hx hb dX1_usePage_28 rfl (lv_at hl 0 rfl) ?_
    refine va_get (D := D) (cl := vwCl) (ci := 1) (v := .int (lf - 1)) (C := RX1) (T := TX1) (N := 3) hx hb hts hiX1 hown hK hP 0 rfl rfl 1 (by decide) hk1 (fun _ h9 => h9) rfl dX1_usePage_29 ?_
    refine lv_if_ne (tgt := 39) hx hb dX1_usePage_32 (by decide) (fun c32 => ?_) (fun c32 => ?_)
    · skip
      refine lv_iconst (v := 0) hx hb dX1_usePage_39 (by decide) ?_
      refine va_put (D := D) (cl := vwCl) (ci := 1) (v := .int 0) (ty := .boolean) (C := RX1) (T := TX1) (N := 3) hx hb hts hiX1 tyX1 tyX1_ok nmX1 hown hK hP hD hS 0 rfl rfl 0 (by decide) hk2 (fun _ h9 => h9) rfl (by decide +kernel) rfl rfl (Nat.le_of_ble_eq_true rfl) dX1_usePage_40 (fun H locs hP hD hS => ?_)
      have hP : va_P D vwCl [(hw, .inr (1, [.int 0, .int (lf - 1), .int (us + 1)]))] _ := hP
      have hD : va_D A [(hw, .inr (1, [.int 0, .int (lf - 1), .int (us + 1)]))] := hD
      exact ct_vret hx hb hr hlocks (by have e1 : 0 < lf := Int32.not_le.mp c14; rw [show pw_left lf = lf - 1 from if_pos e1, b2i_f (P := pw_off O lf) (fun h => h.elim (fun h => c32 h.2) (fun h => h.1 e1))]) hP hD hS dX1_usePage_43
    · skip
      refine lv_iconst (v := 1) hx hb dX1_usePage_35 (by decide) ?_
      refine lv_goto (tgt := 40) hx hb dX1_usePage_36 (by decide) ?_
      refine va_put (D := D) (cl := vwCl) (ci := 1) (v := .int 1) (ty := .boolean) (C := RX1) (T := TX1) (N := 3) hx hb hts hiX1 tyX1 tyX1_ok nmX1 hown hK hP hD hS 0 rfl rfl 0 (by decide) hk2 (fun _ h9 => h9) rfl (by decide +kernel) rfl rfl (Nat.le_of_ble_eq_true rfl) dX1_usePage_40 (fun H locs hP hD hS => ?_)
      have hP : va_P D vwCl [(hw, .inr (1, [.int 1, .int (lf - 1), .int (us + 1)]))] _ := hP
      have hD : va_D A [(hw, .inr (1, [.int 1, .int (lf - 1), .int (us + 1)]))] := hD
      exact ct_vret hx hb hr hlocks (by have e1 : 0 < lf := Int32.not_le.mp c14; rw [show pw_left lf = lf - 1 from if_pos e1, b2i_t (P := pw_off O lf) (Or.inl ⟨e1, c32⟩)]) hP hD hS dX1_usePage_43
set_option maxHeartbeats 4000000 in
set_option maxRecDepth 100000 in
theorem c_X1_restore (l : Launch) (D : va_G) (cI cZ : ClassId) (hw : Nat) (O : Prop) (lf us : Int32)  : CtV l yX1_restore wsX1_restore ({ frames := 0, cells := 0, slots := 0, locals := 0 }) D vwCl (ct_T cI cZ) [.ref hw] [(hw, .inr (1, [.int (b2i O), .int lf, .int us]))] [(hw, .inr (1, [.int (b2i False), .int (-1), .int us]))] := by
  refine ct_of (Qf := ct_Qv D vwCl [(hw, .inr (1, [.int (b2i False), .int (-1), .int us]))]) (cc := cX1_restore) (maxL := 1) (ret := none) [(0, .ref hw)] (by decide) rfl (Nat.le_of_ble_eq_true rfl) rfl ?_
  intro p e s m below meth c hx hb hr hts hown hlocks hml hnm A hA hK hN hP hD hS ls hl
  have hown : s.vm.findClass RX1 = some m.cls := hown
  have hk0 := hts (.fieldLink RX1 9 "DesignPages$Power" "off" "Z") (by decide +kernel)
  have hk1 := hts (.fieldLink RX1 15 "DesignPages$Power" "pagesLeft" "I") (by decide +kernel)
  have hiX1 : ∀ w ∈ wsX10, w ∈ wsX1_restore := by decide +kernel
  refine lv_aload_n hx hb dX1_restore_0 rfl (lv_at hl 0 rfl) ?_
  refine lv_iconst (v := 0) hx hb dX1_restore_1 (by decide) ?_
  refine va_put (D := D) (cl := vwCl) (ci := 1) (v := .int 0) (ty := .boolean) (C := RX1) (T := TX1) (N := 3) hx hb hts hiX1 tyX1 tyX1_ok nmX1 hown hK hP hD hS 0 rfl rfl 0 (by decide) hk0 (fun _ h9 => h9) rfl (by decide +kernel) rfl rfl (Nat.le_of_ble_eq_true rfl) dX1_restore_2 (fun H locs hP hD hS => ?_)
  have hP : va_P D vwCl [(hw, .inr (1, [.int 0, .int lf, .int us]))] _ := hP
  have hD : va_D A [(hw, .inr (1, [.int 0, .int lf, .int us]))] := hD
  refine lv_aload_n hx hb dX1_restore_5 rfl (lv_at hl 0 rfl) ?_
  refine lv_iconst (v := (-1)) hx hb dX1_restore_6 (by decide) ?_
  refine va_put (D := D) (cl := vwCl) (ci := 1) (v := .int (-1)) (ty := .int) (C := RX1) (T := TX1) (N := 3) hx hb hts hiX1 tyX1 tyX1_ok nmX1 hown hK hP hD hS 0 rfl rfl 1 (by decide) hk1 (fun _ h9 => h9) rfl (by decide +kernel) rfl rfl (Nat.le_of_ble_eq_true rfl) dX1_restore_7 (fun H locs hP hD hS => ?_)
  have hP : va_P D vwCl [(hw, .inr (1, [.int 0, .int (-1), .int us]))] _ := hP
  have hD : va_D A [(hw, .inr (1, [.int 0, .int (-1), .int us]))] := hD
  exact ct_vret hx hb hr hlocks (by rw [b2i_f (fun h => h)]) hP hD hS dX1_restore_10
