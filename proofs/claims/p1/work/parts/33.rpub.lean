set_option maxHeartbeats 4000000 in
set_option maxRecDepth 100000 in
theorem c_X4_isKey (l : Launch) (D : va_G) (cI cZ : ClassId) (x : Int32)  : CtI l yX4_isKey wsX4_isKey ({ frames := 0, cells := 0, slots := 0, locals := 0 }) D vwCl (ct_T cI cZ) [.int x] [] [] (b2i (ky x)) := by
  refine ct_of (Qf := ct_Qi D vwCl [] (b2i (ky x))) (cc := cX4_isKey) (maxL := 1) (ret := (some .boolean)) [(0, .int x)] (by decide) rfl (Nat.le_of_ble_eq_true rfl) rfl ?_
  intro p e s m below meth c hx hb hr hts hown hlocks hml hnm A hA hK hN hP hD hS ls hl
  have hown : s.vm.findClass RX4 = some m.cls := hown
  refine lv_iload_n hx hb dX4_isKey_0 rfl (lv_at hl 0 rfl) ?_
  refine lv_if_lt (tgt := 15) hx hb dX4_isKey_1 (by decide) (fun c1 => ?_) (fun c1 => ?_)
  · skip
    refine lv_iconst (v := 0) hx hb dX4_isKey_15 (by decide) ?_
    exact ct_zret hx hb hr hlocks (rfl) ((b2i_f (fun h => by first | exact h.1 c1 | exact c1 h.1)).symm) (rfl) hP hD hS dX4_isKey_16
  · skip
    refine lv_iload_n hx hb dX4_isKey_4 rfl (lv_at hl 0 rfl) ?_
    refine lv_sipush (v := 1024) hx hb dX4_isKey_5 (by decide) ?_
    refine lv_icmp_ge (tgt := 15) hx hb dX4_isKey_8 (by decide) (fun c8 => ?_) (fun c8 => ?_)
    · skip
      refine lv_iconst (v := 0) hx hb dX4_isKey_15 (by decide) ?_
      exact ct_zret hx hb hr hlocks (rfl) ((b2i_f (fun h => by first | exact h.2 c8 | exact c8 h.2)).symm) (rfl) hP hD hS dX4_isKey_16
    · skip
      refine lv_iconst (v := 1) hx hb dX4_isKey_11 (by decide) ?_
      refine lv_goto (tgt := 16) hx hb dX4_isKey_12 (by decide) ?_
      exact ct_zret hx hb hr hlocks (rfl) ((b2i_t ⟨c1, c8⟩).symm) (rfl) hP hD hS dX4_isKey_16
set_option maxHeartbeats 4000000 in
set_option maxRecDepth 100000 in
theorem c_X4_isKept (l : Launch) (D : va_G) (cI cZ : ClassId) (hm gB gT gZ a tc nw ol : Nat) (f t z : Nat → Int32) (O : Prop) (lf us bd : Int32) (x : Int32) (ha : a ≤ 120) (h12 : 12 ≤ a) (htc : tc ≤ 32) (hnw : nw ≤ 1000000) (hol : ol ≤ nw + 1) : CtI l yX4_isKept wsX4_isKept ({ frames := 0, cells := 0, slots := 0, locals := 0 }) D vwCl (ct_T cI cZ) [.ref hm, .int x] [(hm, .inr (4, [.int 0, .int (nI a), .ref gB, .int (nI nw), .int (nI ol), .int (b2i O), .int lf, .int us, .int (nI tc), .ref gT, .ref gZ, .int bd])), (gB, .inl (cI, 5760, .inl f)), (gT, .inl (cI, 32, .inl t)), (gZ, .inl (cZ, 120, .inl z))] [(hm, .inr (4, [.int 0, .int (nI a), .ref gB, .int (nI nw), .int (nI ol), .int (b2i O), .int lf, .int us, .int (nI tc), .ref gT, .ref gZ, .int bd])), (gB, .inl (cI, 5760, .inl f)), (gT, .inl (cI, 32, .inl t)), (gZ, .inl (cZ, 120, .inl z))] (b2i (kp ol nw x)) := by
  refine ct_of (Qf := ct_Qi D vwCl [(hm, .inr (4, [.int 0, .int (nI a), .ref gB, .int (nI nw), .int (nI ol), .int (b2i O), .int lf, .int us, .int (nI tc), .ref gT, .ref gZ, .int bd])), (gB, .inl (cI, 5760, .inl f)), (gT, .inl (cI, 32, .inl t)), (gZ, .inl (cZ, 120, .inl z))] (b2i (kp ol nw x))) (cc := cX4_isKept) (maxL := 2) (ret := (some .boolean)) [(0, .ref hm), (1, .int x)] (by decide) rfl (Nat.le_of_ble_eq_true rfl) rfl ?_
  intro p e s m below meth c hx hb hr hts hown hlocks hml hnm A hA hK hN hP hD hS ls hl
  have hown : s.vm.findClass RX4 = some m.cls := hown
  have hk0 := hts (.fieldLink RX4 13 "DesignPagesModel" "oldest" "I") (by decide +kernel)
  have hk1 := hts (.fieldLink RX4 67 "DesignPagesModel" "newest" "I") (by decide +kernel)
  have hiX4 : ∀ w ∈ wsX40, w ∈ wsX4_isKept := by decide +kernel
  refine lv_iload_n hx hb dX4_isKept_0 rfl (lv_at hl 1 rfl) ?_
  refine lv_aload_n hx hb dX4_isKept_1 rfl (lv_at hl 0 rfl) ?_
  refine va_get (D := D) (cl := vwCl) (ci := 4) (v := .int (nI ol)) (C := RX4) (T := TX4) (N := 12) hx hb hts hiX4 hown hK hP 0 rfl rfl 4 (by decide) hk0 (fun _ h9 => h9) rfl dX4_isKept_2 ?_
  refine lv_icmp_lt (tgt := 20) hx hb dX4_isKept_5 (by decide) (fun c5 => ?_) (fun c5 => ?_)
  · skip
    refine lv_iconst (v := 0) hx hb dX4_isKept_20 (by decide) ?_
    exact ct_zret hx hb hr hlocks (rfl) ((b2i_f (fun h => by first | exact h.1 c5 | exact c5 h.1)).symm) (rfl) hP hD hS dX4_isKept_21
  · skip
    refine lv_iload_n hx hb dX4_isKept_8 rfl (lv_at hl 1 rfl) ?_
    refine lv_aload_n hx hb dX4_isKept_9 rfl (lv_at hl 0 rfl) ?_
    refine va_get (D := D) (cl := vwCl) (ci := 4) (v := .int (nI nw)) (C := RX4) (T := TX4) (N := 12) hx hb hts hiX4 hown hK hP 0 rfl rfl 3 (by decide) hk1 (fun _ h9 => h9) rfl dX4_isKept_10 ?_
    refine lv_icmp_gt (tgt := 20) hx hb dX4_isKept_13 (by decide) (fun c13 => ?_) (fun c13 => ?_)
    · skip
      refine lv_iconst (v := 0) hx hb dX4_isKept_20 (by decide) ?_
      exact ct_zret hx hb hr hlocks (rfl) ((b2i_f (fun h => by first | exact h.2 c13 | exact c13 h.2)).symm) (rfl) hP hD hS dX4_isKept_21
    · skip
      refine lv_iconst (v := 1) hx hb dX4_isKept_16 (by decide) ?_
      refine lv_goto (tgt := 21) hx hb dX4_isKept_17 (by decide) ?_
      exact ct_zret hx hb hr hlocks (rfl) ((b2i_t ⟨c5, c13⟩).symm) (rfl) hP hD hS dX4_isKept_21
set_option maxHeartbeats 4000000 in
set_option maxRecDepth 100000 in
theorem c_X4_isByte (l : Launch) (D : va_G) (cI cZ : ClassId) (hm gB gT gZ a tc nw ol : Nat) (f t z : Nat → Int32) (O : Prop) (lf us bd : Int32) (x y : Int32) (ha : a ≤ 120) (h12 : 12 ≤ a) (htc : tc ≤ 32) (hnw : nw ≤ 1000000) (hol : ol ≤ nw + 1) : CtI l yX4_isByte wsX4_isByte ({ frames := 0, cells := 0, slots := 0, locals := 0 }) D vwCl (ct_T cI cZ) [.ref hm, .int x, .int y] [(hm, .inr (4, [.int 0, .int (nI a), .ref gB, .int (nI nw), .int (nI ol), .int (b2i O), .int lf, .int us, .int (nI tc), .ref gT, .ref gZ, .int bd])), (gB, .inl (cI, 5760, .inl f)), (gT, .inl (cI, 32, .inl t)), (gZ, .inl (cZ, 120, .inl z))] [(hm, .inr (4, [.int 0, .int (nI a), .ref gB, .int (nI nw), .int (nI ol), .int (b2i O), .int lf, .int us, .int (nI tc), .ref gT, .ref gZ, .int bd])), (gB, .inl (cI, 5760, .inl f)), (gT, .inl (cI, 32, .inl t)), (gZ, .inl (cZ, 120, .inl z))] (b2i (hs a x y)) := by
  refine ct_of (Qf := ct_Qi D vwCl [(hm, .inr (4, [.int 0, .int (nI a), .ref gB, .int (nI nw), .int (nI ol), .int (b2i O), .int lf, .int us, .int (nI tc), .ref gT, .ref gZ, .int bd])), (gB, .inl (cI, 5760, .inl f)), (gT, .inl (cI, 32, .inl t)), (gZ, .inl (cZ, 120, .inl z))] (b2i (hs a x y))) (cc := cX4_isByte) (maxL := 3) (ret := (some .boolean)) [(0, .ref hm), (1, .int x), (2, .int y)] (by decide) rfl (Nat.le_of_ble_eq_true rfl) rfl ?_
  intro p e s m below meth c hx hb hr hts hown hlocks hml hnm A hA hK hN hP hD hS ls hl
  have hown : s.vm.findClass RX4 = some m.cls := hown
  have hk0 := hts (.fieldLink RX4 27 "DesignPagesModel" "pages" "I") (by decide +kernel)
  have hiX4 : ∀ w ∈ wsX40, w ∈ wsX4_isByte := by decide +kernel
  refine lv_iload_n hx hb dX4_isByte_0 rfl (lv_at hl 1 rfl) ?_
  refine lv_if_lt (tgt := 26) hx hb dX4_isByte_1 (by decide) (fun c1 => ?_) (fun c1 => ?_)
  · skip
    refine lv_iconst (v := 0) hx hb dX4_isByte_26 (by decide) ?_
    exact ct_zret hx hb hr hlocks (rfl) ((b2i_f (fun h => by first | exact h.1 c1 | exact c1 h.1)).symm) (rfl) hP hD hS dX4_isByte_27
  · skip
    refine lv_iload_n hx hb dX4_isByte_4 rfl (lv_at hl 1 rfl) ?_
    refine lv_aload_n hx hb dX4_isByte_5 rfl (lv_at hl 0 rfl) ?_
    refine va_get (D := D) (cl := vwCl) (ci := 4) (v := .int (nI a)) (C := RX4) (T := TX4) (N := 12) hx hb hts hiX4 hown hK hP 0 rfl rfl 1 (by decide) hk0 (fun _ h9 => h9) rfl dX4_isByte_6 ?_
    refine lv_icmp_ge (tgt := 26) hx hb dX4_isByte_9 (by decide) (fun c9 => ?_) (fun c9 => ?_)
    · skip
      refine lv_iconst (v := 0) hx hb dX4_isByte_26 (by decide) ?_
      exact ct_zret hx hb hr hlocks (rfl) ((b2i_f (fun h => by first | exact h.2.1 c9 | exact c9 h.2.1)).symm) (rfl) hP hD hS dX4_isByte_27
    · skip
      refine lv_iload_n hx hb dX4_isByte_12 rfl (lv_at hl 2 rfl) ?_
      refine lv_if_lt (tgt := 26) hx hb dX4_isByte_13 (by decide) (fun c13 => ?_) (fun c13 => ?_)
      · skip
        refine lv_iconst (v := 0) hx hb dX4_isByte_26 (by decide) ?_
        exact ct_zret hx hb hr hlocks (rfl) ((b2i_f (fun h => by first | exact h.2.2.1 c13 | exact c13 h.2.2.1)).symm) (rfl) hP hD hS dX4_isByte_27
      · skip
        refine lv_iload_n hx hb dX4_isByte_16 rfl (lv_at hl 2 rfl) ?_
        refine lv_bipush (v := 48) hx hb dX4_isByte_17 (by decide) ?_
        refine lv_icmp_ge (tgt := 26) hx hb dX4_isByte_19 (by decide) (fun c19 => ?_) (fun c19 => ?_)
        · skip
          refine lv_iconst (v := 0) hx hb dX4_isByte_26 (by decide) ?_
          exact ct_zret hx hb hr hlocks (rfl) ((b2i_f (fun h => by first | exact h.2.2.2 c19 | exact c19 h.2.2.2)).symm) (rfl) hP hD hS dX4_isByte_27
        · skip
          refine lv_iconst (v := 1) hx hb dX4_isByte_22 (by decide) ?_
          refine lv_goto (tgt := 27) hx hb dX4_isByte_23 (by decide) ?_
          exact ct_zret hx hb hr hlocks (rfl) ((b2i_t ⟨c1, c9, c13, c19⟩).symm) (rfl) hP hD hS dX4_isByte_27
set_option maxHeartbeats 4000000 in
set_option maxRecDepth 100000 in
theorem c_X4_type (l : Launch) (D : va_G) (cI cZ : ClassId) (hm gB gT gZ a tc nw ol : Nat) (f t z : Nat → Int32) (O : Prop) (lf us bd : Int32) (x : Int32) (ha : a ≤ 120) (h12 : 12 ≤ a) (htc : tc ≤ 32) (hnw : nw ≤ 1000000) (hol : ol ≤ nw + 1) : CtI l yX4_type wsX4_type ({ frames := 0, cells := 0, slots := 0, locals := 0 }) D vwCl (ct_T cI cZ) [.ref hm, .int x] [(hm, .inr (4, [.int 0, .int (nI a), .ref gB, .int (nI nw), .int (nI ol), .int (b2i O), .int lf, .int us, .int (nI tc), .ref gT, .ref gZ, .int bd])), (gB, .inl (cI, 5760, .inl f)), (gT, .inl (cI, 32, .inl t)), (gZ, .inl (cZ, 120, .inl z))] [(hm, .inr (4, [.int 0, .int (nI a), .ref gB, .int (nI nw), .int (nI ol), .int (b2i O), .int lf, .int us, .int (nI ((sp_type O x tc t).2.2)), .ref gT, .ref gZ, .int bd])), (gB, .inl (cI, 5760, .inl f)), (gT, .inl (cI, 32, .inl ((sp_type O x tc t).2.1))), (gZ, .inl (cZ, 120, .inl z))] ((sp_type O x tc t).1) := by
  refine ct_of (Qf := ct_Qi D vwCl [(hm, .inr (4, [.int 0, .int (nI a), .ref gB, .int (nI nw), .int (nI ol), .int (b2i O), .int lf, .int us, .int (nI ((sp_type O x tc t).2.2)), .ref gT, .ref gZ, .int bd])), (gB, .inl (cI, 5760, .inl f)), (gT, .inl (cI, 32, .inl ((sp_type O x tc t).2.1))), (gZ, .inl (cZ, 120, .inl z))] ((sp_type O x tc t).1)) (cc := cX4_type) (maxL := 2) (ret := (some .int)) [(0, .ref hm), (1, .int x)] (by decide) rfl (Nat.le_of_ble_eq_true rfl) rfl ?_
  intro p e s m below meth c hx hb hr hts hown hlocks hml hnm A hA hK hN hP hD hS ls hl
  have hown : s.vm.findClass RX4 = some m.cls := hown
  have hk0 := hts (.fieldLink RX4 30 "DesignPagesModel" "code" "I") (by decide +kernel)
  have hk1 := hts (.fieldLink RX4 83 "DesignPagesModel" "down" "Z") (by decide +kernel)
  have hk2 := hts (.fieldLink RX4 87 "DesignPagesModel" "typed" "I") (by decide +kernel)
  have hk3 := hts (.fieldLink RX4 20 "DesignPagesModel" "types" "[I") (by decide +kernel)
  have hiX4 : ∀ w ∈ wsX40, w ∈ wsX4_type := by decide +kernel
  refine lv_aload_n hx hb dX4_type_0 rfl (lv_at hl 0 rfl) ?_
  refine lv_iconst (v := 0) hx hb dX4_type_1 (by decide) ?_
  refine va_put (D := D) (cl := vwCl) (ci := 4) (v := .int 0) (ty := .int) (C := RX4) (T := TX4) (N := 12) hx hb hts hiX4 tyX4 tyX4_ok nmX4 hown hK hP hD hS 0 rfl rfl 0 (by decide) hk0 (fun _ h9 => h9) rfl (by decide +kernel) rfl rfl (Nat.le_of_ble_eq_true rfl) dX4_type_2 (fun H locs hP hD hS => ?_)
  have hP : va_P D vwCl [(hm, .inr (4, [.int 0, .int (nI a), .ref gB, .int (nI nw), .int (nI ol), .int (b2i O), .int lf, .int us, .int (nI tc), .ref gT, .ref gZ, .int bd])), (gB, .inl (cI, 5760, .inl f)), (gT, .inl (cI, 32, .inl t)), (gZ, .inl (cZ, 120, .inl z))] _ := hP
  have hD : va_D A [(hm, .inr (4, [.int 0, .int (nI a), .ref gB, .int (nI nw), .int (nI ol), .int (b2i O), .int lf, .int us, .int (nI tc), .ref gT, .ref gZ, .int bd])), (gB, .inl (cI, 5760, .inl f)), (gT, .inl (cI, 32, .inl t)), (gZ, .inl (cZ, 120, .inl z))] := hD
  refine lv_aload_n hx hb dX4_type_5 rfl (lv_at hl 0 rfl) ?_
  refine va_get (D := D) (cl := vwCl) (ci := 4) (v := .int (b2i O)) (C := RX4) (T := TX4) (N := 12) hx hb hts hiX4 hown hK hP 0 rfl rfl 5 (by decide) hk1 (fun _ h9 => h9) rfl dX4_type_6 ?_
  refine lv_if_eq (tgt := 15) hx hb dX4_type_9 (by decide) (fun c9 => ?_) (fun c9 => ?_)
  · skip
    refine lv_iload_n hx hb dX4_type_15 rfl (lv_at hl 1 rfl) ?_
    refine lv_if_lt (tgt := 26) hx hb dX4_type_16 (by decide) (fun c16 => ?_) (fun c16 => ?_)
    · skip
      refine lv_bipush (v := (-2)) hx hb dX4_type_26 (by decide) ?_
      have e9 : sp_type O x tc t = ((-2), t, tc) := by unfold sp_type; rw [ifp_f (b2i_0.mp c9), ifp_t (Or.inl c16)]
      exact ct_iret hx hb hr hlocks (by rw [e9]) (by rw [e9]) hP hD hS dX4_type_28
    · skip
      refine lv_iload_n hx hb dX4_type_19 rfl (lv_at hl 1 rfl) ?_
      refine lv_sipush (v := 255) hx hb dX4_type_20 (by decide) ?_
      refine lv_icmp_le (tgt := 29) hx hb dX4_type_23 (by decide) (fun c23 => ?_) (fun c23 => ?_)
      · skip
        refine lv_aload_n hx hb dX4_type_29 rfl (lv_at hl 0 rfl) ?_
        refine va_get (D := D) (cl := vwCl) (ci := 4) (v := .int (nI tc)) (C := RX4) (T := TX4) (N := 12) hx hb hts hiX4 hown hK hP 0 rfl rfl 8 (by decide) hk2 (fun _ h9 => h9) rfl dX4_type_30 ?_
        refine lv_bipush (v := 32) hx hb dX4_type_33 (by decide) ?_
        refine lv_icmp_ne (tgt := 41) hx hb dX4_type_35 (by decide) (fun c35 => ?_) (fun c35 => ?_)
        · skip
          have c35 : ¬ tc = 32 := fun h => c35 ((nI_eq (a := tc) (b := 32) (by omega) (by omega)).mpr h)
          refine lv_aload_n hx hb dX4_type_41 rfl (lv_at hl 0 rfl) ?_
          refine va_get (D := D) (cl := vwCl) (ci := 4) (v := .ref gT) (C := RX4) (T := TX4) (N := 12) hx hb hts hiX4 hown hK hP 0 rfl rfl 9 (by decide) hk3 (fun _ h9 => h9) rfl dX4_type_42 ?_
          refine lv_aload_n hx hb dX4_type_45 rfl (lv_at hl 0 rfl) ?_
          refine va_get (D := D) (cl := vwCl) (ci := 4) (v := .int (nI tc)) (C := RX4) (T := TX4) (N := 12) hx hb hts hiX4 hown hK hP 0 rfl rfl 8 (by decide) hk2 (fun _ h9 => h9) rfl dX4_type_46 ?_
          refine lv_iload_n hx hb dX4_type_49 rfl (lv_at hl 1 rfl) ?_
          refine ct_iast hx hb hK hP hD hS 2 0 (k := tc) (x := x) rfl rfl (by omega) (by omega) dX4_type_50 (fun H locs hP hD hS => ?_)
          have hP : va_P D vwCl [(hm, .inr (4, [.int 0, .int (nI a), .ref gB, .int (nI nw), .int (nI ol), .int (b2i O), .int lf, .int us, .int (nI tc), .ref gT, .ref gZ, .int bd])), (gB, .inl (cI, 5760, .inl f)), (gT, .inl (cI, 32, .inl (upd t tc x))), (gZ, .inl (cZ, 120, .inl z))] _ := hP
          have hD : va_D A [(hm, .inr (4, [.int 0, .int (nI a), .ref gB, .int (nI nw), .int (nI ol), .int (b2i O), .int lf, .int us, .int (nI tc), .ref gT, .ref gZ, .int bd])), (gB, .inl (cI, 5760, .inl f)), (gT, .inl (cI, 32, .inl (upd t tc x))), (gZ, .inl (cZ, 120, .inl z))] := hD
          refine lv_aload_n hx hb dX4_type_51 rfl (lv_at hl 0 rfl) ?_
          refine lv_dup hx hb dX4_type_52 rfl ?_
          refine va_get (D := D) (cl := vwCl) (ci := 4) (v := .int (nI tc)) (C := RX4) (T := TX4) (N := 12) hx hb hts hiX4 hown hK hP 0 rfl rfl 8 (by decide) hk2 (fun _ h9 => h9) rfl dX4_type_53 ?_
          refine lv_iconst (v := 1) hx hb dX4_type_56 (by decide) ?_
          refine lv_iadd hx hb dX4_type_57 ?_
          refine ct_top (y := nI (tc + 1)) (nI_add tc 1) ?_
          refine va_put (D := D) (cl := vwCl) (ci := 4) (v := .int (nI (tc + 1))) (ty := .int) (C := RX4) (T := TX4) (N := 12) hx hb hts hiX4 tyX4 tyX4_ok nmX4 hown hK hP hD hS 0 rfl rfl 8 (by decide) hk2 (fun _ h9 => h9) rfl (by decide +kernel) rfl rfl (Nat.le_of_ble_eq_true rfl) dX4_type_58 (fun H locs hP hD hS => ?_)
          have hP : va_P D vwCl [(hm, .inr (4, [.int 0, .int (nI a), .ref gB, .int (nI nw), .int (nI ol), .int (b2i O), .int lf, .int us, .int (nI (tc + 1)), .ref gT, .ref gZ, .int bd])), (gB, .inl (cI, 5760, .inl f)), (gT, .inl (cI, 32, .inl (upd t tc x))), (gZ, .inl (cZ, 120, .inl z))] _ := hP
          have hD : va_D A [(hm, .inr (4, [.int 0, .int (nI a), .ref gB, .int (nI nw), .int (nI ol), .int (b2i O), .int lf, .int us, .int (nI (tc + 1)), .ref gT, .ref gZ, .int bd])), (gB, .inl (cI, 5760, .inl f)), (gT, .inl (cI, 32, .inl (upd t tc x))), (gZ, .inl (cZ, 120, .inl z))] := hD
          refine lv_aload_n hx hb dX4_type_61 rfl (lv_at hl 0 rfl) ?_
          refine va_get (D := D) (cl := vwCl) (ci := 4) (v := .int (nI (tc + 1))) (C := RX4) (T := TX4) (N := 12) hx hb hts hiX4 hown hK hP 0 rfl rfl 8 (by decide) hk2 (fun _ h9 => h9) rfl dX4_type_62 ?_
          have e9 : sp_type O x tc t = (nI (tc + 1), upd t tc x, tc + 1) := by unfold sp_type; rw [ifp_f (b2i_0.mp c9), ifp_f (fun h => h.elim c16 (Int32.not_lt.mpr c23)), ifp_f (by omega)]
          exact ct_iret hx hb hr hlocks (by rw [e9]) (by rw [e9]) hP hD hS dX4_type_65
        · skip
          have c35 : tc = 32 := (nI_eq (a := tc) (b := 32) (by omega) (by omega)).mp c35
          refine lv_bipush (v := (-6)) hx hb dX4_type_38 (by decide) ?_
          have e9 : sp_type O x tc t = ((-6), t, tc) := by unfold sp_type; rw [ifp_f (b2i_0.mp c9), ifp_f (fun h => h.elim c16 (Int32.not_lt.mpr c23)), ifp_t (Nat.le_of_eq c35.symm)]
          exact ct_iret hx hb hr hlocks (by rw [e9]) (by rw [e9]) hP hD hS dX4_type_40
      · skip
        refine lv_bipush (v := (-2)) hx hb dX4_type_26 (by decide) ?_
        have e9 : sp_type O x tc t = ((-2), t, tc) := by unfold sp_type; rw [ifp_f (b2i_0.mp c9), ifp_t (Or.inr (Int32.not_le.mp c23))]
        exact ct_iret hx hb hr hlocks (by rw [e9]) (by rw [e9]) hP hD hS dX4_type_28
  · skip
    refine lv_bipush (v := (-5)) hx hb dX4_type_12 (by decide) ?_
    have e9 : sp_type O x tc t = ((-5), t, tc) := by unfold sp_type; rw [ifp_t (b2i_n0 c9)]
    exact ct_iret hx hb hr hlocks (by rw [e9]) (by rw [e9]) hP hD hS dX4_type_14
set_option maxHeartbeats 4000000 in
set_option maxRecDepth 100000 in
theorem c_X4_thingOf (l : Launch) (D : va_G) (cI cZ : ClassId) (hm gB gT gZ a tc nw ol : Nat) (f t z : Nat → Int32) (O : Prop) (lf us bd : Int32) (x y : Int32) (ha : a ≤ 120) (h12 : 12 ≤ a) (htc : tc ≤ 32) (hnw : nw ≤ 1000000) (hol : ol ≤ nw + 1) : CtI l yX4_thingOf wsX4_thingOf ({ frames := 4, cells := 0, slots := 0, locals := 92 }) D vwCl (ct_T cI cZ) [.ref hm, .int x, .int y] [(hm, .inr (4, [.int 0, .int (nI a), .ref gB, .int (nI nw), .int (nI ol), .int (b2i O), .int lf, .int us, .int (nI tc), .ref gT, .ref gZ, .int bd])), (gB, .inl (cI, 5760, .inl f)), (gT, .inl (cI, 32, .inl t)), (gZ, .inl (cZ, 120, .inl z))] [(hm, .inr (4, [.int 0, .int (nI a), .ref gB, .int (nI nw), .int (nI ol), .int (b2i O), .int lf, .int us, .int (nI tc), .ref gT, .ref gZ, .int bd])), (gB, .inl (cI, 5760, .inl f)), (gT, .inl (cI, 32, .inl t)), (gZ, .inl (cZ, 120, .inl z))] (lku O f a ol nw x y) := by
  refine ct_of (Qf := ct_Qi D vwCl [(hm, .inr (4, [.int 0, .int (nI a), .ref gB, .int (nI nw), .int (nI ol), .int (b2i O), .int lf, .int us, .int (nI tc), .ref gT, .ref gZ, .int bd])), (gB, .inl (cI, 5760, .inl f)), (gT, .inl (cI, 32, .inl t)), (gZ, .inl (cZ, 120, .inl z))] (lku O f a ol nw x y)) (cc := cX4_thingOf) (maxL := 5) (ret := (some .int)) [(0, .ref hm), (1, .int x), (2, .int y)] (by decide) rfl (Nat.le_of_ble_eq_true rfl) rfl ?_
  intro p e s m below meth c hx hb hr hts hown hlocks hml hnm A hA hK hN hP hD hS ls hl
  have hown : s.vm.findClass RX4 = some m.cls := hown
  have hk0 := hts (.fieldLink RX4 83 "DesignPagesModel" "down" "Z") (by decide +kernel)
  have hiX4 : ∀ w ∈ wsX40, w ∈ wsX4_thingOf := by decide +kernel
  refine lv_aload_n hx hb dX4_thingOf_0 rfl (lv_at hl 0 rfl) ?_
  refine va_get (D := D) (cl := vwCl) (ci := 4) (v := .int (b2i O)) (C := RX4) (T := TX4) (N := 12) hx hb hts hiX4 hown hK hP 0 rfl rfl 5 (by decide) hk0 (fun _ h9 => h9) rfl dX4_thingOf_1 ?_
  refine lv_if_eq (tgt := 10) hx hb dX4_thingOf_4 (by decide) (fun c4 => ?_) (fun c4 => ?_)
  · skip
    refine lv_aload_n hx hb dX4_thingOf_10 rfl (lv_at hl 0 rfl) ?_
    refine lv_iload_n hx hb dX4_thingOf_11 rfl (lv_at hl 1 rfl) ?_
    refine ct_calli (w := [(hm, .inr (4, [.int 0, .int (nI a), .ref gB, .int (nI nw), .int (nI ol), .int (b2i O), .int lf, .int us, .int (nI tc), .ref gT, .ref gZ, .int bd])), (gB, .inl (cI, 5760, .inl f)), (gT, .inl (cI, 32, .inl t)), (gZ, .inl (cZ, 120, .inl z))]) (w' := [(hm, .inr (4, [.int 0, .int (nI a), .ref gB, .int (nI nw), .int (nI ol), .int (b2i O), .int lf, .int us, .int (nI tc), .ref gT, .ref gZ, .int bd])), (gB, .inl (cI, 5760, .inl f)), (gT, .inl (cI, 32, .inl t)), (gZ, .inl (cZ, 120, .inl z))]) (va_runV (As := [.int x]) (rest := []) ⟨hx, hb, hml, hown, hts⟩ (c_X4_isKept l D cI cZ hm gB gT gZ a tc nw ol f t z O lf us bd x (by omega) (by omega) (by omega) (by omega) (by omega)  _) (cwV 1 hts gX4_thingOf_X4_isKept rfl rfl rfl (by decide +kernel) ⟨Nat.le_of_ble_eq_true rfl, Nat.le_of_ble_eq_true rfl⟩) (ct_preV (w := [(hm, .inr (4, [.int 0, .int (nI a), .ref gB, .int (nI nw), .int (nI ol), .int (b2i O), .int lf, .int us, .int (nI tc), .ref gT, .ref gZ, .int bd])), (gB, .inl (cI, 5760, .inl f)), (gT, .inl (cI, 32, .inl t)), (gZ, .inl (cZ, 120, .inl z))]) (ci := 4) (i0 := 0) hK hN hP hD [0, 1, 2, 3] (by decide) rfl rfl rfl) rfl rfl hl.1 rfl (lv_room (Nat.le_of_ble_eq_true rfl)) dX4_thingOf_12 ⟨Nat.le_of_ble_eq_true rfl, Nat.le_of_ble_eq_true rfl⟩) hP hD hS hA [0, 1, 2, 3] rfl [hm, gB, gT, gZ] rfl rfl (fun H locs hP hD hS => ?_)
    have hP : va_P D vwCl [(hm, .inr (4, [.int 0, .int (nI a), .ref gB, .int (nI nw), .int (nI ol), .int (b2i O), .int lf, .int us, .int (nI tc), .ref gT, .ref gZ, .int bd])), (gB, .inl (cI, 5760, .inl f)), (gT, .inl (cI, 32, .inl t)), (gZ, .inl (cZ, 120, .inl z))] _ := hP
    have hD : va_D A [(hm, .inr (4, [.int 0, .int (nI a), .ref gB, .int (nI nw), .int (nI ol), .int (b2i O), .int lf, .int us, .int (nI tc), .ref gT, .ref gZ, .int bd])), (gB, .inl (cI, 5760, .inl f)), (gT, .inl (cI, 32, .inl t)), (gZ, .inl (cZ, 120, .inl z))] := hD
    refine lv_if_eq (tgt := 25) hx hb dX4_thingOf_15 (by decide) (fun c15 => ?_) (fun c15 => ?_)
    · skip
      refine lv_bipush (v := (-2)) hx hb dX4_thingOf_25 (by decide) ?_
      exact ct_iret hx hb hr hlocks (by unfold lku; rw [ifp_f (b2i_0.mp c4), ifp_f (fun h => b2i_0.mp c15 h.1)]) (rfl) hP hD hS dX4_thingOf_27
    · skip
      refine lv_iload_n hx hb dX4_thingOf_18 rfl (lv_at hl 2 rfl) ?_
      refine ct_calli (w := []) (w' := []) (va_runS (As := [.int y]) (rest := []) ⟨hx, hb, hml, hown, hts⟩ (c_X4_isKey l D cI cZ y _) (va_cwS 1 hts gX4_thingOf_X4_isKey rfl rfl rfl (by decide +kernel) ⟨Nat.le_of_ble_eq_true rfl, Nat.le_of_ble_eq_true rfl⟩) (ct_preS (w := []) hK hN hP hD [] (by decide) rfl) rfl rfl hl.1 rfl (lv_room (Nat.le_of_ble_eq_true rfl)) dX4_thingOf_19 ⟨Nat.le_of_ble_eq_true rfl, Nat.le_of_ble_eq_true rfl⟩) hP hD hS hA [] rfl [] rfl rfl (fun H locs hP hD hS => ?_)
      have hP : va_P D vwCl [(hm, .inr (4, [.int 0, .int (nI a), .ref gB, .int (nI nw), .int (nI ol), .int (b2i O), .int lf, .int us, .int (nI tc), .ref gT, .ref gZ, .int bd])), (gB, .inl (cI, 5760, .inl f)), (gT, .inl (cI, 32, .inl t)), (gZ, .inl (cZ, 120, .inl z))] _ := hP
      have hD : va_D A [(hm, .inr (4, [.int 0, .int (nI a), .ref gB, .int (nI nw), .int (nI ol), .int (b2i O), .int lf, .int us, .int (nI tc), .ref gT, .ref gZ, .int bd])), (gB, .inl (cI, 5760, .inl f)), (gT, .inl (cI, 32, .inl t)), (gZ, .inl (cZ, 120, .inl z))] := hD
      refine lv_if_ne (tgt := 28) hx hb dX4_thingOf_22 (by decide) (fun c22 => ?_) (fun c22 => ?_)
      · skip
        have e1 := b2i_0.mp c4
        have e2 := b2i_n0 c15
        have e3 := b2i_n0 c22
        obtain ⟨v, hv1, hv2, rfl⟩ := kp_nat e2 (by omega) (by omega)
        obtain ⟨k, hk1, rfl⟩ := ky_nat e3
        have e4 : lku O f a ol nw (nI v) (nI k) = ptg f a v k := by unfold lku; rw [ifp_f e1, ifp_t ⟨e2, e3⟩, nv_nI (by omega), nv_nI (by omega)]
        refine lv_aload_n hx hb dX4_thingOf_28 rfl (lv_at hl 0 rfl) ?_
        refine lv_iload_n hx hb dX4_thingOf_29 rfl (lv_at hl 1 rfl) ?_
        refine lv_bipush (v := 8) hx hb dX4_thingOf_30 (by decide) ?_
        refine lv_irem hx hb dX4_thingOf_32 (by decide) ?_
        refine ct_top (y := nI (v % 8)) (pk_rem (by omega) (by decide) (by decide)) ?_
        refine lv_iconst (v := 1) hx hb dX4_thingOf_33 (by decide) ?_
        refine ct_calli (w := [(hm, .inr (4, [.int 0, .int (nI a), .ref gB, .int (nI nw), .int (nI ol), .int (b2i O), .int lf, .int us, .int (nI tc), .ref gT, .ref gZ, .int bd])), (gB, .inl (cI, 5760, .inl f)), (gT, .inl (cI, 32, .inl t)), (gZ, .inl (cZ, 120, .inl z))]) (w' := [(hm, .inr (4, [.int 0, .int (nI a), .ref gB, .int (nI nw), .int (nI ol), .int (b2i O), .int lf, .int us, .int (nI tc), .ref gT, .ref gZ, .int bd])), (gB, .inl (cI, 5760, .inl f)), (gT, .inl (cI, 32, .inl t)), (gZ, .inl (cZ, 120, .inl z))]) (va_runV (As := [.int (nI (v % 8)), .int 1]) (rest := []) ⟨hx, hb, hml, hown, hts⟩ (c_X4_isRight l D cI cZ hm gB gT gZ a tc nw ol f t z O lf us bd (v % 8) 1 (by omega) (by omega) (by omega) (by omega) (by omega) (by omega) (Or.inl rfl) _) (cwV 2 hts gX4_thingOf_X4_isRight rfl rfl rfl (by decide +kernel) ⟨Nat.le_of_ble_eq_true rfl, Nat.le_of_ble_eq_true rfl⟩) (ct_preV (w := [(hm, .inr (4, [.int 0, .int (nI a), .ref gB, .int (nI nw), .int (nI ol), .int (b2i O), .int lf, .int us, .int (nI tc), .ref gT, .ref gZ, .int bd])), (gB, .inl (cI, 5760, .inl f)), (gT, .inl (cI, 32, .inl t)), (gZ, .inl (cZ, 120, .inl z))]) (ci := 4) (i0 := 0) hK hN hP hD [0, 1, 2, 3] (by decide) rfl rfl rfl) rfl rfl hl.1 rfl (lv_room (Nat.le_of_ble_eq_true rfl)) dX4_thingOf_34 ⟨Nat.le_of_ble_eq_true rfl, Nat.le_of_ble_eq_true rfl⟩) hP hD hS hA [0, 1, 2, 3] rfl [hm, gB, gT, gZ] rfl rfl (fun H locs hP hD hS => ?_)
        have hP : va_P D vwCl [(hm, .inr (4, [.int 0, .int (nI a), .ref gB, .int (nI nw), .int (nI ol), .int (b2i O), .int lf, .int us, .int (nI tc), .ref gT, .ref gZ, .int bd])), (gB, .inl (cI, 5760, .inl f)), (gT, .inl (cI, 32, .inl t)), (gZ, .inl (cZ, 120, .inl z))] _ := hP
        have hD : va_D A [(hm, .inr (4, [.int 0, .int (nI a), .ref gB, .int (nI nw), .int (nI ol), .int (b2i O), .int lf, .int us, .int (nI tc), .ref gT, .ref gZ, .int bd])), (gB, .inl (cI, 5760, .inl f)), (gT, .inl (cI, 32, .inl t)), (gZ, .inl (cZ, 120, .inl z))] := hD
        refine lv_if_ne (tgt := 43) hx hb dX4_thingOf_37 (by decide) (fun c37 => ?_) (fun c37 => ?_)
        · skip
          refine lv_aload_n hx hb dX4_thingOf_43 rfl (lv_at hl 0 rfl) ?_
          refine lv_iload_n hx hb dX4_thingOf_44 rfl (lv_at hl 1 rfl) ?_
          refine lv_iload_n hx hb dX4_thingOf_45 rfl (lv_at hl 2 rfl) ?_
          refine lv_bipush (v := 32) hx hb dX4_thingOf_46 (by decide) ?_
          refine lv_idiv hx hb dX4_thingOf_48 (by decide) ?_
          refine ct_top (y := nI (k / 32)) (pk_div (by omega) (by decide) (by decide)) ?_
          refine ct_calli (w := [(hm, .inr (4, [.int 0, .int (nI a), .ref gB, .int (nI nw), .int (nI ol), .int (b2i O), .int lf, .int us, .int (nI tc), .ref gT, .ref gZ, .int bd])), (gB, .inl (cI, 5760, .inl f)), (gT, .inl (cI, 32, .inl t)), (gZ, .inl (cZ, 120, .inl z))]) (w' := [(hm, .inr (4, [.int 0, .int (nI a), .ref gB, .int (nI nw), .int (nI ol), .int (b2i O), .int lf, .int us, .int (nI tc), .ref gT, .ref gZ, .int bd])), (gB, .inl (cI, 5760, .inl f)), (gT, .inl (cI, 32, .inl t)), (gZ, .inl (cZ, 120, .inl z))]) (va_runV (As := [.int (nI v), .int (nI (k / 32))]) (rest := []) ⟨hx, hb, hml, hown, hts⟩ (c_X4_nodeOf l D cI cZ hm gB gT gZ a tc nw ol f t z O lf us bd v (k / 32) (by omega) (by omega) (by omega) (by omega) (by omega) (by omega) (by omega) _) (cwV 2 hts gX4_thingOf_X4_nodeOf rfl rfl rfl (by decide +kernel) ⟨Nat.le_of_ble_eq_true rfl, Nat.le_of_ble_eq_true rfl⟩) (ct_preV (w := [(hm, .inr (4, [.int 0, .int (nI a), .ref gB, .int (nI nw), .int (nI ol), .int (b2i O), .int lf, .int us, .int (nI tc), .ref gT, .ref gZ, .int bd])), (gB, .inl (cI, 5760, .inl f)), (gT, .inl (cI, 32, .inl t)), (gZ, .inl (cZ, 120, .inl z))]) (ci := 4) (i0 := 0) hK hN hP hD [0, 1, 2, 3] (by decide) rfl rfl rfl) rfl rfl hl.1 rfl (lv_room (Nat.le_of_ble_eq_true rfl)) dX4_thingOf_49 ⟨Nat.le_of_ble_eq_true rfl, Nat.le_of_ble_eq_true rfl⟩) hP hD hS hA [0, 1, 2, 3] rfl [hm, gB, gT, gZ] rfl rfl (fun H locs hP hD hS => ?_)
          have hP : va_P D vwCl [(hm, .inr (4, [.int 0, .int (nI a), .ref gB, .int (nI nw), .int (nI ol), .int (b2i O), .int lf, .int us, .int (nI tc), .ref gT, .ref gZ, .int bd])), (gB, .inl (cI, 5760, .inl f)), (gT, .inl (cI, 32, .inl t)), (gZ, .inl (cZ, 120, .inl z))] _ := hP
          have hD : va_D A [(hm, .inr (4, [.int 0, .int (nI a), .ref gB, .int (nI nw), .int (nI ol), .int (b2i O), .int lf, .int us, .int (nI tc), .ref gT, .ref gZ, .int bd])), (gB, .inl (cI, 5760, .inl f)), (gT, .inl (cI, 32, .inl t)), (gZ, .inl (cZ, 120, .inl z))] := hD
          have hn1 := rt_nv (i := k / 32) (b2i_n0 c37) ha (by omega) (by omega)
          have hn2 := hn1.2.1
          refine ct_top (y := nI (nv (f (v % 8 * 48 + (9 + k / 32))))) (hn1.1) ?_
          refine lv_istore_n (lv' := [(3, .int (nI (nv (f (v % 8 * 48 + (9 + k / 32)))))), (0, .ref hm), (1, .int (nI v)), (2, .int (nI k))]) hx hb dX4_thingOf_52 rfl hl (by decide) rfl (fun ls hl => ?_)
          refine lv_iload_n hx hb dX4_thingOf_53 rfl (lv_at hl 0 rfl) ?_
          refine lv_if_ne (tgt := 59) hx hb dX4_thingOf_54 (by decide) (fun c54 => ?_) (fun c54 => ?_)
          · skip
            have c54 : ¬ (nv (f (v % 8 * 48 + (9 + k / 32)))) = 0 := fun h => c54 ((nI_eq (a := (nv (f (v % 8 * 48 + (9 + k / 32))))) (b := 0) (by omega) (by omega)).mpr h)
            refine lv_aload_n hx hb dX4_thingOf_59 rfl (lv_at hl 1 rfl) ?_
            refine lv_iload_n hx hb dX4_thingOf_60 rfl (lv_at hl 0 rfl) ?_
            refine lv_iconst (v := 2) hx hb dX4_thingOf_61 (by decide) ?_
            refine ct_calli (w := [(hm, .inr (4, [.int 0, .int (nI a), .ref gB, .int (nI nw), .int (nI ol), .int (b2i O), .int lf, .int us, .int (nI tc), .ref gT, .ref gZ, .int bd])), (gB, .inl (cI, 5760, .inl f)), (gT, .inl (cI, 32, .inl t)), (gZ, .inl (cZ, 120, .inl z))]) (w' := [(hm, .inr (4, [.int 0, .int (nI a), .ref gB, .int (nI nw), .int (nI ol), .int (b2i O), .int lf, .int us, .int (nI tc), .ref gT, .ref gZ, .int bd])), (gB, .inl (cI, 5760, .inl f)), (gT, .inl (cI, 32, .inl t)), (gZ, .inl (cZ, 120, .inl z))]) (va_runV (As := [.int (nI (nv (f (v % 8 * 48 + (9 + k / 32))))), .int 2]) (rest := []) ⟨hx, hb, hml, hown, hts⟩ (c_X4_isRight l D cI cZ hm gB gT gZ a tc nw ol f t z O lf us bd (nv (f (v % 8 * 48 + (9 + k / 32)))) 2 (by omega) (by omega) (by omega) (by omega) (by omega) (by omega) (Or.inr (Or.inl rfl)) _) (cwV 2 hts gX4_thingOf_X4_isRight rfl rfl rfl (by decide +kernel) ⟨Nat.le_of_ble_eq_true rfl, Nat.le_of_ble_eq_true rfl⟩) (ct_preV (w := [(hm, .inr (4, [.int 0, .int (nI a), .ref gB, .int (nI nw), .int (nI ol), .int (b2i O), .int lf, .int us, .int (nI tc), .ref gT, .ref gZ, .int bd])), (gB, .inl (cI, 5760, .inl f)), (gT, .inl (cI, 32, .inl t)), (gZ, .inl (cZ, 120, .inl z))]) (ci := 4) (i0 := 0) hK hN hP hD [0, 1, 2, 3] (by decide) rfl rfl rfl) rfl rfl hl.1 rfl (lv_room (Nat.le_of_ble_eq_true rfl)) dX4_thingOf_62 ⟨Nat.le_of_ble_eq_true rfl, Nat.le_of_ble_eq_true rfl⟩) hP hD hS hA [0, 1, 2, 3] rfl [hm, gB, gT, gZ] rfl rfl (fun H locs hP hD hS => ?_)
            have hP : va_P D vwCl [(hm, .inr (4, [.int 0, .int (nI a), .ref gB, .int (nI nw), .int (nI ol), .int (b2i O), .int lf, .int us, .int (nI tc), .ref gT, .ref gZ, .int bd])), (gB, .inl (cI, 5760, .inl f)), (gT, .inl (cI, 32, .inl t)), (gZ, .inl (cZ, 120, .inl z))] _ := hP
            have hD : va_D A [(hm, .inr (4, [.int 0, .int (nI a), .ref gB, .int (nI nw), .int (nI ol), .int (b2i O), .int lf, .int us, .int (nI tc), .ref gT, .ref gZ, .int bd])), (gB, .inl (cI, 5760, .inl f)), (gT, .inl (cI, 32, .inl t)), (gZ, .inl (cZ, 120, .inl z))] := hD
            refine lv_if_ne (tgt := 71) hx hb dX4_thingOf_65 (by decide) (fun c65 => ?_) (fun c65 => ?_)
            · skip
              refine lv_aload_n hx hb dX4_thingOf_71 rfl (lv_at hl 1 rfl) ?_
              refine lv_iload_n hx hb dX4_thingOf_72 rfl (lv_at hl 0 rfl) ?_
              refine lv_iconst (v := 2) hx hb dX4_thingOf_73 (by decide) ?_
              refine lv_iload_n hx hb dX4_thingOf_74 rfl (lv_at hl 3 rfl) ?_
              refine lv_bipush (v := 32) hx hb dX4_thingOf_75 (by decide) ?_
              refine lv_irem hx hb dX4_thingOf_77 (by decide) ?_
              refine ct_top (y := nI (k % 32)) (pk_rem (by omega) (by decide) (by decide)) ?_
              refine lv_iadd hx hb dX4_thingOf_78 ?_
              refine ct_top (y := nI (2 + (k % 32))) (nI_add 2 (k % 32)) ?_
              refine ct_calli (w := [(hm, .inr (4, [.int 0, .int (nI a), .ref gB, .int (nI nw), .int (nI ol), .int (b2i O), .int lf, .int us, .int (nI tc), .ref gT, .ref gZ, .int bd])), (gB, .inl (cI, 5760, .inl f)), (gT, .inl (cI, 32, .inl t)), (gZ, .inl (cZ, 120, .inl z))]) (w' := [(hm, .inr (4, [.int 0, .int (nI a), .ref gB, .int (nI nw), .int (nI ol), .int (b2i O), .int lf, .int us, .int (nI tc), .ref gT, .ref gZ, .int bd])), (gB, .inl (cI, 5760, .inl f)), (gT, .inl (cI, 32, .inl t)), (gZ, .inl (cZ, 120, .inl z))]) (va_runV (As := [.int (nI (nv (f (v % 8 * 48 + (9 + k / 32))))), .int (nI (2 + (k % 32)))]) (rest := []) ⟨hx, hb, hml, hown, hts⟩ (c_X4_at l D cI cZ hm gB gT gZ a tc nw ol f t z O lf us bd (nv (f (v % 8 * 48 + (9 + k / 32)))) (2 + (k % 32)) (by omega) (by omega) (by omega) (by omega) (by omega) (by omega) (by omega) _) (cwV 2 hts gX4_thingOf_X4_at rfl rfl rfl (by decide +kernel) ⟨Nat.le_of_ble_eq_true rfl, Nat.le_of_ble_eq_true rfl⟩) (ct_preV (w := [(hm, .inr (4, [.int 0, .int (nI a), .ref gB, .int (nI nw), .int (nI ol), .int (b2i O), .int lf, .int us, .int (nI tc), .ref gT, .ref gZ, .int bd])), (gB, .inl (cI, 5760, .inl f)), (gT, .inl (cI, 32, .inl t)), (gZ, .inl (cZ, 120, .inl z))]) (ci := 4) (i0 := 0) hK hN hP hD [0, 1, 2, 3] (by decide) rfl rfl rfl) rfl rfl hl.1 rfl (lv_room (Nat.le_of_ble_eq_true rfl)) dX4_thingOf_79 ⟨Nat.le_of_ble_eq_true rfl, Nat.le_of_ble_eq_true rfl⟩) hP hD hS hA [0, 1, 2, 3] rfl [hm, gB, gT, gZ] rfl rfl (fun H locs hP hD hS => ?_)
              have hP : va_P D vwCl [(hm, .inr (4, [.int 0, .int (nI a), .ref gB, .int (nI nw), .int (nI ol), .int (b2i O), .int lf, .int us, .int (nI tc), .ref gT, .ref gZ, .int bd])), (gB, .inl (cI, 5760, .inl f)), (gT, .inl (cI, 32, .inl t)), (gZ, .inl (cZ, 120, .inl z))] _ := hP
              have hD : va_D A [(hm, .inr (4, [.int 0, .int (nI a), .ref gB, .int (nI nw), .int (nI ol), .int (b2i O), .int lf, .int us, .int (nI tc), .ref gT, .ref gZ, .int bd])), (gB, .inl (cI, 5760, .inl f)), (gT, .inl (cI, 32, .inl t)), (gZ, .inl (cZ, 120, .inl z))] := hD
              have hn3 := nd_nv (i := k % 32) (b2i_n0 c65) ha (by omega) (by omega)
              have hn4 := hn3.2.1
              refine ct_top (y := nI (nv (f (nv (f (v % 8 * 48 + (9 + k / 32))) * 48 + (2 + k % 32))))) (hn3.1) ?_
              refine lv_istore (lv' := [(4, .int (nI (nv (f (nv (f (v % 8 * 48 + (9 + k / 32))) * 48 + (2 + k % 32)))))), (3, .int (nI (nv (f (v % 8 * 48 + (9 + k / 32)))))), (0, .ref hm), (1, .int (nI v)), (2, .int (nI k))]) hx hb dX4_thingOf_82 hl (by decide) rfl (fun ls hl => ?_)
              refine lv_iload hx hb dX4_thingOf_84 (lv_at hl 0 rfl) ?_
              refine lv_if_ne (tgt := 93) hx hb dX4_thingOf_86 (by decide) (fun c86 => ?_) (fun c86 => ?_)
              · skip
                have c86 : ¬ (nv (f (nv (f (v % 8 * 48 + (9 + k / 32))) * 48 + (2 + k % 32)))) = 0 := fun h => c86 ((nI_eq (a := (nv (f (nv (f (v % 8 * 48 + (9 + k / 32))) * 48 + (2 + k % 32))))) (b := 0) (by omega) (by omega)).mpr h)
                refine lv_aload_n hx hb dX4_thingOf_93 rfl (lv_at hl 2 rfl) ?_
                refine lv_iload hx hb dX4_thingOf_94 (lv_at hl 0 rfl) ?_
                refine lv_iconst (v := 3) hx hb dX4_thingOf_96 (by decide) ?_
                refine ct_calli (w := [(hm, .inr (4, [.int 0, .int (nI a), .ref gB, .int (nI nw), .int (nI ol), .int (b2i O), .int lf, .int us, .int (nI tc), .ref gT, .ref gZ, .int bd])), (gB, .inl (cI, 5760, .inl f)), (gT, .inl (cI, 32, .inl t)), (gZ, .inl (cZ, 120, .inl z))]) (w' := [(hm, .inr (4, [.int 0, .int (nI a), .ref gB, .int (nI nw), .int (nI ol), .int (b2i O), .int lf, .int us, .int (nI tc), .ref gT, .ref gZ, .int bd])), (gB, .inl (cI, 5760, .inl f)), (gT, .inl (cI, 32, .inl t)), (gZ, .inl (cZ, 120, .inl z))]) (va_runV (As := [.int (nI (nv (f (nv (f (v % 8 * 48 + (9 + k / 32))) * 48 + (2 + k % 32))))), .int 3]) (rest := []) ⟨hx, hb, hml, hown, hts⟩ (c_X4_isRight l D cI cZ hm gB gT gZ a tc nw ol f t z O lf us bd (nv (f (nv (f (v % 8 * 48 + (9 + k / 32))) * 48 + (2 + k % 32)))) 3 (by omega) (by omega) (by omega) (by omega) (by omega) (by omega) (Or.inr (Or.inr rfl)) _) (cwV 2 hts gX4_thingOf_X4_isRight rfl rfl rfl (by decide +kernel) ⟨Nat.le_of_ble_eq_true rfl, Nat.le_of_ble_eq_true rfl⟩) (ct_preV (w := [(hm, .inr (4, [.int 0, .int (nI a), .ref gB, .int (nI nw), .int (nI ol), .int (b2i O), .int lf, .int us, .int (nI tc), .ref gT, .ref gZ, .int bd])), (gB, .inl (cI, 5760, .inl f)), (gT, .inl (cI, 32, .inl t)), (gZ, .inl (cZ, 120, .inl z))]) (ci := 4) (i0 := 0) hK hN hP hD [0, 1, 2, 3] (by decide) rfl rfl rfl) rfl rfl hl.1 rfl (lv_room (Nat.le_of_ble_eq_true rfl)) dX4_thingOf_97 ⟨Nat.le_of_ble_eq_true rfl, Nat.le_of_ble_eq_true rfl⟩) hP hD hS hA [0, 1, 2, 3] rfl [hm, gB, gT, gZ] rfl rfl (fun H locs hP hD hS => ?_)
                have hP : va_P D vwCl [(hm, .inr (4, [.int 0, .int (nI a), .ref gB, .int (nI nw), .int (nI ol), .int (b2i O), .int lf, .int us, .int (nI tc), .ref gT, .ref gZ, .int bd])), (gB, .inl (cI, 5760, .inl f)), (gT, .inl (cI, 32, .inl t)), (gZ, .inl (cZ, 120, .inl z))] _ := hP
                have hD : va_D A [(hm, .inr (4, [.int 0, .int (nI a), .ref gB, .int (nI nw), .int (nI ol), .int (b2i O), .int lf, .int us, .int (nI tc), .ref gT, .ref gZ, .int bd])), (gB, .inl (cI, 5760, .inl f)), (gT, .inl (cI, 32, .inl t)), (gZ, .inl (cZ, 120, .inl z))] := hD
                refine lv_if_eq (tgt := 108) hx hb dX4_thingOf_100 (by decide) (fun c100 => ?_) (fun c100 => ?_)
                · skip
                  refine lv_bipush (v := (-4)) hx hb dX4_thingOf_108 (by decide) ?_
                  exact ct_iret hx hb hr hlocks (by rw [e4]; unfold ptg; rw [ifp_t (b2i_n0 c37), ifp_f (fun h => c54 ((nv_0 hn1.1).mpr h)), ifp_t (b2i_n0 c65), ifp_f (fun h => c86 ((nv_0 hn3.1).mpr h)), ifp_f (b2i_0.mp c100)]) (rfl) hP hD hS dX4_thingOf_110
                · skip
                  refine lv_iload hx hb dX4_thingOf_103 (lv_at hl 0 rfl) ?_
                  refine lv_goto (tgt := 110) hx hb dX4_thingOf_105 (by decide) ?_
                  exact ct_iret hx hb hr hlocks (by rw [e4]; unfold ptg; rw [ifp_t (b2i_n0 c37), ifp_f (fun h => c54 ((nv_0 hn1.1).mpr h)), ifp_t (b2i_n0 c65), ifp_f (fun h => c86 ((nv_0 hn3.1).mpr h)), ifp_t (b2i_n0 c100)]; exact hn3.1.symm) (rfl) hP hD hS dX4_thingOf_110
              · skip
                have c86 : (nv (f (nv (f (v % 8 * 48 + (9 + k / 32))) * 48 + (2 + k % 32)))) = 0 := (nI_eq (a := (nv (f (nv (f (v % 8 * 48 + (9 + k / 32))) * 48 + (2 + k % 32))))) (b := 0) (by omega) (by omega)).mp c86
                refine lv_iconst (v := (-1)) hx hb dX4_thingOf_89 (by decide) ?_
                refine lv_goto (tgt := 110) hx hb dX4_thingOf_90 (by decide) ?_
                exact ct_iret hx hb hr hlocks (by rw [e4]; unfold ptg; rw [ifp_t (b2i_n0 c37), ifp_f (fun h => c54 ((nv_0 hn1.1).mpr h)), ifp_t (b2i_n0 c65), ifp_t ((nv_0 hn3.1).mp c86)]) (rfl) hP hD hS dX4_thingOf_110
            · skip
              refine lv_bipush (v := (-4)) hx hb dX4_thingOf_68 (by decide) ?_
              exact ct_iret hx hb hr hlocks (by rw [e4]; unfold ptg; rw [ifp_t (b2i_n0 c37), ifp_f (fun h => c54 ((nv_0 hn1.1).mpr h)), ifp_f (b2i_0.mp c65)]) (rfl) hP hD hS dX4_thingOf_70
          · skip
            have c54 : (nv (f (v % 8 * 48 + (9 + k / 32)))) = 0 := (nI_eq (a := (nv (f (v % 8 * 48 + (9 + k / 32))))) (b := 0) (by omega) (by omega)).mp c54
            refine lv_iconst (v := (-1)) hx hb dX4_thingOf_57 (by decide) ?_
            exact ct_iret hx hb hr hlocks (by rw [e4]; unfold ptg; rw [ifp_t (b2i_n0 c37), ifp_t ((nv_0 hn1.1).mp c54)]) (rfl) hP hD hS dX4_thingOf_58
        · skip
          refine lv_bipush (v := (-4)) hx hb dX4_thingOf_40 (by decide) ?_
          exact ct_iret hx hb hr hlocks (by rw [e4]; unfold ptg; rw [ifp_f (b2i_0.mp c37)]) (rfl) hP hD hS dX4_thingOf_42
      · skip
        refine lv_bipush (v := (-2)) hx hb dX4_thingOf_25 (by decide) ?_
        exact ct_iret hx hb hr hlocks (by unfold lku; rw [ifp_f (b2i_0.mp c4), ifp_f (fun h => b2i_0.mp c22 h.2)]) (rfl) hP hD hS dX4_thingOf_27
  · skip
    refine lv_bipush (v := (-5)) hx hb dX4_thingOf_7 (by decide) ?_
    exact ct_iret hx hb hr hlocks (by unfold lku; rw [ifp_t (b2i_n0 c4)]) (rfl) hP hD hS dX4_thingOf_9
set_option maxHeartbeats 4000000 in
set_option maxRecDepth 100000 in
theorem c_X4_length (l : Launch) (D : va_G) (cI cZ : ClassId) (hm gB gT gZ a tc nw ol : Nat) (f t z : Nat → Int32) (O : Prop) (lf us bd : Int32) (x y : Int32) (ha : a ≤ 120) (h12 : 12 ≤ a) (htc : tc ≤ 32) (hnw : nw ≤ 1000000) (hol : ol ≤ nw + 1) : CtI l yX4_length wsX4_length ({ frames := 5, cells := 0, slots := 0, locals := 116 }) D vwCl (ct_T cI cZ) [.ref hm, .int x, .int y] [(hm, .inr (4, [.int 0, .int (nI a), .ref gB, .int (nI nw), .int (nI ol), .int (b2i O), .int lf, .int us, .int (nI tc), .ref gT, .ref gZ, .int bd])), (gB, .inl (cI, 5760, .inl f)), (gT, .inl (cI, 32, .inl t)), (gZ, .inl (cZ, 120, .inl z))] [(hm, .inr (4, [.int 0, .int (nI a), .ref gB, .int (nI nw), .int (nI ol), .int (b2i O), .int lf, .int us, .int (nI tc), .ref gT, .ref gZ, .int bd])), (gB, .inl (cI, 5760, .inl f)), (gT, .inl (cI, 32, .inl t)), (gZ, .inl (cZ, 120, .inl z))] (sp_len f (lku O f a ol nw x y)) := by
  refine ct_of (Qf := ct_Qi D vwCl [(hm, .inr (4, [.int 0, .int (nI a), .ref gB, .int (nI nw), .int (nI ol), .int (b2i O), .int lf, .int us, .int (nI tc), .ref gT, .ref gZ, .int bd])), (gB, .inl (cI, 5760, .inl f)), (gT, .inl (cI, 32, .inl t)), (gZ, .inl (cZ, 120, .inl z))] (sp_len f (lku O f a ol nw x y))) (cc := cX4_length) (maxL := 4) (ret := (some .int)) [(0, .ref hm), (1, .int x), (2, .int y)] (by decide) rfl (Nat.le_of_ble_eq_true rfl) rfl ?_
  intro p e s m below meth c hx hb hr hts hown hlocks hml hnm A hA hK hN hP hD hS ls hl
  have hown : s.vm.findClass RX4 = some m.cls := hown
  have hk0 := hts (.fieldLink RX4 30 "DesignPagesModel" "code" "I") (by decide +kernel)
  have hiX4 : ∀ w ∈ wsX40, w ∈ wsX4_length := by decide +kernel
  refine lv_aload_n hx hb dX4_length_0 rfl (lv_at hl 0 rfl) ?_
  refine lv_iconst (v := 0) hx hb dX4_length_1 (by decide) ?_
  refine va_put (D := D) (cl := vwCl) (ci := 4) (v := .int 0) (ty := .int) (C := RX4) (T := TX4) (N := 12) hx hb hts hiX4 tyX4 tyX4_ok nmX4 hown hK hP hD hS 0 rfl rfl 0 (by decide) hk0 (fun _ h9 => h9) rfl (by decide +kernel) rfl rfl (Nat.le_of_ble_eq_true rfl) dX4_length_2 (fun H locs hP hD hS => ?_)
  have hP : va_P D vwCl [(hm, .inr (4, [.int 0, .int (nI a), .ref gB, .int (nI nw), .int (nI ol), .int (b2i O), .int lf, .int us, .int (nI tc), .ref gT, .ref gZ, .int bd])), (gB, .inl (cI, 5760, .inl f)), (gT, .inl (cI, 32, .inl t)), (gZ, .inl (cZ, 120, .inl z))] _ := hP
  have hD : va_D A [(hm, .inr (4, [.int 0, .int (nI a), .ref gB, .int (nI nw), .int (nI ol), .int (b2i O), .int lf, .int us, .int (nI tc), .ref gT, .ref gZ, .int bd])), (gB, .inl (cI, 5760, .inl f)), (gT, .inl (cI, 32, .inl t)), (gZ, .inl (cZ, 120, .inl z))] := hD
  refine lv_aload_n hx hb dX4_length_5 rfl (lv_at hl 0 rfl) ?_
  refine lv_iload_n hx hb dX4_length_6 rfl (lv_at hl 1 rfl) ?_
  refine lv_iload_n hx hb dX4_length_7 rfl (lv_at hl 2 rfl) ?_
  refine ct_calli (w := [(hm, .inr (4, [.int 0, .int (nI a), .ref gB, .int (nI nw), .int (nI ol), .int (b2i O), .int lf, .int us, .int (nI tc), .ref gT, .ref gZ, .int bd])), (gB, .inl (cI, 5760, .inl f)), (gT, .inl (cI, 32, .inl t)), (gZ, .inl (cZ, 120, .inl z))]) (w' := [(hm, .inr (4, [.int 0, .int (nI a), .ref gB, .int (nI nw), .int (nI ol), .int (b2i O), .int lf, .int us, .int (nI tc), .ref gT, .ref gZ, .int bd])), (gB, .inl (cI, 5760, .inl f)), (gT, .inl (cI, 32, .inl t)), (gZ, .inl (cZ, 120, .inl z))]) (va_runV (As := [.int x, .int y]) (rest := []) ⟨hx, hb, hml, hown, hts⟩ (c_X4_thingOf l D cI cZ hm gB gT gZ a tc nw ol f t z O lf us bd x y (by omega) (by omega) (by omega) (by omega) (by omega)  _) (cwV 2 hts gX4_length_X4_thingOf rfl rfl rfl (by decide +kernel) ⟨Nat.le_of_ble_eq_true rfl, Nat.le_of_ble_eq_true rfl⟩) (ct_preV (w := [(hm, .inr (4, [.int 0, .int (nI a), .ref gB, .int (nI nw), .int (nI ol), .int (b2i O), .int lf, .int us, .int (nI tc), .ref gT, .ref gZ, .int bd])), (gB, .inl (cI, 5760, .inl f)), (gT, .inl (cI, 32, .inl t)), (gZ, .inl (cZ, 120, .inl z))]) (ci := 4) (i0 := 0) hK hN hP hD [0, 1, 2, 3] (by decide) rfl rfl rfl) rfl rfl hl.1 rfl (lv_room (Nat.le_of_ble_eq_true rfl)) dX4_length_8 ⟨Nat.le_of_ble_eq_true rfl, Nat.le_of_ble_eq_true rfl⟩) hP hD hS hA [0, 1, 2, 3] rfl [hm, gB, gT, gZ] rfl rfl (fun H locs hP hD hS => ?_)
  have hP : va_P D vwCl [(hm, .inr (4, [.int 0, .int (nI a), .ref gB, .int (nI nw), .int (nI ol), .int (b2i O), .int lf, .int us, .int (nI tc), .ref gT, .ref gZ, .int bd])), (gB, .inl (cI, 5760, .inl f)), (gT, .inl (cI, 32, .inl t)), (gZ, .inl (cZ, 120, .inl z))] _ := hP
  have hD : va_D A [(hm, .inr (4, [.int 0, .int (nI a), .ref gB, .int (nI nw), .int (nI ol), .int (b2i O), .int lf, .int us, .int (nI tc), .ref gT, .ref gZ, .int bd])), (gB, .inl (cI, 5760, .inl f)), (gT, .inl (cI, 32, .inl t)), (gZ, .inl (cZ, 120, .inl z))] := hD
  refine lv_istore_n (lv' := [(3, .int (lku O f a ol nw x y)), (0, .ref hm), (1, .int x), (2, .int y)]) hx hb dX4_length_11 rfl hl (by decide) rfl (fun ls hl => ?_)
  refine lv_iload_n hx hb dX4_length_12 rfl (lv_at hl 0 rfl) ?_
  refine lv_if_ge (tgt := 20) hx hb dX4_length_13 (by decide) (fun c13 => ?_) (fun c13 => ?_)
  · skip
    have hpg := lku_page ha (by omega) (Int32.not_lt.mpr c13)
    have hpg2 := hpg.2.1
    refine lv_aload_n hx hb dX4_length_20 rfl (lv_at hl 1 rfl) ?_
    refine lv_iload_n hx hb dX4_length_21 rfl (lv_at hl 0 rfl) ?_
    refine ct_top (y := nI (nv (lku O f a ol nw x y))) (hpg.1) ?_
    refine lv_iconst (v := 3) hx hb dX4_length_22 (by decide) ?_
    refine ct_calli (w := [(hm, .inr (4, [.int 0, .int (nI a), .ref gB, .int (nI nw), .int (nI ol), .int (b2i O), .int lf, .int us, .int (nI tc), .ref gT, .ref gZ, .int bd])), (gB, .inl (cI, 5760, .inl f)), (gT, .inl (cI, 32, .inl t)), (gZ, .inl (cZ, 120, .inl z))]) (w' := [(hm, .inr (4, [.int 0, .int (nI a), .ref gB, .int (nI nw), .int (nI ol), .int (b2i O), .int lf, .int us, .int (nI tc), .ref gT, .ref gZ, .int bd])), (gB, .inl (cI, 5760, .inl f)), (gT, .inl (cI, 32, .inl t)), (gZ, .inl (cZ, 120, .inl z))]) (va_runV (As := [.int (nI (nv (lku O f a ol nw x y))), .int 3]) (rest := []) ⟨hx, hb, hml, hown, hts⟩ (c_X4_at l D cI cZ hm gB gT gZ a tc nw ol f t z O lf us bd (nv (lku O f a ol nw x y)) 3 (by omega) (by omega) (by omega) (by omega) (by omega) (by omega) (by omega) _) (cwV 2 hts gX4_length_X4_at rfl rfl rfl (by decide +kernel) ⟨Nat.le_of_ble_eq_true rfl, Nat.le_of_ble_eq_true rfl⟩) (ct_preV (w := [(hm, .inr (4, [.int 0, .int (nI a), .ref gB, .int (nI nw), .int (nI ol), .int (b2i O), .int lf, .int us, .int (nI tc), .ref gT, .ref gZ, .int bd])), (gB, .inl (cI, 5760, .inl f)), (gT, .inl (cI, 32, .inl t)), (gZ, .inl (cZ, 120, .inl z))]) (ci := 4) (i0 := 0) hK hN hP hD [0, 1, 2, 3] (by decide) rfl rfl rfl) rfl rfl hl.1 rfl (lv_room (Nat.le_of_ble_eq_true rfl)) dX4_length_23 ⟨Nat.le_of_ble_eq_true rfl, Nat.le_of_ble_eq_true rfl⟩) hP hD hS hA [0, 1, 2, 3] rfl [hm, gB, gT, gZ] rfl rfl (fun H locs hP hD hS => ?_)
    have hP : va_P D vwCl [(hm, .inr (4, [.int 0, .int (nI a), .ref gB, .int (nI nw), .int (nI ol), .int (b2i O), .int lf, .int us, .int (nI tc), .ref gT, .ref gZ, .int bd])), (gB, .inl (cI, 5760, .inl f)), (gT, .inl (cI, 32, .inl t)), (gZ, .inl (cZ, 120, .inl z))] _ := hP
    have hD : va_D A [(hm, .inr (4, [.int 0, .int (nI a), .ref gB, .int (nI nw), .int (nI ol), .int (b2i O), .int lf, .int us, .int (nI tc), .ref gT, .ref gZ, .int bd])), (gB, .inl (cI, 5760, .inl f)), (gT, .inl (cI, 32, .inl t)), (gZ, .inl (cZ, 120, .inl z))] := hD
    exact ct_iret hx hb hr hlocks (by unfold sp_len; rw [ifp_f (Int32.not_lt.mpr c13)]) (rfl) hP hD hS dX4_length_26
  · skip
    refine lv_iload_n hx hb dX4_length_16 rfl (lv_at hl 0 rfl) ?_
    refine lv_goto (tgt := 26) hx hb dX4_length_17 (by decide) ?_
    exact ct_iret hx hb hr hlocks (by unfold sp_len; rw [ifp_t (Int32.not_le.mp c13)]) (rfl) hP hD hS dX4_length_26
set_option maxHeartbeats 4000000 in
set_option maxRecDepth 100000 in
theorem c_X4_find (l : Launch) (D : va_G) (cI cZ : ClassId) (hm gB gT gZ a tc nw ol : Nat) (f t z : Nat → Int32) (O : Prop) (lf us bd : Int32) (x y w : Int32) (ha : a ≤ 120) (h12 : 12 ≤ a) (htc : tc ≤ 32) (hnw : nw ≤ 1000000) (hol : ol ≤ nw + 1) : CtI l yX4_find wsX4_find ({ frames := 5, cells := 0, slots := 0, locals := 116 }) D vwCl (ct_T cI cZ) [.ref hm, .int x, .int y, .int w] [(hm, .inr (4, [.int 0, .int (nI a), .ref gB, .int (nI nw), .int (nI ol), .int (b2i O), .int lf, .int us, .int (nI tc), .ref gT, .ref gZ, .int bd])), (gB, .inl (cI, 5760, .inl f)), (gT, .inl (cI, 32, .inl t)), (gZ, .inl (cZ, 120, .inl z))] [(hm, .inr (4, [.int 0, .int (nI a), .ref gB, .int (nI nw), .int (nI ol), .int (b2i O), .int lf, .int us, .int (nI tc), .ref gT, .ref gZ, .int bd])), (gB, .inl (cI, 5760, .inl f)), (gT, .inl (cI, 32, .inl t)), (gZ, .inl (cZ, 120, .inl z))] (sp_find f (lku O f a ol nw x y) w) := by
  refine ct_of (Qf := ct_Qi D vwCl [(hm, .inr (4, [.int 0, .int (nI a), .ref gB, .int (nI nw), .int (nI ol), .int (b2i O), .int lf, .int us, .int (nI tc), .ref gT, .ref gZ, .int bd])), (gB, .inl (cI, 5760, .inl f)), (gT, .inl (cI, 32, .inl t)), (gZ, .inl (cZ, 120, .inl z))] (sp_find f (lku O f a ol nw x y) w)) (cc := cX4_find) (maxL := 5) (ret := (some .int)) [(0, .ref hm), (1, .int x), (2, .int y), (3, .int w)] (by decide) rfl (Nat.le_of_ble_eq_true rfl) rfl ?_
  intro p e s m below meth c hx hb hr hts hown hlocks hml hnm A hA hK hN hP hD hS ls hl
  have hown : s.vm.findClass RX4 = some m.cls := hown
  have hk0 := hts (.fieldLink RX4 30 "DesignPagesModel" "code" "I") (by decide +kernel)
  have hiX4 : ∀ w ∈ wsX40, w ∈ wsX4_find := by decide +kernel
  refine lv_aload_n hx hb dX4_find_0 rfl (lv_at hl 0 rfl) ?_
  refine lv_iconst (v := 0) hx hb dX4_find_1 (by decide) ?_
  refine va_put (D := D) (cl := vwCl) (ci := 4) (v := .int 0) (ty := .int) (C := RX4) (T := TX4) (N := 12) hx hb hts hiX4 tyX4 tyX4_ok nmX4 hown hK hP hD hS 0 rfl rfl 0 (by decide) hk0 (fun _ h9 => h9) rfl (by decide +kernel) rfl rfl (Nat.le_of_ble_eq_true rfl) dX4_find_2 (fun H locs hP hD hS => ?_)
  have hP : va_P D vwCl [(hm, .inr (4, [.int 0, .int (nI a), .ref gB, .int (nI nw), .int (nI ol), .int (b2i O), .int lf, .int us, .int (nI tc), .ref gT, .ref gZ, .int bd])), (gB, .inl (cI, 5760, .inl f)), (gT, .inl (cI, 32, .inl t)), (gZ, .inl (cZ, 120, .inl z))] _ := hP
  have hD : va_D A [(hm, .inr (4, [.int 0, .int (nI a), .ref gB, .int (nI nw), .int (nI ol), .int (b2i O), .int lf, .int us, .int (nI tc), .ref gT, .ref gZ, .int bd])), (gB, .inl (cI, 5760, .inl f)), (gT, .inl (cI, 32, .inl t)), (gZ, .inl (cZ, 120, .inl z))] := hD
  refine lv_aload_n hx hb dX4_find_5 rfl (lv_at hl 0 rfl) ?_
  refine lv_iload_n hx hb dX4_find_6 rfl (lv_at hl 1 rfl) ?_
  refine lv_iload_n hx hb dX4_find_7 rfl (lv_at hl 2 rfl) ?_
  refine ct_calli (w := [(hm, .inr (4, [.int 0, .int (nI a), .ref gB, .int (nI nw), .int (nI ol), .int (b2i O), .int lf, .int us, .int (nI tc), .ref gT, .ref gZ, .int bd])), (gB, .inl (cI, 5760, .inl f)), (gT, .inl (cI, 32, .inl t)), (gZ, .inl (cZ, 120, .inl z))]) (w' := [(hm, .inr (4, [.int 0, .int (nI a), .ref gB, .int (nI nw), .int (nI ol), .int (b2i O), .int lf, .int us, .int (nI tc), .ref gT, .ref gZ, .int bd])), (gB, .inl (cI, 5760, .inl f)), (gT, .inl (cI, 32, .inl t)), (gZ, .inl (cZ, 120, .inl z))]) (va_runV (As := [.int x, .int y]) (rest := []) ⟨hx, hb, hml, hown, hts⟩ (c_X4_thingOf l D cI cZ hm gB gT gZ a tc nw ol f t z O lf us bd x y (by omega) (by omega) (by omega) (by omega) (by omega)  _) (cwV 2 hts gX4_find_X4_thingOf rfl rfl rfl (by decide +kernel) ⟨Nat.le_of_ble_eq_true rfl, Nat.le_of_ble_eq_true rfl⟩) (ct_preV (w := [(hm, .inr (4, [.int 0, .int (nI a), .ref gB, .int (nI nw), .int (nI ol), .int (b2i O), .int lf, .int us, .int (nI tc), .ref gT, .ref gZ, .int bd])), (gB, .inl (cI, 5760, .inl f)), (gT, .inl (cI, 32, .inl t)), (gZ, .inl (cZ, 120, .inl z))]) (ci := 4) (i0 := 0) hK hN hP hD [0, 1, 2, 3] (by decide) rfl rfl rfl) rfl rfl hl.1 rfl (lv_room (Nat.le_of_ble_eq_true rfl)) dX4_find_8 ⟨Nat.le_of_ble_eq_true rfl, Nat.le_of_ble_eq_true rfl⟩) hP hD hS hA [0, 1, 2, 3] rfl [hm, gB, gT, gZ] rfl rfl (fun H locs hP hD hS => ?_)
  have hP : va_P D vwCl [(hm, .inr (4, [.int 0, .int (nI a), .ref gB, .int (nI nw), .int (nI ol), .int (b2i O), .int lf, .int us, .int (nI tc), .ref gT, .ref gZ, .int bd])), (gB, .inl (cI, 5760, .inl f)), (gT, .inl (cI, 32, .inl t)), (gZ, .inl (cZ, 120, .inl z))] _ := hP
  have hD : va_D A [(hm, .inr (4, [.int 0, .int (nI a), .ref gB, .int (nI nw), .int (nI ol), .int (b2i O), .int lf, .int us, .int (nI tc), .ref gT, .ref gZ, .int bd])), (gB, .inl (cI, 5760, .inl f)), (gT, .inl (cI, 32, .inl t)), (gZ, .inl (cZ, 120, .inl z))] := hD
  refine lv_istore (lv' := [(4, .int (lku O f a ol nw x y)), (0, .ref hm), (1, .int x), (2, .int y), (3, .int w)]) hx hb dX4_find_11 hl (by decide) rfl (fun ls hl => ?_)
  refine lv_iload hx hb dX4_find_13 (lv_at hl 0 rfl) ?_
  refine lv_if_ge (tgt := 23) hx hb dX4_find_15 (by decide) (fun c15 => ?_) (fun c15 => ?_)
  · skip
    have hpg := lku_page ha (by omega) (Int32.not_lt.mpr c15)
    have hpg2 := hpg.2.1
    refine lv_iload_n hx hb dX4_find_23 rfl (lv_at hl 4 rfl) ?_
    refine lv_if_lt (tgt := 38) hx hb dX4_find_24 (by decide) (fun c24 => ?_) (fun c24 => ?_)
    · skip
      refine lv_iconst (v := (-1)) hx hb dX4_find_38 (by decide) ?_
      refine lv_goto (tgt := 51) hx hb dX4_find_39 (by decide) ?_
      exact ct_iret hx hb hr hlocks (by unfold sp_find; rw [ifp_f (Int32.not_lt.mpr c15), ifp_t (Or.inl c24)]) (rfl) hP hD hS dX4_find_51
    · skip
      refine lv_iload_n hx hb dX4_find_27 rfl (lv_at hl 4 rfl) ?_
      refine lv_aload_n hx hb dX4_find_28 rfl (lv_at hl 1 rfl) ?_
      refine lv_iload hx hb dX4_find_29 (lv_at hl 0 rfl) ?_
      refine ct_top (y := nI (nv (lku O f a ol nw x y))) (hpg.1) ?_
      refine lv_iconst (v := 3) hx hb dX4_find_31 (by decide) ?_
      refine ct_calli (w := [(hm, .inr (4, [.int 0, .int (nI a), .ref gB, .int (nI nw), .int (nI ol), .int (b2i O), .int lf, .int us, .int (nI tc), .ref gT, .ref gZ, .int bd])), (gB, .inl (cI, 5760, .inl f)), (gT, .inl (cI, 32, .inl t)), (gZ, .inl (cZ, 120, .inl z))]) (w' := [(hm, .inr (4, [.int 0, .int (nI a), .ref gB, .int (nI nw), .int (nI ol), .int (b2i O), .int lf, .int us, .int (nI tc), .ref gT, .ref gZ, .int bd])), (gB, .inl (cI, 5760, .inl f)), (gT, .inl (cI, 32, .inl t)), (gZ, .inl (cZ, 120, .inl z))]) (va_runV (As := [.int (nI (nv (lku O f a ol nw x y))), .int 3]) (rest := [.int w]) ⟨hx, hb, hml, hown, hts⟩ (c_X4_at l D cI cZ hm gB gT gZ a tc nw ol f t z O lf us bd (nv (lku O f a ol nw x y)) 3 (by omega) (by omega) (by omega) (by omega) (by omega) (by omega) (by omega) _) (cwV 2 hts gX4_find_X4_at rfl rfl rfl (by decide +kernel) ⟨Nat.le_of_ble_eq_true rfl, Nat.le_of_ble_eq_true rfl⟩) (ct_preV (w := [(hm, .inr (4, [.int 0, .int (nI a), .ref gB, .int (nI nw), .int (nI ol), .int (b2i O), .int lf, .int us, .int (nI tc), .ref gT, .ref gZ, .int bd])), (gB, .inl (cI, 5760, .inl f)), (gT, .inl (cI, 32, .inl t)), (gZ, .inl (cZ, 120, .inl z))]) (ci := 4) (i0 := 0) hK hN hP hD [0, 1, 2, 3] (by decide) rfl rfl rfl) rfl rfl hl.1 rfl (lv_room (Nat.le_of_ble_eq_true rfl)) dX4_find_32 ⟨Nat.le_of_ble_eq_true rfl, Nat.le_of_ble_eq_true rfl⟩) hP hD hS hA [0, 1, 2, 3] rfl [hm, gB, gT, gZ] rfl rfl (fun H locs hP hD hS => ?_)
      have hP : va_P D vwCl [(hm, .inr (4, [.int 0, .int (nI a), .ref gB, .int (nI nw), .int (nI ol), .int (b2i O), .int lf, .int us, .int (nI tc), .ref gT, .ref gZ, .int bd])), (gB, .inl (cI, 5760, .inl f)), (gT, .inl (cI, 32, .inl t)), (gZ, .inl (cZ, 120, .inl z))] _ := hP
      have hD : va_D A [(hm, .inr (4, [.int 0, .int (nI a), .ref gB, .int (nI nw), .int (nI ol), .int (b2i O), .int lf, .int us, .int (nI tc), .ref gT, .ref gZ, .int bd])), (gB, .inl (cI, 5760, .inl f)), (gT, .inl (cI, 32, .inl t)), (gZ, .inl (cZ, 120, .inl z))] := hD
      refine lv_icmp_lt (tgt := 42) hx hb dX4_find_35 (by decide) (fun c35 => ?_) (fun c35 => ?_)
      · skip
        obtain ⟨j, hj, rfl⟩ := nI_of c24
        have hj2 : j < 32 := fi_lt hj c35 (th_len hpg.2.2)
        refine lv_aload_n hx hb dX4_find_42 rfl (lv_at hl 1 rfl) ?_
        refine lv_iload hx hb dX4_find_43 (lv_at hl 0 rfl) ?_
        refine ct_top (y := nI (nv (lku O f a ol nw x y))) (hpg.1) ?_
        refine lv_iconst (v := 4) hx hb dX4_find_45 (by decide) ?_
        refine lv_iload_n hx hb dX4_find_46 rfl (lv_at hl 4 rfl) ?_
        refine lv_iadd hx hb dX4_find_47 ?_
        refine ct_top (y := nI (4 + j)) (nI_add 4 j) ?_
        refine ct_calli (w := [(hm, .inr (4, [.int 0, .int (nI a), .ref gB, .int (nI nw), .int (nI ol), .int (b2i O), .int lf, .int us, .int (nI tc), .ref gT, .ref gZ, .int bd])), (gB, .inl (cI, 5760, .inl f)), (gT, .inl (cI, 32, .inl t)), (gZ, .inl (cZ, 120, .inl z))]) (w' := [(hm, .inr (4, [.int 0, .int (nI a), .ref gB, .int (nI nw), .int (nI ol), .int (b2i O), .int lf, .int us, .int (nI tc), .ref gT, .ref gZ, .int bd])), (gB, .inl (cI, 5760, .inl f)), (gT, .inl (cI, 32, .inl t)), (gZ, .inl (cZ, 120, .inl z))]) (va_runV (As := [.int (nI (nv (lku O f a ol nw x y))), .int (nI (4 + j))]) (rest := []) ⟨hx, hb, hml, hown, hts⟩ (c_X4_at l D cI cZ hm gB gT gZ a tc nw ol f t z O lf us bd (nv (lku O f a ol nw x y)) (4 + j) (by omega) (by omega) (by omega) (by omega) (by omega) (by omega) (by omega) _) (cwV 2 hts gX4_find_X4_at rfl rfl rfl (by decide +kernel) ⟨Nat.le_of_ble_eq_true rfl, Nat.le_of_ble_eq_true rfl⟩) (ct_preV (w := [(hm, .inr (4, [.int 0, .int (nI a), .ref gB, .int (nI nw), .int (nI ol), .int (b2i O), .int lf, .int us, .int (nI tc), .ref gT, .ref gZ, .int bd])), (gB, .inl (cI, 5760, .inl f)), (gT, .inl (cI, 32, .inl t)), (gZ, .inl (cZ, 120, .inl z))]) (ci := 4) (i0 := 0) hK hN hP hD [0, 1, 2, 3] (by decide) rfl rfl rfl) rfl rfl hl.1 rfl (lv_room (Nat.le_of_ble_eq_true rfl)) dX4_find_48 ⟨Nat.le_of_ble_eq_true rfl, Nat.le_of_ble_eq_true rfl⟩) hP hD hS hA [0, 1, 2, 3] rfl [hm, gB, gT, gZ] rfl rfl (fun H locs hP hD hS => ?_)
        have hP : va_P D vwCl [(hm, .inr (4, [.int 0, .int (nI a), .ref gB, .int (nI nw), .int (nI ol), .int (b2i O), .int lf, .int us, .int (nI tc), .ref gT, .ref gZ, .int bd])), (gB, .inl (cI, 5760, .inl f)), (gT, .inl (cI, 32, .inl t)), (gZ, .inl (cZ, 120, .inl z))] _ := hP
        have hD : va_D A [(hm, .inr (4, [.int 0, .int (nI a), .ref gB, .int (nI nw), .int (nI ol), .int (b2i O), .int lf, .int us, .int (nI tc), .ref gT, .ref gZ, .int bd])), (gB, .inl (cI, 5760, .inl f)), (gT, .inl (cI, 32, .inl t)), (gZ, .inl (cZ, 120, .inl z))] := hD
        exact ct_iret hx hb hr hlocks (by unfold sp_find; rw [ifp_f (Int32.not_lt.mpr c15), ifp_f (fun h => h.elim c24 (fun h => h c35)), nv_nI (by omega)]) (rfl) hP hD hS dX4_find_51
      · skip
        refine lv_iconst (v := (-1)) hx hb dX4_find_38 (by decide) ?_
        refine lv_goto (tgt := 51) hx hb dX4_find_39 (by decide) ?_
        exact ct_iret hx hb hr hlocks (by unfold sp_find; rw [ifp_f (Int32.not_lt.mpr c15), ifp_t (Or.inr c35)]) (rfl) hP hD hS dX4_find_51
  · skip
    refine lv_iload hx hb dX4_find_18 (lv_at hl 0 rfl) ?_
    refine lv_goto (tgt := 51) hx hb dX4_find_20 (by decide) ?_
    exact ct_iret hx hb hr hlocks (by unfold sp_find; rw [ifp_t (Int32.not_le.mp c15)]) (rfl) hP hD hS dX4_find_51
set_option maxHeartbeats 4000000 in
set_option maxRecDepth 100000 in
theorem c_X4_next (l : Launch) (D : va_G) (cI cZ : ClassId) (hm gB gT gZ a tc nw ol : Nat) (f t z : Nat → Int32) (O : Prop) (lf us bd : Int32) (x y : Int32) (ha : a ≤ 120) (h12 : 12 ≤ a) (htc : tc ≤ 32) (hnw : nw ≤ 1000000) (hol : ol ≤ nw + 1) : CtI l yX4_next wsX4_next ({ frames := 4, cells := 0, slots := 0, locals := 92 }) D vwCl (ct_T cI cZ) [.ref hm, .int x, .int y] [(hm, .inr (4, [.int 0, .int (nI a), .ref gB, .int (nI nw), .int (nI ol), .int (b2i O), .int lf, .int us, .int (nI tc), .ref gT, .ref gZ, .int bd])), (gB, .inl (cI, 5760, .inl f)), (gT, .inl (cI, 32, .inl t)), (gZ, .inl (cZ, 120, .inl z))] [(hm, .inr (4, [.int 0, .int (nI a), .ref gB, .int (nI nw), .int (nI ol), .int (b2i O), .int lf, .int us, .int (nI tc), .ref gT, .ref gZ, .int bd])), (gB, .inl (cI, 5760, .inl f)), (gT, .inl (cI, 32, .inl t)), (gZ, .inl (cZ, 120, .inl z))] (sp_next O f a ol nw x y) := by
  refine ct_of (Qf := ct_Qi D vwCl [(hm, .inr (4, [.int 0, .int (nI a), .ref gB, .int (nI nw), .int (nI ol), .int (b2i O), .int lf, .int us, .int (nI tc), .ref gT, .ref gZ, .int bd])), (gB, .inl (cI, 5760, .inl f)), (gT, .inl (cI, 32, .inl t)), (gZ, .inl (cZ, 120, .inl z))] (sp_next O f a ol nw x y)) (cc := cX4_next) (maxL := 5) (ret := (some .int)) [(0, .ref hm), (1, .int x), (2, .int y)] (by decide) rfl (Nat.le_of_ble_eq_true rfl) rfl ?_
  intro p e s m below meth c hx hb hr hts hown hlocks hml hnm A hA hK hN hP hD hS ls hl
  have hown : s.vm.findClass RX4 = some m.cls := hown
  have hk0 := hts (.fieldLink RX4 30 "DesignPagesModel" "code" "I") (by decide +kernel)
  have hk1 := hts (.fieldLink RX4 83 "DesignPagesModel" "down" "Z") (by decide +kernel)
  have hiX4 : ∀ w ∈ wsX40, w ∈ wsX4_next := by decide +kernel
  refine lv_aload_n hx hb dX4_next_0 rfl (lv_at hl 0 rfl) ?_
  refine lv_iconst (v := 0) hx hb dX4_next_1 (by decide) ?_
  refine va_put (D := D) (cl := vwCl) (ci := 4) (v := .int 0) (ty := .int) (C := RX4) (T := TX4) (N := 12) hx hb hts hiX4 tyX4 tyX4_ok nmX4 hown hK hP hD hS 0 rfl rfl 0 (by decide) hk0 (fun _ h9 => h9) rfl (by decide +kernel) rfl rfl (Nat.le_of_ble_eq_true rfl) dX4_next_2 (fun H locs hP hD hS => ?_)
  have hP : va_P D vwCl [(hm, .inr (4, [.int 0, .int (nI a), .ref gB, .int (nI nw), .int (nI ol), .int (b2i O), .int lf, .int us, .int (nI tc), .ref gT, .ref gZ, .int bd])), (gB, .inl (cI, 5760, .inl f)), (gT, .inl (cI, 32, .inl t)), (gZ, .inl (cZ, 120, .inl z))] _ := hP
  have hD : va_D A [(hm, .inr (4, [.int 0, .int (nI a), .ref gB, .int (nI nw), .int (nI ol), .int (b2i O), .int lf, .int us, .int (nI tc), .ref gT, .ref gZ, .int bd])), (gB, .inl (cI, 5760, .inl f)), (gT, .inl (cI, 32, .inl t)), (gZ, .inl (cZ, 120, .inl z))] := hD
  refine lv_aload_n hx hb dX4_next_5 rfl (lv_at hl 0 rfl) ?_
  refine va_get (D := D) (cl := vwCl) (ci := 4) (v := .int (b2i O)) (C := RX4) (T := TX4) (N := 12) hx hb hts hiX4 hown hK hP 0 rfl rfl 5 (by decide) hk1 (fun _ h9 => h9) rfl dX4_next_6 ?_
  refine lv_if_eq (tgt := 15) hx hb dX4_next_9 (by decide) (fun c9 => ?_) (fun c9 => ?_)
  · skip
    refine lv_aload_n hx hb dX4_next_15 rfl (lv_at hl 0 rfl) ?_
    refine lv_iload_n hx hb dX4_next_16 rfl (lv_at hl 1 rfl) ?_
    refine ct_calli (w := [(hm, .inr (4, [.int 0, .int (nI a), .ref gB, .int (nI nw), .int (nI ol), .int (b2i O), .int lf, .int us, .int (nI tc), .ref gT, .ref gZ, .int bd])), (gB, .inl (cI, 5760, .inl f)), (gT, .inl (cI, 32, .inl t)), (gZ, .inl (cZ, 120, .inl z))]) (w' := [(hm, .inr (4, [.int 0, .int (nI a), .ref gB, .int (nI nw), .int (nI ol), .int (b2i O), .int lf, .int us, .int (nI tc), .ref gT, .ref gZ, .int bd])), (gB, .inl (cI, 5760, .inl f)), (gT, .inl (cI, 32, .inl t)), (gZ, .inl (cZ, 120, .inl z))]) (va_runV (As := [.int x]) (rest := []) ⟨hx, hb, hml, hown, hts⟩ (c_X4_isKept l D cI cZ hm gB gT gZ a tc nw ol f t z O lf us bd x (by omega) (by omega) (by omega) (by omega) (by omega)  _) (cwV 1 hts gX4_next_X4_isKept rfl rfl rfl (by decide +kernel) ⟨Nat.le_of_ble_eq_true rfl, Nat.le_of_ble_eq_true rfl⟩) (ct_preV (w := [(hm, .inr (4, [.int 0, .int (nI a), .ref gB, .int (nI nw), .int (nI ol), .int (b2i O), .int lf, .int us, .int (nI tc), .ref gT, .ref gZ, .int bd])), (gB, .inl (cI, 5760, .inl f)), (gT, .inl (cI, 32, .inl t)), (gZ, .inl (cZ, 120, .inl z))]) (ci := 4) (i0 := 0) hK hN hP hD [0, 1, 2, 3] (by decide) rfl rfl rfl) rfl rfl hl.1 rfl (lv_room (Nat.le_of_ble_eq_true rfl)) dX4_next_17 ⟨Nat.le_of_ble_eq_true rfl, Nat.le_of_ble_eq_true rfl⟩) hP hD hS hA [0, 1, 2, 3] rfl [hm, gB, gT, gZ] rfl rfl (fun H locs hP hD hS => ?_)
    have hP : va_P D vwCl [(hm, .inr (4, [.int 0, .int (nI a), .ref gB, .int (nI nw), .int (nI ol), .int (b2i O), .int lf, .int us, .int (nI tc), .ref gT, .ref gZ, .int bd])), (gB, .inl (cI, 5760, .inl f)), (gT, .inl (cI, 32, .inl t)), (gZ, .inl (cZ, 120, .inl z))] _ := hP
    have hD : va_D A [(hm, .inr (4, [.int 0, .int (nI a), .ref gB, .int (nI nw), .int (nI ol), .int (b2i O), .int lf, .int us, .int (nI tc), .ref gT, .ref gZ, .int bd])), (gB, .inl (cI, 5760, .inl f)), (gT, .inl (cI, 32, .inl t)), (gZ, .inl (cZ, 120, .inl z))] := hD
    refine lv_if_eq (tgt := 30) hx hb dX4_next_20 (by decide) (fun c20 => ?_) (fun c20 => ?_)
    · skip
      refine lv_bipush (v := (-2)) hx hb dX4_next_30 (by decide) ?_
      exact ct_iret hx hb hr hlocks (by unfold sp_next; rw [ifp_f (by unfold rrd; rw [ifp_f (b2i_0.mp c9), ifp_f (fun h => b2i_0.mp c20 h.1)]; decide)]; unfold rrd; rw [ifp_f (b2i_0.mp c9), ifp_f (fun h => b2i_0.mp c20 h.1)]) (rfl) hP hD hS dX4_next_32
    · skip
      refine lv_iload_n hx hb dX4_next_23 rfl (lv_at hl 2 rfl) ?_
      refine ct_calli (w := []) (w' := []) (va_runS (As := [.int y]) (rest := []) ⟨hx, hb, hml, hown, hts⟩ (c_X4_isKey l D cI cZ y _) (va_cwS 1 hts gX4_next_X4_isKey rfl rfl rfl (by decide +kernel) ⟨Nat.le_of_ble_eq_true rfl, Nat.le_of_ble_eq_true rfl⟩) (ct_preS (w := []) hK hN hP hD [] (by decide) rfl) rfl rfl hl.1 rfl (lv_room (Nat.le_of_ble_eq_true rfl)) dX4_next_24 ⟨Nat.le_of_ble_eq_true rfl, Nat.le_of_ble_eq_true rfl⟩) hP hD hS hA [] rfl [] rfl rfl (fun H locs hP hD hS => ?_)
      have hP : va_P D vwCl [(hm, .inr (4, [.int 0, .int (nI a), .ref gB, .int (nI nw), .int (nI ol), .int (b2i O), .int lf, .int us, .int (nI tc), .ref gT, .ref gZ, .int bd])), (gB, .inl (cI, 5760, .inl f)), (gT, .inl (cI, 32, .inl t)), (gZ, .inl (cZ, 120, .inl z))] _ := hP
      have hD : va_D A [(hm, .inr (4, [.int 0, .int (nI a), .ref gB, .int (nI nw), .int (nI ol), .int (b2i O), .int lf, .int us, .int (nI tc), .ref gT, .ref gZ, .int bd])), (gB, .inl (cI, 5760, .inl f)), (gT, .inl (cI, 32, .inl t)), (gZ, .inl (cZ, 120, .inl z))] := hD
      refine lv_if_ne (tgt := 33) hx hb dX4_next_27 (by decide) (fun c27 => ?_) (fun c27 => ?_)
      · skip
        have e1 := b2i_0.mp c9
        have e2 := b2i_n0 c20
        have e3 := b2i_n0 c27
        obtain ⟨v, hv1, hv2, rfl⟩ := kp_nat e2 (by omega) (by omega)
        obtain ⟨k, hk1, rfl⟩ := ky_nat e3
        have e5 : rrd O ol nw (nI v) (nI k) = 0 := by unfold rrd; rw [ifp_f e1, ifp_t ⟨e2, e3⟩]
        have e4 : sp_next O f a ol nw (nI v) (nI k) = ifp (pg_right f a (v % 8) 1) (nk f a (v % 8) k) (-4) := by unfold sp_next nk; rw [ifp_t e5, nv_nI (by omega), nv_nI (by omega)]
        refine lv_aload_n hx hb dX4_next_33 rfl (lv_at hl 0 rfl) ?_
        refine lv_iload_n hx hb dX4_next_34 rfl (lv_at hl 1 rfl) ?_
        refine lv_bipush (v := 8) hx hb dX4_next_35 (by decide) ?_
        refine lv_irem hx hb dX4_next_37 (by decide) ?_
        refine ct_top (y := nI (v % 8)) (pk_rem (by omega) (by decide) (by decide)) ?_
        refine lv_iconst (v := 1) hx hb dX4_next_38 (by decide) ?_
        refine ct_calli (w := [(hm, .inr (4, [.int 0, .int (nI a), .ref gB, .int (nI nw), .int (nI ol), .int (b2i O), .int lf, .int us, .int (nI tc), .ref gT, .ref gZ, .int bd])), (gB, .inl (cI, 5760, .inl f)), (gT, .inl (cI, 32, .inl t)), (gZ, .inl (cZ, 120, .inl z))]) (w' := [(hm, .inr (4, [.int 0, .int (nI a), .ref gB, .int (nI nw), .int (nI ol), .int (b2i O), .int lf, .int us, .int (nI tc), .ref gT, .ref gZ, .int bd])), (gB, .inl (cI, 5760, .inl f)), (gT, .inl (cI, 32, .inl t)), (gZ, .inl (cZ, 120, .inl z))]) (va_runV (As := [.int (nI (v % 8)), .int 1]) (rest := []) ⟨hx, hb, hml, hown, hts⟩ (c_X4_isRight l D cI cZ hm gB gT gZ a tc nw ol f t z O lf us bd (v % 8) 1 (by omega) (by omega) (by omega) (by omega) (by omega) (by omega) (Or.inl rfl) _) (cwV 2 hts gX4_next_X4_isRight rfl rfl rfl (by decide +kernel) ⟨Nat.le_of_ble_eq_true rfl, Nat.le_of_ble_eq_true rfl⟩) (ct_preV (w := [(hm, .inr (4, [.int 0, .int (nI a), .ref gB, .int (nI nw), .int (nI ol), .int (b2i O), .int lf, .int us, .int (nI tc), .ref gT, .ref gZ, .int bd])), (gB, .inl (cI, 5760, .inl f)), (gT, .inl (cI, 32, .inl t)), (gZ, .inl (cZ, 120, .inl z))]) (ci := 4) (i0 := 0) hK hN hP hD [0, 1, 2, 3] (by decide) rfl rfl rfl) rfl rfl hl.1 rfl (lv_room (Nat.le_of_ble_eq_true rfl)) dX4_next_39 ⟨Nat.le_of_ble_eq_true rfl, Nat.le_of_ble_eq_true rfl⟩) hP hD hS hA [0, 1, 2, 3] rfl [hm, gB, gT, gZ] rfl rfl (fun H locs hP hD hS => ?_)
        have hP : va_P D vwCl [(hm, .inr (4, [.int 0, .int (nI a), .ref gB, .int (nI nw), .int (nI ol), .int (b2i O), .int lf, .int us, .int (nI tc), .ref gT, .ref gZ, .int bd])), (gB, .inl (cI, 5760, .inl f)), (gT, .inl (cI, 32, .inl t)), (gZ, .inl (cZ, 120, .inl z))] _ := hP
        have hD : va_D A [(hm, .inr (4, [.int 0, .int (nI a), .ref gB, .int (nI nw), .int (nI ol), .int (b2i O), .int lf, .int us, .int (nI tc), .ref gT, .ref gZ, .int bd])), (gB, .inl (cI, 5760, .inl f)), (gT, .inl (cI, 32, .inl t)), (gZ, .inl (cZ, 120, .inl z))] := hD
        refine lv_if_ne (tgt := 48) hx hb dX4_next_42 (by decide) (fun c42 => ?_) (fun c42 => ?_)
        · skip
          refine lv_iload_n hx hb dX4_next_48 rfl (lv_at hl 2 rfl) ?_
          refine lv_istore_n (lv' := [(3, .int (nI k)), (0, .ref hm), (1, .int (nI v)), (2, .int (nI k))]) hx hb dX4_next_49 rfl hl (by decide) rfl (fun ls hl => ?_)
          have loop50 : ∀ (n50 : Nat) (i : Nat), i ≤ 1024 → i = k ∨ i % 32 = 0 ∨ nv (f (v % 8 * 48 + (9 + i / 32))) = 0 ∨ pg_right f a (nv (f (v % 8 * 48 + (9 + i / 32)))) 2 → nk f a (v % 8) k = nk f a (v % 8) i → 1024 - i < n50 → ∀ (H : Heap) (locs : List Loc), va_P D vwCl [(hm, .inr (4, [.int 0, .int (nI a), .ref gB, .int (nI nw), .int (nI ol), .int (b2i O), .int lf, .int us, .int (nI tc), .ref gT, .ref gZ, .int bd])), (gB, .inl (cI, 5760, .inl f)), (gT, .inl (cI, 32, .inl t)), (gZ, .inl (cZ, 120, .inl z))] H → va_D A [(hm, .inr (4, [.int 0, .int (nI a), .ref gB, .int (nI nw), .int (nI ol), .int (b2i O), .int lf, .int us, .int (nI tc), .ref gT, .ref gZ, .int bd])), (gB, .inl (cI, 5760, .inl f)), (gT, .inl (cI, 32, .inl t)), (gZ, .inl (cZ, 120, .inl z))] → va_S A s.heap H locs → ∀ (ls : Array Slot), lv_has ls 5 [(3, .int (nI i)), (0, .ref hm), (1, .int (nI v)), (2, .int (nI k))] → W p l e ({ frames := 4, cells := 0, slots := 0, locals := 92 }) s m ([.ref hm, .int (nI v), .int (nI k)] : List Value).toArray below meth c H locs 0 0 (MQ below (ct_Qi D vwCl [(hm, .inr (4, [.int 0, .int (nI a), .ref gB, .int (nI nw), .int (nI ol), .int (b2i O), .int lf, .int us, .int (nI tc), .ref gT, .ref gZ, .int bd])), (gB, .inl (cI, 5760, .inl f)), (gT, .inl (cI, 32, .inl t)), (gZ, .inl (cZ, 120, .inl z))] (sp_next O f a ol nw (nI v) (nI k)) A) ([.ref hm, .int (nI v), .int (nI k)] : List Value).toArray s 0 0 A) (F0 m 50 ls []) := by
            intro n50
            induction n50 with
            | zero =>
              intro i _ _ _ hm
              exact absurd hm (Nat.not_lt_zero _)
            | succ n50 ih50 =>
              intro i hi hc ex hm50 H locs hP hD hS ls hl
              refine lv_iload_n hx hb dX4_next_50 rfl (lv_at hl 0 rfl) ?_
              refine lv_sipush (v := 1024) hx hb dX4_next_51 (by decide) ?_
              refine lv_icmp_ge (tgt := 126) hx hb dX4_next_54 (by decide) (fun c54 => ?_) (fun c54 => ?_)
              · skip
                have c54 : 1024 ≤ i := (nI_leI (a := 1024) (b := i) (by omega) (by omega)).mp c54
                refine lv_iconst (v := (-1)) hx hb dX4_next_126 (by decide) ?_
                exact ct_iret hx hb hr hlocks (by rw [e4, ifp_t (b2i_n0 c42), ex, show i = 1024 by omega]; rfl) (rfl) hP hD hS dX4_next_127
              · skip
                have c54 : ¬ 1024 ≤ i := fun h => c54 ((nI_leI (a := 1024) (b := i) (by omega) (by omega)).mpr h)
                refine lv_aload_n hx hb dX4_next_57 rfl (lv_at hl 1 rfl) ?_
                refine lv_iload_n hx hb dX4_next_58 rfl (lv_at hl 2 rfl) ?_
                refine lv_iload_n hx hb dX4_next_59 rfl (lv_at hl 0 rfl) ?_
                refine lv_bipush (v := 32) hx hb dX4_next_60 (by decide) ?_
                refine lv_idiv hx hb dX4_next_62 (by decide) ?_
                refine ct_top (y := nI (i / 32)) (pk_div (by omega) (by decide) (by decide)) ?_
                refine ct_calli (w := [(hm, .inr (4, [.int 0, .int (nI a), .ref gB, .int (nI nw), .int (nI ol), .int (b2i O), .int lf, .int us, .int (nI tc), .ref gT, .ref gZ, .int bd])), (gB, .inl (cI, 5760, .inl f)), (gT, .inl (cI, 32, .inl t)), (gZ, .inl (cZ, 120, .inl z))]) (w' := [(hm, .inr (4, [.int 0, .int (nI a), .ref gB, .int (nI nw), .int (nI ol), .int (b2i O), .int lf, .int us, .int (nI tc), .ref gT, .ref gZ, .int bd])), (gB, .inl (cI, 5760, .inl f)), (gT, .inl (cI, 32, .inl t)), (gZ, .inl (cZ, 120, .inl z))]) (va_runV (As := [.int (nI v), .int (nI (i / 32))]) (rest := []) ⟨hx, hb, hml, hown, hts⟩ (c_X4_nodeOf l D cI cZ hm gB gT gZ a tc nw ol f t z O lf us bd v (i / 32) (by omega) (by omega) (by omega) (by omega) (by omega) (by omega) (by omega) _) (cwV 2 hts gX4_next_X4_nodeOf rfl rfl rfl (by decide +kernel) ⟨Nat.le_of_ble_eq_true rfl, Nat.le_of_ble_eq_true rfl⟩) (ct_preV (w := [(hm, .inr (4, [.int 0, .int (nI a), .ref gB, .int (nI nw), .int (nI ol), .int (b2i O), .int lf, .int us, .int (nI tc), .ref gT, .ref gZ, .int bd])), (gB, .inl (cI, 5760, .inl f)), (gT, .inl (cI, 32, .inl t)), (gZ, .inl (cZ, 120, .inl z))]) (ci := 4) (i0 := 0) hK hN hP hD [0, 1, 2, 3] (by decide) rfl rfl rfl) rfl rfl hl.1 rfl (lv_room (Nat.le_of_ble_eq_true rfl)) dX4_next_63 ⟨Nat.le_of_ble_eq_true rfl, Nat.le_of_ble_eq_true rfl⟩) hP hD hS hA [0, 1, 2, 3] rfl [hm, gB, gT, gZ] rfl rfl (fun H locs hP hD hS => ?_)
                have hP : va_P D vwCl [(hm, .inr (4, [.int 0, .int (nI a), .ref gB, .int (nI nw), .int (nI ol), .int (b2i O), .int lf, .int us, .int (nI tc), .ref gT, .ref gZ, .int bd])), (gB, .inl (cI, 5760, .inl f)), (gT, .inl (cI, 32, .inl t)), (gZ, .inl (cZ, 120, .inl z))] _ := hP
                have hD : va_D A [(hm, .inr (4, [.int 0, .int (nI a), .ref gB, .int (nI nw), .int (nI ol), .int (b2i O), .int lf, .int us, .int (nI tc), .ref gT, .ref gZ, .int bd])), (gB, .inl (cI, 5760, .inl f)), (gT, .inl (cI, 32, .inl t)), (gZ, .inl (cZ, 120, .inl z))] := hD
                have hn1 := rt_nv (i := i / 32) (b2i_n0 c42) ha (by omega) (by omega)
                have hn2 := hn1.2.1
                refine ct_top (y := nI (nv (f (v % 8 * 48 + (9 + i / 32))))) (hn1.1) ?_
                refine lv_istore (lv' := [(4, .int (nI (nv (f (v % 8 * 48 + (9 + i / 32)))))), (3, .int (nI i)), (0, .ref hm), (1, .int (nI v)), (2, .int (nI k))]) hx hb dX4_next_66 hl (by decide) rfl (fun ls hl => ?_)
                refine lv_iload hx hb dX4_next_68 (lv_at hl 0 rfl) ?_
                refine lv_if_eq (tgt := 98) hx hb dX4_next_70 (by decide) (fun c70 => ?_) (fun c70 => ?_)
                · skip
                  have c70 : (nv (f (v % 8 * 48 + (9 + i / 32)))) = 0 := (nI_eq (a := (nv (f (v % 8 * 48 + (9 + i / 32))))) (b := 0) (by omega) (by omega)).mp c70
                  have hrt : nv (f (v % 8 * 48 + (9 + i / 32))) = 0 ∨ pg_right f a (nv (f (v % 8 * 48 + (9 + i / 32)))) 2 := Or.inl c70
                  refine lv_iload hx hb dX4_next_98 (lv_at hl 0 rfl) ?_
                  refine lv_if_eq (tgt := 120) hx hb dX4_next_100 (by decide) (fun c100 => ?_) (fun c100 => ?_)
                  · skip
                    have c100 : (nv (f (v % 8 * 48 + (9 + i / 32)))) = 0 := (nI_eq (a := (nv (f (v % 8 * 48 + (9 + i / 32))))) (b := 0) (by omega) (by omega)).mp c100
                    refine lv_iinc (v := nI (i + 1)) (lv' := [(3, .int (nI (i + 1))), (4, .int (nI (nv (f (v % 8 * 48 + (9 + i / 32)))))), (0, .ref hm), (1, .int (nI v)), (2, .int (nI k))]) hx hb dX4_next_120 hl (k := 1) rfl (nI_add i 1) (by decide) rfl (fun ls hl => ?_)
                    refine lv_goto (tgt := 50) hx hb dX4_next_123 (by decide) ?_
                    exact ih50 (i + 1) (by omega) (Or.inr (by rcases Nat.lt_or_ge (i % 32) 31 with g | g; { exact Or.inr (by rw [show (i + 1) / 32 = i / 32 by omega]; exact hrt) }; exact Or.inl (by omega))) (by rw [ex]; exact nk_0 (by omega) c100) (by omega) _ _ hP hD hS ls (lv_sub hl [0, 2, 3, 4] rfl)
                  · skip
                    have c100 : ¬ (nv (f (v % 8 * 48 + (9 + i / 32)))) = 0 := fun h => c100 ((nI_eq (a := (nv (f (v % 8 * 48 + (9 + i / 32))))) (b := 0) (by omega) (by omega)).mpr h)
                    refine lv_aload_n hx hb dX4_next_103 rfl (lv_at hl 2 rfl) ?_
                    refine lv_iload hx hb dX4_next_104 (lv_at hl 0 rfl) ?_
                    refine lv_iconst (v := 2) hx hb dX4_next_106 (by decide) ?_
                    refine lv_iload_n hx hb dX4_next_107 rfl (lv_at hl 1 rfl) ?_
                    refine lv_bipush (v := 32) hx hb dX4_next_108 (by decide) ?_
                    refine lv_irem hx hb dX4_next_110 (by decide) ?_
                    refine ct_top (y := nI (i % 32)) (pk_rem (by omega) (by decide) (by decide)) ?_
                    refine lv_iadd hx hb dX4_next_111 ?_
                    refine ct_top (y := nI (2 + (i % 32))) (nI_add 2 (i % 32)) ?_
                    refine ct_calli (w := [(hm, .inr (4, [.int 0, .int (nI a), .ref gB, .int (nI nw), .int (nI ol), .int (b2i O), .int lf, .int us, .int (nI tc), .ref gT, .ref gZ, .int bd])), (gB, .inl (cI, 5760, .inl f)), (gT, .inl (cI, 32, .inl t)), (gZ, .inl (cZ, 120, .inl z))]) (w' := [(hm, .inr (4, [.int 0, .int (nI a), .ref gB, .int (nI nw), .int (nI ol), .int (b2i O), .int lf, .int us, .int (nI tc), .ref gT, .ref gZ, .int bd])), (gB, .inl (cI, 5760, .inl f)), (gT, .inl (cI, 32, .inl t)), (gZ, .inl (cZ, 120, .inl z))]) (va_runV (As := [.int (nI (nv (f (v % 8 * 48 + (9 + i / 32))))), .int (nI (2 + (i % 32)))]) (rest := []) ⟨hx, hb, hml, hown, hts⟩ (c_X4_at l D cI cZ hm gB gT gZ a tc nw ol f t z O lf us bd (nv (f (v % 8 * 48 + (9 + i / 32)))) (2 + (i % 32)) (by omega) (by omega) (by omega) (by omega) (by omega) (by omega) (by omega) _) (cwV 2 hts gX4_next_X4_at rfl rfl rfl (by decide +kernel) ⟨Nat.le_of_ble_eq_true rfl, Nat.le_of_ble_eq_true rfl⟩) (ct_preV (w := [(hm, .inr (4, [.int 0, .int (nI a), .ref gB, .int (nI nw), .int (nI ol), .int (b2i O), .int lf, .int us, .int (nI tc), .ref gT, .ref gZ, .int bd])), (gB, .inl (cI, 5760, .inl f)), (gT, .inl (cI, 32, .inl t)), (gZ, .inl (cZ, 120, .inl z))]) (ci := 4) (i0 := 0) hK hN hP hD [0, 1, 2, 3] (by decide) rfl rfl rfl) rfl rfl hl.1 rfl (lv_room (Nat.le_of_ble_eq_true rfl)) dX4_next_112 ⟨Nat.le_of_ble_eq_true rfl, Nat.le_of_ble_eq_true rfl⟩) hP hD hS hA [0, 1, 2, 3] rfl [hm, gB, gT, gZ] rfl rfl (fun H locs hP hD hS => ?_)
                    have hP : va_P D vwCl [(hm, .inr (4, [.int 0, .int (nI a), .ref gB, .int (nI nw), .int (nI ol), .int (b2i O), .int lf, .int us, .int (nI tc), .ref gT, .ref gZ, .int bd])), (gB, .inl (cI, 5760, .inl f)), (gT, .inl (cI, 32, .inl t)), (gZ, .inl (cZ, 120, .inl z))] _ := hP
                    have hD : va_D A [(hm, .inr (4, [.int 0, .int (nI a), .ref gB, .int (nI nw), .int (nI ol), .int (b2i O), .int lf, .int us, .int (nI tc), .ref gT, .ref gZ, .int bd])), (gB, .inl (cI, 5760, .inl f)), (gT, .inl (cI, 32, .inl t)), (gZ, .inl (cZ, 120, .inl z))] := hD
                    refine lv_if_eq (tgt := 120) hx hb dX4_next_115 (by decide) (fun c115 => ?_) (fun c115 => ?_)
                    · skip
                      refine lv_iinc (v := nI (i + 1)) (lv' := [(3, .int (nI (i + 1))), (4, .int (nI (nv (f (v % 8 * 48 + (9 + i / 32)))))), (0, .ref hm), (1, .int (nI v)), (2, .int (nI k))]) hx hb dX4_next_120 hl (k := 1) rfl (nI_add i 1) (by decide) rfl (fun ls hl => ?_)
                      refine lv_goto (tgt := 50) hx hb dX4_next_123 (by decide) ?_
                      exact ih50 (i + 1) (by omega) (Or.inr (by rcases Nat.lt_or_ge (i % 32) 31 with g | g; { exact Or.inr (by rw [show (i + 1) / 32 = i / 32 by omega]; exact hrt) }; exact Or.inl (by omega))) (by rw [ex]; exact nk_n (by omega) c100 (hrt.resolve_left c100) c115) (by omega) _ _ hP hD hS ls (lv_sub hl [0, 2, 3, 4] rfl)
                    · skip
                      refine lv_iload_n hx hb dX4_next_118 rfl (lv_at hl 1 rfl) ?_
                      exact ct_iret hx hb hr hlocks (by rw [e4, ifp_t (b2i_n0 c42), ex]; exact (nk_t (by omega) c100 (hrt.resolve_left c100) c115).symm) (rfl) hP hD hS dX4_next_119
                · skip
                  have c70 : ¬ (nv (f (v % 8 * 48 + (9 + i / 32)))) = 0 := fun h => c70 ((nI_eq (a := (nv (f (v % 8 * 48 + (9 + i / 32))))) (b := 0) (by omega) (by omega)).mpr h)
                  refine lv_iload_n hx hb dX4_next_73 rfl (lv_at hl 1 rfl) ?_
                  refine lv_iload_n hx hb dX4_next_74 rfl (lv_at hl 4 rfl) ?_
                  refine lv_icmp_eq (tgt := 85) hx hb dX4_next_75 (by decide) (fun c75 => ?_) (fun c75 => ?_)
                  · skip
                    have c75 : i = k := (nI_eq (a := i) (b := k) (by omega) (by omega)).mp c75
                    refine lv_aload_n hx hb dX4_next_85 rfl (lv_at hl 2 rfl) ?_
                    refine lv_iload hx hb dX4_next_86 (lv_at hl 0 rfl) ?_
                    refine lv_iconst (v := 2) hx hb dX4_next_88 (by decide) ?_
                    refine ct_calli (w := [(hm, .inr (4, [.int 0, .int (nI a), .ref gB, .int (nI nw), .int (nI ol), .int (b2i O), .int lf, .int us, .int (nI tc), .ref gT, .ref gZ, .int bd])), (gB, .inl (cI, 5760, .inl f)), (gT, .inl (cI, 32, .inl t)), (gZ, .inl (cZ, 120, .inl z))]) (w' := [(hm, .inr (4, [.int 0, .int (nI a), .ref gB, .int (nI nw), .int (nI ol), .int (b2i O), .int lf, .int us, .int (nI tc), .ref gT, .ref gZ, .int bd])), (gB, .inl (cI, 5760, .inl f)), (gT, .inl (cI, 32, .inl t)), (gZ, .inl (cZ, 120, .inl z))]) (va_runV (As := [.int (nI (nv (f (v % 8 * 48 + (9 + i / 32))))), .int 2]) (rest := []) ⟨hx, hb, hml, hown, hts⟩ (c_X4_isRight l D cI cZ hm gB gT gZ a tc nw ol f t z O lf us bd (nv (f (v % 8 * 48 + (9 + i / 32)))) 2 (by omega) (by omega) (by omega) (by omega) (by omega) (by omega) (Or.inr (Or.inl rfl)) _) (cwV 2 hts gX4_next_X4_isRight rfl rfl rfl (by decide +kernel) ⟨Nat.le_of_ble_eq_true rfl, Nat.le_of_ble_eq_true rfl⟩) (ct_preV (w := [(hm, .inr (4, [.int 0, .int (nI a), .ref gB, .int (nI nw), .int (nI ol), .int (b2i O), .int lf, .int us, .int (nI tc), .ref gT, .ref gZ, .int bd])), (gB, .inl (cI, 5760, .inl f)), (gT, .inl (cI, 32, .inl t)), (gZ, .inl (cZ, 120, .inl z))]) (ci := 4) (i0 := 0) hK hN hP hD [0, 1, 2, 3] (by decide) rfl rfl rfl) rfl rfl hl.1 rfl (lv_room (Nat.le_of_ble_eq_true rfl)) dX4_next_89 ⟨Nat.le_of_ble_eq_true rfl, Nat.le_of_ble_eq_true rfl⟩) hP hD hS hA [0, 1, 2, 3] rfl [hm, gB, gT, gZ] rfl rfl (fun H locs hP hD hS => ?_)
                    have hP : va_P D vwCl [(hm, .inr (4, [.int 0, .int (nI a), .ref gB, .int (nI nw), .int (nI ol), .int (b2i O), .int lf, .int us, .int (nI tc), .ref gT, .ref gZ, .int bd])), (gB, .inl (cI, 5760, .inl f)), (gT, .inl (cI, 32, .inl t)), (gZ, .inl (cZ, 120, .inl z))] _ := hP
                    have hD : va_D A [(hm, .inr (4, [.int 0, .int (nI a), .ref gB, .int (nI nw), .int (nI ol), .int (b2i O), .int lf, .int us, .int (nI tc), .ref gT, .ref gZ, .int bd])), (gB, .inl (cI, 5760, .inl f)), (gT, .inl (cI, 32, .inl t)), (gZ, .inl (cZ, 120, .inl z))] := hD
                    refine lv_if_ne (tgt := 98) hx hb dX4_next_92 (by decide) (fun c92 => ?_) (fun c92 => ?_)
                    · skip
                      have hrt : nv (f (v % 8 * 48 + (9 + i / 32))) = 0 ∨ pg_right f a (nv (f (v % 8 * 48 + (9 + i / 32)))) 2 := Or.inr (b2i_n0 c92)
                      refine lv_iload hx hb dX4_next_98 (lv_at hl 0 rfl) ?_
                      refine lv_if_eq (tgt := 120) hx hb dX4_next_100 (by decide) (fun c100 => ?_) (fun c100 => ?_)
                      · skip
                        have c100 : (nv (f (v % 8 * 48 + (9 + i / 32)))) = 0 := (nI_eq (a := (nv (f (v % 8 * 48 + (9 + i / 32))))) (b := 0) (by omega) (by omega)).mp c100
                        refine lv_iinc (v := nI (i + 1)) (lv' := [(3, .int (nI (i + 1))), (4, .int (nI (nv (f (v % 8 * 48 + (9 + i / 32)))))), (0, .ref hm), (1, .int (nI v)), (2, .int (nI k))]) hx hb dX4_next_120 hl (k := 1) rfl (nI_add i 1) (by decide) rfl (fun ls hl => ?_)
                        refine lv_goto (tgt := 50) hx hb dX4_next_123 (by decide) ?_
                        exact ih50 (i + 1) (by omega) (Or.inr (by rcases Nat.lt_or_ge (i % 32) 31 with g | g; { exact Or.inr (by rw [show (i + 1) / 32 = i / 32 by omega]; exact hrt) }; exact Or.inl (by omega))) (by rw [ex]; exact nk_0 (by omega) c100) (by omega) _ _ hP hD hS ls (lv_sub hl [0, 2, 3, 4] rfl)
                      · skip
                        have c100 : ¬ (nv (f (v % 8 * 48 + (9 + i / 32)))) = 0 := fun h => c100 ((nI_eq (a := (nv (f (v % 8 * 48 + (9 + i / 32))))) (b := 0) (by omega) (by omega)).mpr h)
                        refine lv_aload_n hx hb dX4_next_103 rfl (lv_at hl 2 rfl) ?_
                        refine lv_iload hx hb dX4_next_104 (lv_at hl 0 rfl) ?_
                        refine lv_iconst (v := 2) hx hb dX4_next_106 (by decide) ?_
                        refine lv_iload_n hx hb dX4_next_107 rfl (lv_at hl 1 rfl) ?_
                        refine lv_bipush (v := 32) hx hb dX4_next_108 (by decide) ?_
                        refine lv_irem hx hb dX4_next_110 (by decide) ?_
                        refine ct_top (y := nI (i % 32)) (pk_rem (by omega) (by decide) (by decide)) ?_
                        refine lv_iadd hx hb dX4_next_111 ?_
                        refine ct_top (y := nI (2 + (i % 32))) (nI_add 2 (i % 32)) ?_
                        refine ct_calli (w := [(hm, .inr (4, [.int 0, .int (nI a), .ref gB, .int (nI nw), .int (nI ol), .int (b2i O), .int lf, .int us, .int (nI tc), .ref gT, .ref gZ, .int bd])), (gB, .inl (cI, 5760, .inl f)), (gT, .inl (cI, 32, .inl t)), (gZ, .inl (cZ, 120, .inl z))]) (w' := [(hm, .inr (4, [.int 0, .int (nI a), .ref gB, .int (nI nw), .int (nI ol), .int (b2i O), .int lf, .int us, .int (nI tc), .ref gT, .ref gZ, .int bd])), (gB, .inl (cI, 5760, .inl f)), (gT, .inl (cI, 32, .inl t)), (gZ, .inl (cZ, 120, .inl z))]) (va_runV (As := [.int (nI (nv (f (v % 8 * 48 + (9 + i / 32))))), .int (nI (2 + (i % 32)))]) (rest := []) ⟨hx, hb, hml, hown, hts⟩ (c_X4_at l D cI cZ hm gB gT gZ a tc nw ol f t z O lf us bd (nv (f (v % 8 * 48 + (9 + i / 32)))) (2 + (i % 32)) (by omega) (by omega) (by omega) (by omega) (by omega) (by omega) (by omega) _) (cwV 2 hts gX4_next_X4_at rfl rfl rfl (by decide +kernel) ⟨Nat.le_of_ble_eq_true rfl, Nat.le_of_ble_eq_true rfl⟩) (ct_preV (w := [(hm, .inr (4, [.int 0, .int (nI a), .ref gB, .int (nI nw), .int (nI ol), .int (b2i O), .int lf, .int us, .int (nI tc), .ref gT, .ref gZ, .int bd])), (gB, .inl (cI, 5760, .inl f)), (gT, .inl (cI, 32, .inl t)), (gZ, .inl (cZ, 120, .inl z))]) (ci := 4) (i0 := 0) hK hN hP hD [0, 1, 2, 3] (by decide) rfl rfl rfl) rfl rfl hl.1 rfl (lv_room (Nat.le_of_ble_eq_true rfl)) dX4_next_112 ⟨Nat.le_of_ble_eq_true rfl, Nat.le_of_ble_eq_true rfl⟩) hP hD hS hA [0, 1, 2, 3] rfl [hm, gB, gT, gZ] rfl rfl (fun H locs hP hD hS => ?_)
                        have hP : va_P D vwCl [(hm, .inr (4, [.int 0, .int (nI a), .ref gB, .int (nI nw), .int (nI ol), .int (b2i O), .int lf, .int us, .int (nI tc), .ref gT, .ref gZ, .int bd])), (gB, .inl (cI, 5760, .inl f)), (gT, .inl (cI, 32, .inl t)), (gZ, .inl (cZ, 120, .inl z))] _ := hP
                        have hD : va_D A [(hm, .inr (4, [.int 0, .int (nI a), .ref gB, .int (nI nw), .int (nI ol), .int (b2i O), .int lf, .int us, .int (nI tc), .ref gT, .ref gZ, .int bd])), (gB, .inl (cI, 5760, .inl f)), (gT, .inl (cI, 32, .inl t)), (gZ, .inl (cZ, 120, .inl z))] := hD
                        refine lv_if_eq (tgt := 120) hx hb dX4_next_115 (by decide) (fun c115 => ?_) (fun c115 => ?_)
                        · skip
                          refine lv_iinc (v := nI (i + 1)) (lv' := [(3, .int (nI (i + 1))), (4, .int (nI (nv (f (v % 8 * 48 + (9 + i / 32)))))), (0, .ref hm), (1, .int (nI v)), (2, .int (nI k))]) hx hb dX4_next_120 hl (k := 1) rfl (nI_add i 1) (by decide) rfl (fun ls hl => ?_)
                          refine lv_goto (tgt := 50) hx hb dX4_next_123 (by decide) ?_
                          exact ih50 (i + 1) (by omega) (Or.inr (by rcases Nat.lt_or_ge (i % 32) 31 with g | g; { exact Or.inr (by rw [show (i + 1) / 32 = i / 32 by omega]; exact hrt) }; exact Or.inl (by omega))) (by rw [ex]; exact nk_n (by omega) c100 (hrt.resolve_left c100) c115) (by omega) _ _ hP hD hS ls (lv_sub hl [0, 2, 3, 4] rfl)
                        · skip
                          refine lv_iload_n hx hb dX4_next_118 rfl (lv_at hl 1 rfl) ?_
                          exact ct_iret hx hb hr hlocks (by rw [e4, ifp_t (b2i_n0 c42), ex]; exact (nk_t (by omega) c100 (hrt.resolve_left c100) c115).symm) (rfl) hP hD hS dX4_next_119
                    · skip
                      refine lv_bipush (v := (-4)) hx hb dX4_next_95 (by decide) ?_
                      exact ct_iret hx hb hr hlocks (by rw [e4, ifp_t (b2i_n0 c42), ex]; exact (nk_4 (by omega) c70 (b2i_0.mp c92)).symm) (rfl) hP hD hS dX4_next_97
                  · skip
                    have c75 : ¬ i = k := fun h => c75 ((nI_eq (a := i) (b := k) (by omega) (by omega)).mpr h)
                    refine lv_iload_n hx hb dX4_next_78 rfl (lv_at hl 1 rfl) ?_
                    refine lv_bipush (v := 32) hx hb dX4_next_79 (by decide) ?_
                    refine lv_irem hx hb dX4_next_81 (by decide) ?_
                    refine ct_top (y := nI (i % 32)) (pk_rem (by omega) (by decide) (by decide)) ?_
                    refine lv_if_ne (tgt := 98) hx hb dX4_next_82 (by decide) (fun c82 => ?_) (fun c82 => ?_)
                    · skip
                      have c82 : ¬ (i % 32) = 0 := fun h => c82 ((nI_eq (a := (i % 32)) (b := 0) (by omega) (by omega)).mpr h)
                      have hrt : nv (f (v % 8 * 48 + (9 + i / 32))) = 0 ∨ pg_right f a (nv (f (v % 8 * 48 + (9 + i / 32)))) 2 := hc.elim (fun h => absurd h c75) (fun h => h.elim (fun h => absurd h c82) id)
                      refine lv_iload hx hb dX4_next_98 (lv_at hl 0 rfl) ?_
                      refine lv_if_eq (tgt := 120) hx hb dX4_next_100 (by decide) (fun c100 => ?_) (fun c100 => ?_)
                      · skip
                        have c100 : (nv (f (v % 8 * 48 + (9 + i / 32)))) = 0 := (nI_eq (a := (nv (f (v % 8 * 48 + (9 + i / 32))))) (b := 0) (by omega) (by omega)).mp c100
                        refine lv_iinc (v := nI (i + 1)) (lv' := [(3, .int (nI (i + 1))), (4, .int (nI (nv (f (v % 8 * 48 + (9 + i / 32)))))), (0, .ref hm), (1, .int (nI v)), (2, .int (nI k))]) hx hb dX4_next_120 hl (k := 1) rfl (nI_add i 1) (by decide) rfl (fun ls hl => ?_)
                        refine lv_goto (tgt := 50) hx hb dX4_next_123 (by decide) ?_
                        exact ih50 (i + 1) (by omega) (Or.inr (by rcases Nat.lt_or_ge (i % 32) 31 with g | g; { exact Or.inr (by rw [show (i + 1) / 32 = i / 32 by omega]; exact hrt) }; exact Or.inl (by omega))) (by rw [ex]; exact nk_0 (by omega) c100) (by omega) _ _ hP hD hS ls (lv_sub hl [0, 2, 3, 4] rfl)
                      · skip
                        have c100 : ¬ (nv (f (v % 8 * 48 + (9 + i / 32)))) = 0 := fun h => c100 ((nI_eq (a := (nv (f (v % 8 * 48 + (9 + i / 32))))) (b := 0) (by omega) (by omega)).mpr h)
                        refine lv_aload_n hx hb dX4_next_103 rfl (lv_at hl 2 rfl) ?_
                        refine lv_iload hx hb dX4_next_104 (lv_at hl 0 rfl) ?_
                        refine lv_iconst (v := 2) hx hb dX4_next_106 (by decide) ?_
                        refine lv_iload_n hx hb dX4_next_107 rfl (lv_at hl 1 rfl) ?_
                        refine lv_bipush (v := 32) hx hb dX4_next_108 (by decide) ?_
                        refine lv_irem hx hb dX4_next_110 (by decide) ?_
                        refine ct_top (y := nI (i % 32)) (pk_rem (by omega) (by decide) (by decide)) ?_
                        refine lv_iadd hx hb dX4_next_111 ?_
                        refine ct_top (y := nI (2 + (i % 32))) (nI_add 2 (i % 32)) ?_
                        refine ct_calli (w := [(hm, .inr (4, [.int 0, .int (nI a), .ref gB, .int (nI nw), .int (nI ol), .int (b2i O), .int lf, .int us, .int (nI tc), .ref gT, .ref gZ, .int bd])), (gB, .inl (cI, 5760, .inl f)), (gT, .inl (cI, 32, .inl t)), (gZ, .inl (cZ, 120, .inl z))]) (w' := [(hm, .inr (4, [.int 0, .int (nI a), .ref gB, .int (nI nw), .int (nI ol), .int (b2i O), .int lf, .int us, .int (nI tc), .ref gT, .ref gZ, .int bd])), (gB, .inl (cI, 5760, .inl f)), (gT, .inl (cI, 32, .inl t)), (gZ, .inl (cZ, 120, .inl z))]) (va_runV (As := [.int (nI (nv (f (v % 8 * 48 + (9 + i / 32))))), .int (nI (2 + (i % 32)))]) (rest := []) ⟨hx, hb, hml, hown, hts⟩ (c_X4_at l D cI cZ hm gB gT gZ a tc nw ol f t z O lf us bd (nv (f (v % 8 * 48 + (9 + i / 32)))) (2 + (i % 32)) (by omega) (by omega) (by omega) (by omega) (by omega) (by omega) (by omega) _) (cwV 2 hts gX4_next_X4_at rfl rfl rfl (by decide +kernel) ⟨Nat.le_of_ble_eq_true rfl, Nat.le_of_ble_eq_true rfl⟩) (ct_preV (w := [(hm, .inr (4, [.int 0, .int (nI a), .ref gB, .int (nI nw), .int (nI ol), .int (b2i O), .int lf, .int us, .int (nI tc), .ref gT, .ref gZ, .int bd])), (gB, .inl (cI, 5760, .inl f)), (gT, .inl (cI, 32, .inl t)), (gZ, .inl (cZ, 120, .inl z))]) (ci := 4) (i0 := 0) hK hN hP hD [0, 1, 2, 3] (by decide) rfl rfl rfl) rfl rfl hl.1 rfl (lv_room (Nat.le_of_ble_eq_true rfl)) dX4_next_112 ⟨Nat.le_of_ble_eq_true rfl, Nat.le_of_ble_eq_true rfl⟩) hP hD hS hA [0, 1, 2, 3] rfl [hm, gB, gT, gZ] rfl rfl (fun H locs hP hD hS => ?_)
                        have hP : va_P D vwCl [(hm, .inr (4, [.int 0, .int (nI a), .ref gB, .int (nI nw), .int (nI ol), .int (b2i O), .int lf, .int us, .int (nI tc), .ref gT, .ref gZ, .int bd])), (gB, .inl (cI, 5760, .inl f)), (gT, .inl (cI, 32, .inl t)), (gZ, .inl (cZ, 120, .inl z))] _ := hP
                        have hD : va_D A [(hm, .inr (4, [.int 0, .int (nI a), .ref gB, .int (nI nw), .int (nI ol), .int (b2i O), .int lf, .int us, .int (nI tc), .ref gT, .ref gZ, .int bd])), (gB, .inl (cI, 5760, .inl f)), (gT, .inl (cI, 32, .inl t)), (gZ, .inl (cZ, 120, .inl z))] := hD
                        refine lv_if_eq (tgt := 120) hx hb dX4_next_115 (by decide) (fun c115 => ?_) (fun c115 => ?_)
                        · skip
                          refine lv_iinc (v := nI (i + 1)) (lv' := [(3, .int (nI (i + 1))), (4, .int (nI (nv (f (v % 8 * 48 + (9 + i / 32)))))), (0, .ref hm), (1, .int (nI v)), (2, .int (nI k))]) hx hb dX4_next_120 hl (k := 1) rfl (nI_add i 1) (by decide) rfl (fun ls hl => ?_)
                          refine lv_goto (tgt := 50) hx hb dX4_next_123 (by decide) ?_
                          exact ih50 (i + 1) (by omega) (Or.inr (by rcases Nat.lt_or_ge (i % 32) 31 with g | g; { exact Or.inr (by rw [show (i + 1) / 32 = i / 32 by omega]; exact hrt) }; exact Or.inl (by omega))) (by rw [ex]; exact nk_n (by omega) c100 (hrt.resolve_left c100) c115) (by omega) _ _ hP hD hS ls (lv_sub hl [0, 2, 3, 4] rfl)
                        · skip
                          refine lv_iload_n hx hb dX4_next_118 rfl (lv_at hl 1 rfl) ?_
                          exact ct_iret hx hb hr hlocks (by rw [e4, ifp_t (b2i_n0 c42), ex]; exact (nk_t (by omega) c100 (hrt.resolve_left c100) c115).symm) (rfl) hP hD hS dX4_next_119
                    · skip
                      have c82 : (i % 32) = 0 := (nI_eq (a := (i % 32)) (b := 0) (by omega) (by omega)).mp c82
                      refine lv_aload_n hx hb dX4_next_85 rfl (lv_at hl 2 rfl) ?_
                      refine lv_iload hx hb dX4_next_86 (lv_at hl 0 rfl) ?_
                      refine lv_iconst (v := 2) hx hb dX4_next_88 (by decide) ?_
                      refine ct_calli (w := [(hm, .inr (4, [.int 0, .int (nI a), .ref gB, .int (nI nw), .int (nI ol), .int (b2i O), .int lf, .int us, .int (nI tc), .ref gT, .ref gZ, .int bd])), (gB, .inl (cI, 5760, .inl f)), (gT, .inl (cI, 32, .inl t)), (gZ, .inl (cZ, 120, .inl z))]) (w' := [(hm, .inr (4, [.int 0, .int (nI a), .ref gB, .int (nI nw), .int (nI ol), .int (b2i O), .int lf, .int us, .int (nI tc), .ref gT, .ref gZ, .int bd])), (gB, .inl (cI, 5760, .inl f)), (gT, .inl (cI, 32, .inl t)), (gZ, .inl (cZ, 120, .inl z))]) (va_runV (As := [.int (nI (nv (f (v % 8 * 48 + (9 + i / 32))))), .int 2]) (rest := []) ⟨hx, hb, hml, hown, hts⟩ (c_X4_isRight l D cI cZ hm gB gT gZ a tc nw ol f t z O lf us bd (nv (f (v % 8 * 48 + (9 + i / 32)))) 2 (by omega) (by omega) (by omega) (by omega) (by omega) (by omega) (Or.inr (Or.inl rfl)) _) (cwV 2 hts gX4_next_X4_isRight rfl rfl rfl (by decide +kernel) ⟨Nat.le_of_ble_eq_true rfl, Nat.le_of_ble_eq_true rfl⟩) (ct_preV (w := [(hm, .inr (4, [.int 0, .int (nI a), .ref gB, .int (nI nw), .int (nI ol), .int (b2i O), .int lf, .int us, .int (nI tc), .ref gT, .ref gZ, .int bd])), (gB, .inl (cI, 5760, .inl f)), (gT, .inl (cI, 32, .inl t)), (gZ, .inl (cZ, 120, .inl z))]) (ci := 4) (i0 := 0) hK hN hP hD [0, 1, 2, 3] (by decide) rfl rfl rfl) rfl rfl hl.1 rfl (lv_room (Nat.le_of_ble_eq_true rfl)) dX4_next_89 ⟨Nat.le_of_ble_eq_true rfl, Nat.le_of_ble_eq_true rfl⟩) hP hD hS hA [0, 1, 2, 3] rfl [hm, gB, gT, gZ] rfl rfl (fun H locs hP hD hS => ?_)
                      have hP : va_P D vwCl [(hm, .inr (4, [.int 0, .int (nI a), .ref gB, .int (nI nw), .int (nI ol), .int (b2i O), .int lf, .int us, .int (nI tc), .ref gT, .ref gZ, .int bd])), (gB, .inl (cI, 5760, .inl f)), (gT, .inl (cI, 32, .inl t)), (gZ, .inl (cZ, 120, .inl z))] _ := hP
                      have hD : va_D A [(hm, .inr (4, [.int 0, .int (nI a), .ref gB, .int (nI nw), .int (nI ol), .int (b2i O), .int lf, .int us, .int (nI tc), .ref gT, .ref gZ, .int bd])), (gB, .inl (cI, 5760, .inl f)), (gT, .inl (cI, 32, .inl t)), (gZ, .inl (cZ, 120, .inl z))] := hD
                      refine lv_if_ne (tgt := 98) hx hb dX4_next_92 (by decide) (fun c92 => ?_) (fun c92 => ?_)
                      · skip
                        have hrt : nv (f (v % 8 * 48 + (9 + i / 32))) = 0 ∨ pg_right f a (nv (f (v % 8 * 48 + (9 + i / 32)))) 2 := Or.inr (b2i_n0 c92)
                        refine lv_iload hx hb dX4_next_98 (lv_at hl 0 rfl) ?_
                        refine lv_if_eq (tgt := 120) hx hb dX4_next_100 (by decide) (fun c100 => ?_) (fun c100 => ?_)
                        · skip
                          have c100 : (nv (f (v % 8 * 48 + (9 + i / 32)))) = 0 := (nI_eq (a := (nv (f (v % 8 * 48 + (9 + i / 32))))) (b := 0) (by omega) (by omega)).mp c100
                          refine lv_iinc (v := nI (i + 1)) (lv' := [(3, .int (nI (i + 1))), (4, .int (nI (nv (f (v % 8 * 48 + (9 + i / 32)))))), (0, .ref hm), (1, .int (nI v)), (2, .int (nI k))]) hx hb dX4_next_120 hl (k := 1) rfl (nI_add i 1) (by decide) rfl (fun ls hl => ?_)
                          refine lv_goto (tgt := 50) hx hb dX4_next_123 (by decide) ?_
                          exact ih50 (i + 1) (by omega) (Or.inr (by rcases Nat.lt_or_ge (i % 32) 31 with g | g; { exact Or.inr (by rw [show (i + 1) / 32 = i / 32 by omega]; exact hrt) }; exact Or.inl (by omega))) (by rw [ex]; exact nk_0 (by omega) c100) (by omega) _ _ hP hD hS ls (lv_sub hl [0, 2, 3, 4] rfl)
                        · skip
                          have c100 : ¬ (nv (f (v % 8 * 48 + (9 + i / 32)))) = 0 := fun h => c100 ((nI_eq (a := (nv (f (v % 8 * 48 + (9 + i / 32))))) (b := 0) (by omega) (by omega)).mpr h)
                          refine lv_aload_n hx hb dX4_next_103 rfl (lv_at hl 2 rfl) ?_
                          refine lv_iload hx hb dX4_next_104 (lv_at hl 0 rfl) ?_
                          refine lv_iconst (v := 2) hx hb dX4_next_106 (by decide) ?_
                          refine lv_iload_n hx hb dX4_next_107 rfl (lv_at hl 1 rfl) ?_
                          refine lv_bipush (v := 32) hx hb dX4_next_108 (by decide) ?_
                          refine lv_irem hx hb dX4_next_110 (by decide) ?_
                          refine ct_top (y := nI (i % 32)) (pk_rem (by omega) (by decide) (by decide)) ?_
                          refine lv_iadd hx hb dX4_next_111 ?_
                          refine ct_top (y := nI (2 + (i % 32))) (nI_add 2 (i % 32)) ?_
                          refine ct_calli (w := [(hm, .inr (4, [.int 0, .int (nI a), .ref gB, .int (nI nw), .int (nI ol), .int (b2i O), .int lf, .int us, .int (nI tc), .ref gT, .ref gZ, .int bd])), (gB, .inl (cI, 5760, .inl f)), (gT, .inl (cI, 32, .inl t)), (gZ, .inl (cZ, 120, .inl z))]) (w' := [(hm, .inr (4, [.int 0, .int (nI a), .ref gB, .int (nI nw), .int (nI ol), .int (b2i O), .int lf, .int us, .int (nI tc), .ref gT, .ref gZ, .int bd])), (gB, .inl (cI, 5760, .inl f)), (gT, .inl (cI, 32, .inl t)), (gZ, .inl (cZ, 120, .inl z))]) (va_runV (As := [.int (nI (nv (f (v % 8 * 48 + (9 + i / 32))))), .int (nI (2 + (i % 32)))]) (rest := []) ⟨hx, hb, hml, hown, hts⟩ (c_X4_at l D cI cZ hm gB gT gZ a tc nw ol f t z O lf us bd (nv (f (v % 8 * 48 + (9 + i / 32)))) (2 + (i % 32)) (by omega) (by omega) (by omega) (by omega) (by omega) (by omega) (by omega) _) (cwV 2 hts gX4_next_X4_at rfl rfl rfl (by decide +kernel) ⟨Nat.le_of_ble_eq_true rfl, Nat.le_of_ble_eq_true rfl⟩) (ct_preV (w := [(hm, .inr (4, [.int 0, .int (nI a), .ref gB, .int (nI nw), .int (nI ol), .int (b2i O), .int lf, .int us, .int (nI tc), .ref gT, .ref gZ, .int bd])), (gB, .inl (cI, 5760, .inl f)), (gT, .inl (cI, 32, .inl t)), (gZ, .inl (cZ, 120, .inl z))]) (ci := 4) (i0 := 0) hK hN hP hD [0, 1, 2, 3] (by decide) rfl rfl rfl) rfl rfl hl.1 rfl (lv_room (Nat.le_of_ble_eq_true rfl)) dX4_next_112 ⟨Nat.le_of_ble_eq_true rfl, Nat.le_of_ble_eq_true rfl⟩) hP hD hS hA [0, 1, 2, 3] rfl [hm, gB, gT, gZ] rfl rfl (fun H locs hP hD hS => ?_)
                          have hP : va_P D vwCl [(hm, .inr (4, [.int 0, .int (nI a), .ref gB, .int (nI nw), .int (nI ol), .int (b2i O), .int lf, .int us, .int (nI tc), .ref gT, .ref gZ, .int bd])), (gB, .inl (cI, 5760, .inl f)), (gT, .inl (cI, 32, .inl t)), (gZ, .inl (cZ, 120, .inl z))] _ := hP
                          have hD : va_D A [(hm, .inr (4, [.int 0, .int (nI a), .ref gB, .int (nI nw), .int (nI ol), .int (b2i O), .int lf, .int us, .int (nI tc), .ref gT, .ref gZ, .int bd])), (gB, .inl (cI, 5760, .inl f)), (gT, .inl (cI, 32, .inl t)), (gZ, .inl (cZ, 120, .inl z))] := hD
                          refine lv_if_eq (tgt := 120) hx hb dX4_next_115 (by decide) (fun c115 => ?_) (fun c115 => ?_)
                          · skip
                            refine lv_iinc (v := nI (i + 1)) (lv' := [(3, .int (nI (i + 1))), (4, .int (nI (nv (f (v % 8 * 48 + (9 + i / 32)))))), (0, .ref hm), (1, .int (nI v)), (2, .int (nI k))]) hx hb dX4_next_120 hl (k := 1) rfl (nI_add i 1) (by decide) rfl (fun ls hl => ?_)
                            refine lv_goto (tgt := 50) hx hb dX4_next_123 (by decide) ?_
                            exact ih50 (i + 1) (by omega) (Or.inr (by rcases Nat.lt_or_ge (i % 32) 31 with g | g; { exact Or.inr (by rw [show (i + 1) / 32 = i / 32 by omega]; exact hrt) }; exact Or.inl (by omega))) (by rw [ex]; exact nk_n (by omega) c100 (hrt.resolve_left c100) c115) (by omega) _ _ hP hD hS ls (lv_sub hl [0, 2, 3, 4] rfl)
                          · skip
                            refine lv_iload_n hx hb dX4_next_118 rfl (lv_at hl 1 rfl) ?_
                            exact ct_iret hx hb hr hlocks (by rw [e4, ifp_t (b2i_n0 c42), ex]; exact (nk_t (by omega) c100 (hrt.resolve_left c100) c115).symm) (rfl) hP hD hS dX4_next_119
                      · skip
                        refine lv_bipush (v := (-4)) hx hb dX4_next_95 (by decide) ?_
                        exact ct_iret hx hb hr hlocks (by rw [e4, ifp_t (b2i_n0 c42), ex]; exact (nk_4 (by omega) c70 (b2i_0.mp c92)).symm) (rfl) hP hD hS dX4_next_97
          exact loop50 _ k (by omega) (Or.inl rfl) (rfl) (Nat.lt_succ_self _) _ _ hP hD hS ls (lv_sub hl [0, 1, 2, 3] rfl)
        · skip
          refine lv_bipush (v := (-4)) hx hb dX4_next_45 (by decide) ?_
          exact ct_iret hx hb hr hlocks (by rw [e4, ifp_f (b2i_0.mp c42)]) (rfl) hP hD hS dX4_next_47
      · skip
        refine lv_bipush (v := (-2)) hx hb dX4_next_30 (by decide) ?_
        exact ct_iret hx hb hr hlocks (by unfold sp_next; rw [ifp_f (by unfold rrd; rw [ifp_f (b2i_0.mp c9), ifp_f (fun h => b2i_0.mp c27 h.2)]; decide)]; unfold rrd; rw [ifp_f (b2i_0.mp c9), ifp_f (fun h => b2i_0.mp c27 h.2)]) (rfl) hP hD hS dX4_next_32
  · skip
    refine lv_bipush (v := (-5)) hx hb dX4_next_12 (by decide) ?_
    exact ct_iret hx hb hr hlocks (by unfold sp_next; rw [ifp_f (by unfold rrd; rw [ifp_t (b2i_n0 c9)]; decide)]; unfold rrd; rw [ifp_t (b2i_n0 c9)]) (rfl) hP hD hS dX4_next_14
