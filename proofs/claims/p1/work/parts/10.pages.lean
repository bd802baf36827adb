set_option maxHeartbeats 4000000 in
set_option maxRecDepth 100000 in
theorem c_X0_has (l : Launch) (D : va_G) (cI cZ : ClassId) (hd hB a : Nat) (x y : Int32) (f : Nat → Int32)  : CtI l yX0_has wsX0_has ({ frames := 0, cells := 0, slots := 0, locals := 0 }) D vwCl (ct_T cI cZ) [.ref hd, .int x, .int y] [(hd, .inr (0, [.int (nI a), .ref hB])), (hB, .inl (cI, a * 48, .inl f))] [(hd, .inr (0, [.int (nI a), .ref hB])), (hB, .inl (cI, a * 48, .inl f))] (b2i (¬ x < 0 ∧ ¬ nI a ≤ x ∧ ¬ y < 0 ∧ ¬ 48 ≤ y)) := by
  refine ct_of (Qf := ct_Qi D vwCl [(hd, .inr (0, [.int (nI a), .ref hB])), (hB, .inl (cI, a * 48, .inl f))] (b2i (¬ x < 0 ∧ ¬ nI a ≤ x ∧ ¬ y < 0 ∧ ¬ 48 ≤ y))) (cc := cX0_has) (maxL := 3) (ret := (some .boolean)) [(0, .ref hd), (1, .int x), (2, .int y)] (by decide) rfl (Nat.le_of_ble_eq_true rfl) rfl ?_
  intro p e s m below meth c hx hb hr hts hown hlocks hml hnm A hA hK hN hP hD hS ls hl
  have hown : s.vm.findClass RX0 = some m.cls := hown
  have hk0 := hts (.fieldLink RX0 9 "DesignPages$Pages" "amount" "I") (by decide +kernel)
  have hiX0 : ∀ w ∈ wsX00, w ∈ wsX0_has := by decide +kernel
  refine lv_iload_n hx hb dX0_has_0 rfl (lv_at hl 1 rfl) ?_
  refine lv_if_lt (tgt := 26) hx hb dX0_has_1 (by decide) (fun c1 => ?_) (fun c1 => ?_)
  · skip
    refine lv_iconst (v := 0) hx hb dX0_has_26 (by decide) ?_
    exact ct_zret hx hb hr hlocks (rfl) ((b2i_f (fun h => by first | exact h.1 c1 | exact c1 h.1)).symm) (rfl) hP hD hS dX0_has_27
  · skip
    refine lv_iload_n hx hb dX0_has_4 rfl (lv_at hl 1 rfl) ?_
    refine lv_aload_n hx hb dX0_has_5 rfl (lv_at hl 0 rfl) ?_
    refine va_get (D := D) (cl := vwCl) (ci := 0) (v := .int (nI a)) (C := RX0) (T := TX0) (N := 2) hx hb hts hiX0 hown hK hP 0 rfl rfl 0 (by decide) hk0 (fun _ h9 => h9) rfl dX0_has_6 ?_
    refine lv_icmp_ge (tgt := 26) hx hb dX0_has_9 (by decide) (fun c9 => ?_) (fun c9 => ?_)
    · skip
      refine lv_iconst (v := 0) hx hb dX0_has_26 (by decide) ?_
      exact ct_zret hx hb hr hlocks (rfl) ((b2i_f (fun h => by first | exact h.2.1 c9 | exact c9 h.2.1)).symm) (rfl) hP hD hS dX0_has_27
    · skip
      refine lv_iload_n hx hb dX0_has_12 rfl (lv_at hl 2 rfl) ?_
      refine lv_if_lt (tgt := 26) hx hb dX0_has_13 (by decide) (fun c13 => ?_) (fun c13 => ?_)
      · skip
        refine lv_iconst (v := 0) hx hb dX0_has_26 (by decide) ?_
        exact ct_zret hx hb hr hlocks (rfl) ((b2i_f (fun h => by first | exact h.2.2.1 c13 | exact c13 h.2.2.1)).symm) (rfl) hP hD hS dX0_has_27
      · skip
        refine lv_iload_n hx hb dX0_has_16 rfl (lv_at hl 2 rfl) ?_
        refine lv_bipush (v := 48) hx hb dX0_has_17 (by decide) ?_
        refine lv_icmp_ge (tgt := 26) hx hb dX0_has_19 (by decide) (fun c19 => ?_) (fun c19 => ?_)
        · skip
          refine lv_iconst (v := 0) hx hb dX0_has_26 (by decide) ?_
          exact ct_zret hx hb hr hlocks (rfl) ((b2i_f (fun h => by first | exact h.2.2.2 c19 | exact c19 h.2.2.2)).symm) (rfl) hP hD hS dX0_has_27
        · skip
          refine lv_iconst (v := 1) hx hb dX0_has_22 (by decide) ?_
          refine lv_goto (tgt := 27) hx hb dX0_has_23 (by decide) ?_
          exact ct_zret hx hb hr hlocks (rfl) ((b2i_t ⟨c1, c9, c13, c19⟩).symm) (rfl) hP hD hS dX0_has_27
set_option maxHeartbeats 4000000 in
set_option maxRecDepth 100000 in
theorem c_X0_at (l : Launch) (D : va_G) (cI cZ : ClassId) (hd hB a q i : Nat) (f : Nat → Int32) (h1 : q < a) (h2 : i < 48) (ha : a ≤ 120) : CtI l yX0_at wsX0_at ({ frames := 0, cells := 0, slots := 0, locals := 0 }) D vwCl (ct_T cI cZ) [.ref hd, .int (nI q), .int (nI i)] [(hd, .inr (0, [.int (nI a), .ref hB])), (hB, .inl (cI, a * 48, .inl f))] [(hd, .inr (0, [.int (nI a), .ref hB])), (hB, .inl (cI, a * 48, .inl f))] (f (q * 48 + i)) := by
  refine ct_of (Qf := ct_Qi D vwCl [(hd, .inr (0, [.int (nI a), .ref hB])), (hB, .inl (cI, a * 48, .inl f))] (f (q * 48 + i))) (cc := cX0_at) (maxL := 3) (ret := (some .int)) [(0, .ref hd), (1, .int (nI q)), (2, .int (nI i))] (by decide) rfl (Nat.le_of_ble_eq_true rfl) rfl ?_
  intro p e s m below meth c hx hb hr hts hown hlocks hml hnm A hA hK hN hP hD hS ls hl
  have hown : s.vm.findClass RX0 = some m.cls := hown
  have hk0 := hts (.fieldLink RX0 15 "DesignPages$Pages" "bytes" "[I") (by decide +kernel)
  have hiX0 : ∀ w ∈ wsX00, w ∈ wsX0_at := by decide +kernel
  refine lv_aload_n hx hb dX0_at_0 rfl (lv_at hl 0 rfl) ?_
  refine va_get (D := D) (cl := vwCl) (ci := 0) (v := .ref hB) (C := RX0) (T := TX0) (N := 2) hx hb hts hiX0 hown hK hP 0 rfl rfl 1 (by decide) hk0 (fun _ h9 => h9) rfl dX0_at_1 ?_
  refine lv_iload_n hx hb dX0_at_4 rfl (lv_at hl 1 rfl) ?_
  refine lv_bipush (v := 48) hx hb dX0_at_5 (by decide) ?_
  refine lv_imul hx hb dX0_at_7 ?_
  refine ct_top (y := nI (q * 48)) (pk_mul q 48) ?_
  refine lv_iload_n hx hb dX0_at_8 rfl (lv_at hl 2 rfl) ?_
  refine lv_iadd hx hb dX0_at_9 ?_
  refine ct_top (y := nI ((q * 48) + i)) (nI_add (q * 48) i) ?_
  refine ct_iald hx hb hK hP 1 0 (k := ((q * 48) + i)) rfl rfl (by omega) (by omega) dX0_at_10 ?_
  exact ct_iret hx hb hr hlocks (rfl) (rfl) hP hD hS dX0_at_11
set_option maxHeartbeats 4000000 in
set_option maxRecDepth 100000 in
theorem c_X0_set (l : Launch) (D : va_G) (cI cZ : ClassId) (hd hB a q i : Nat) (x : Int32) (f : Nat → Int32) (h1 : q < a) (h2 : i < 48) (ha : a ≤ 120) : CtV l yX0_set wsX0_set ({ frames := 0, cells := 0, slots := 0, locals := 0 }) D vwCl (ct_T cI cZ) [.ref hd, .int (nI q), .int (nI i), .int x] [(hd, .inr (0, [.int (nI a), .ref hB])), (hB, .inl (cI, a * 48, .inl f))] [(hd, .inr (0, [.int (nI a), .ref hB])), (hB, .inl (cI, a * 48, .inl (upd f (q * 48 + i) x)))] := by
  refine ct_of (Qf := ct_Qv D vwCl [(hd, .inr (0, [.int (nI a), .ref hB])), (hB, .inl (cI, a * 48, .inl (upd f (q * 48 + i) x)))]) (cc := cX0_set) (maxL := 4) (ret := none) [(0, .ref hd), (1, .int (nI q)), (2, .int (nI i)), (3, .int x)] (by decide) rfl (Nat.le_of_ble_eq_true rfl) rfl ?_
  intro p e s m below meth c hx hb hr hts hown hlocks hml hnm A hA hK hN hP hD hS ls hl
  have hown : s.vm.findClass RX0 = some m.cls := hown
  have hk0 := hts (.fieldLink RX0 15 "DesignPages$Pages" "bytes" "[I") (by decide +kernel)
  have hiX0 : ∀ w ∈ wsX00, w ∈ wsX0_set := by decide +kernel
  refine lv_aload_n hx hb dX0_set_0 rfl (lv_at hl 0 rfl) ?_
  refine va_get (D := D) (cl := vwCl) (ci := 0) (v := .ref hB) (C := RX0) (T := TX0) (N := 2) hx hb hts hiX0 hown hK hP 0 rfl rfl 1 (by decide) hk0 (fun _ h9 => h9) rfl dX0_set_1 ?_
  refine lv_iload_n hx hb dX0_set_4 rfl (lv_at hl 1 rfl) ?_
  refine lv_bipush (v := 48) hx hb dX0_set_5 (by decide) ?_
  refine lv_imul hx hb dX0_set_7 ?_
  refine ct_top (y := nI (q * 48)) (pk_mul q 48) ?_
  refine lv_iload_n hx hb dX0_set_8 rfl (lv_at hl 2 rfl) ?_
  refine lv_iadd hx hb dX0_set_9 ?_
  refine ct_top (y := nI ((q * 48) + i)) (nI_add (q * 48) i) ?_
  refine lv_iload_n hx hb dX0_set_10 rfl (lv_at hl 3 rfl) ?_
  refine ct_iast hx hb hK hP hD hS 1 0 (k := ((q * 48) + i)) (x := x) rfl rfl (by omega) (by omega) dX0_set_11 (fun H locs hP hD hS => ?_)
  have hP : va_P D vwCl [(hd, .inr (0, [.int (nI a), .ref hB])), (hB, .inl (cI, a * 48, .inl (upd f ((q * 48) + i) x)))] _ := hP
  have hD : va_D A [(hd, .inr (0, [.int (nI a), .ref hB])), (hB, .inl (cI, a * 48, .inl (upd f ((q * 48) + i) x)))] := hD
  exact ct_vret hx hb hr hlocks (rfl) hP hD hS dX0_set_12
set_option maxHeartbeats 4000000 in
set_option maxRecDepth 100000 in
theorem c_X0_numberAt (l : Launch) (D : va_G) (cI cZ : ClassId) (hd hB a q i : Nat) (f : Nat → Int32) (h1 : q < a) (h2 : i + 3 < 48) (ha : a ≤ 120) : CtI l yX0_numberAt wsX0_numberAt ({ frames := 0, cells := 0, slots := 0, locals := 0 }) D vwCl (ct_T cI cZ) [.ref hd, .int (nI q), .int (nI i)] [(hd, .inr (0, [.int (nI a), .ref hB])), (hB, .inl (cI, a * 48, .inl f))] [(hd, .inr (0, [.int (nI a), .ref hB])), (hB, .inl (cI, a * 48, .inl f))] (pg_num f (q * 48 + i)) := by
  refine ct_of (Qf := ct_Qi D vwCl [(hd, .inr (0, [.int (nI a), .ref hB])), (hB, .inl (cI, a * 48, .inl f))] (pg_num f (q * 48 + i))) (cc := cX0_numberAt) (maxL := 4) (ret := (some .int)) [(0, .ref hd), (1, .int (nI q)), (2, .int (nI i))] (by decide) rfl (Nat.le_of_ble_eq_true rfl) rfl ?_
  intro p e s m below meth c hx hb hr hts hown hlocks hml hnm A hA hK hN hP hD hS ls hl
  have hown : s.vm.findClass RX0 = some m.cls := hown
  have hk0 := hts (.fieldLink RX0 15 "DesignPages$Pages" "bytes" "[I") (by decide +kernel)
  have hiX0 : ∀ w ∈ wsX00, w ∈ wsX0_numberAt := by decide +kernel
  refine lv_iload_n hx hb dX0_numberAt_0 rfl (lv_at hl 1 rfl) ?_
  refine lv_bipush (v := 48) hx hb dX0_numberAt_1 (by decide) ?_
  refine lv_imul hx hb dX0_numberAt_3 ?_
  refine ct_top (y := nI (q * 48)) (pk_mul q 48) ?_
  refine lv_iload_n hx hb dX0_numberAt_4 rfl (lv_at hl 2 rfl) ?_
  refine lv_iadd hx hb dX0_numberAt_5 ?_
  refine ct_top (y := nI ((q * 48) + i)) (nI_add (q * 48) i) ?_
  refine lv_istore_n (lv' := [(3, .int (nI ((q * 48) + i))), (0, .ref hd), (1, .int (nI q)), (2, .int (nI i))]) hx hb dX0_numberAt_6 rfl hl (by decide) rfl (fun ls hl => ?_)
  refine lv_aload_n hx hb dX0_numberAt_7 rfl (lv_at hl 1 rfl) ?_
  refine va_get (D := D) (cl := vwCl) (ci := 0) (v := .ref hB) (C := RX0) (T := TX0) (N := 2) hx hb hts hiX0 hown hK hP 0 rfl rfl 1 (by decide) hk0 (fun _ h9 => h9) rfl dX0_numberAt_8 ?_
  refine lv_iload_n hx hb dX0_numberAt_11 rfl (lv_at hl 0 rfl) ?_
  refine ct_iald hx hb hK hP 1 0 (k := ((q * 48) + i)) rfl rfl (by omega) (by omega) dX0_numberAt_12 ?_
  refine lv_bipush (v := 24) hx hb dX0_numberAt_13 (by decide) ?_
  refine lv_ishl hx hb dX0_numberAt_15 ?_
  refine lv_aload_n hx hb dX0_numberAt_16 rfl (lv_at hl 1 rfl) ?_
  refine va_get (D := D) (cl := vwCl) (ci := 0) (v := .ref hB) (C := RX0) (T := TX0) (N := 2) hx hb hts hiX0 hown hK hP 0 rfl rfl 1 (by decide) hk0 (fun _ h9 => h9) rfl dX0_numberAt_17 ?_
  refine lv_iload_n hx hb dX0_numberAt_20 rfl (lv_at hl 0 rfl) ?_
  refine lv_iconst (v := 1) hx hb dX0_numberAt_21 (by decide) ?_
  refine lv_iadd hx hb dX0_numberAt_22 ?_
  refine ct_top (y := nI (((q * 48) + i) + 1)) (nI_add ((q * 48) + i) 1) ?_
  refine ct_iald hx hb hK hP 1 0 (k := (((q * 48) + i) + 1)) rfl rfl (by omega) (by omega) dX0_numberAt_23 ?_
  refine lv_bipush (v := 16) hx hb dX0_numberAt_24 (by decide) ?_
  refine lv_ishl hx hb dX0_numberAt_26 ?_
  refine lv_ior hx hb dX0_numberAt_27 ?_
  refine lv_aload_n hx hb dX0_numberAt_28 rfl (lv_at hl 1 rfl) ?_
  refine va_get (D := D) (cl := vwCl) (ci := 0) (v := .ref hB) (C := RX0) (T := TX0) (N := 2) hx hb hts hiX0 hown hK hP 0 rfl rfl 1 (by decide) hk0 (fun _ h9 => h9) rfl dX0_numberAt_29 ?_
  refine lv_iload_n hx hb dX0_numberAt_32 rfl (lv_at hl 0 rfl) ?_
  refine lv_iconst (v := 2) hx hb dX0_numberAt_33 (by decide) ?_
  refine lv_iadd hx hb dX0_numberAt_34 ?_
  refine ct_top (y := nI (((q * 48) + i) + 2)) (nI_add ((q * 48) + i) 2) ?_
  refine ct_iald hx hb hK hP 1 0 (k := (((q * 48) + i) + 2)) rfl rfl (by omega) (by omega) dX0_numberAt_35 ?_
  refine lv_bipush (v := 8) hx hb dX0_numberAt_36 (by decide) ?_
  refine lv_ishl hx hb dX0_numberAt_38 ?_
  refine lv_ior hx hb dX0_numberAt_39 ?_
  refine lv_aload_n hx hb dX0_numberAt_40 rfl (lv_at hl 1 rfl) ?_
  refine va_get (D := D) (cl := vwCl) (ci := 0) (v := .ref hB) (C := RX0) (T := TX0) (N := 2) hx hb hts hiX0 hown hK hP 0 rfl rfl 1 (by decide) hk0 (fun _ h9 => h9) rfl dX0_numberAt_41 ?_
  refine lv_iload_n hx hb dX0_numberAt_44 rfl (lv_at hl 0 rfl) ?_
  refine lv_iconst (v := 3) hx hb dX0_numberAt_45 (by decide) ?_
  refine lv_iadd hx hb dX0_numberAt_46 ?_
  refine ct_top (y := nI (((q * 48) + i) + 3)) (nI_add ((q * 48) + i) 3) ?_
  refine ct_iald hx hb hK hP 1 0 (k := (((q * 48) + i) + 3)) rfl rfl (by omega) (by omega) dX0_numberAt_47 ?_
  refine lv_ior hx hb dX0_numberAt_48 ?_
  exact ct_iret hx hb hr hlocks (rfl) (rfl) hP hD hS dX0_numberAt_49
set_option maxHeartbeats 4000000 in
set_option maxRecDepth 100000 in
theorem c_X0_setNumber (l : Launch) (D : va_G) (cI cZ : ClassId) (hd hB a q i : Nat) (x : Int32) (f : Nat → Int32) (h1 : q < a) (h2 : i + 3 < 48) (ha : a ≤ 120) : CtV l yX0_setNumber wsX0_setNumber ({ frames := 0, cells := 0, slots := 0, locals := 0 }) D vwCl (ct_T cI cZ) [.ref hd, .int (nI q), .int (nI i), .int x] [(hd, .inr (0, [.int (nI a), .ref hB])), (hB, .inl (cI, a * 48, .inl f))] [(hd, .inr (0, [.int (nI a), .ref hB])), (hB, .inl (cI, a * 48, .inl (pg_setn f (q * 48 + i) x)))] := by
  refine ct_of (Qf := ct_Qv D vwCl [(hd, .inr (0, [.int (nI a), .ref hB])), (hB, .inl (cI, a * 48, .inl (pg_setn f (q * 48 + i) x)))]) (cc := cX0_setNumber) (maxL := 5) (ret := none) [(0, .ref hd), (1, .int (nI q)), (2, .int (nI i)), (3, .int x)] (by decide) rfl (Nat.le_of_ble_eq_true rfl) rfl ?_
  intro p e s m below meth c hx hb hr hts hown hlocks hml hnm A hA hK hN hP hD hS ls hl
  have hown : s.vm.findClass RX0 = some m.cls := hown
  have hk0 := hts (.fieldLink RX0 15 "DesignPages$Pages" "bytes" "[I") (by decide +kernel)
  have hiX0 : ∀ w ∈ wsX00, w ∈ wsX0_setNumber := by decide +kernel
  refine lv_iload_n hx hb dX0_setNumber_0 rfl (lv_at hl 1 rfl) ?_
  refine lv_bipush (v := 48) hx hb dX0_setNumber_1 (by decide) ?_
  refine lv_imul hx hb dX0_setNumber_3 ?_
  refine ct_top (y := nI (q * 48)) (pk_mul q 48) ?_
  refine lv_iload_n hx hb dX0_setNumber_4 rfl (lv_at hl 2 rfl) ?_
  refine lv_iadd hx hb dX0_setNumber_5 ?_
  refine ct_top (y := nI ((q * 48) + i)) (nI_add (q * 48) i) ?_
  refine lv_istore (lv' := [(4, .int (nI ((q * 48) + i))), (0, .ref hd), (1, .int (nI q)), (2, .int (nI i)), (3, .int x)]) hx hb dX0_setNumber_6 hl (by decide) rfl (fun ls hl => ?_)
  refine lv_aload_n hx hb dX0_setNumber_8 rfl (lv_at hl 1 rfl) ?_
  refine va_get (D := D) (cl := vwCl) (ci := 0) (v := .ref hB) (C := RX0) (T := TX0) (N := 2) hx hb hts hiX0 hown hK hP 0 rfl rfl 1 (by decide) hk0 (fun _ h9 => h9) rfl dX0_setNumber_9 ?_
  refine lv_iload hx hb dX0_setNumber_12 (lv_at hl 0 rfl) ?_
  refine lv_iload_n hx hb dX0_setNumber_14 rfl (lv_at hl 4 rfl) ?_
  refine lv_bipush (v := 24) hx hb dX0_setNumber_15 (by decide) ?_
  refine lv_iushr hx hb dX0_setNumber_17 rfl ?_
  refine ct_iast hx hb hK hP hD hS 1 0 (k := ((q * 48) + i)) (x := ((Int32.toUInt32 x >>> (Int32.toUInt32 24 &&& Int32.toUInt32 31)).toInt32)) rfl rfl (by omega) (by omega) dX0_setNumber_18 (fun H locs hP hD hS => ?_)
  have hP : va_P D vwCl [(hd, .inr (0, [.int (nI a), .ref hB])), (hB, .inl (cI, a * 48, .inl (upd f ((q * 48) + i) ((Int32.toUInt32 x >>> (Int32.toUInt32 24 &&& Int32.toUInt32 31)).toInt32))))] _ := hP
  have hD : va_D A [(hd, .inr (0, [.int (nI a), .ref hB])), (hB, .inl (cI, a * 48, .inl (upd f ((q * 48) + i) ((Int32.toUInt32 x >>> (Int32.toUInt32 24 &&& Int32.toUInt32 31)).toInt32))))] := hD
  refine lv_aload_n hx hb dX0_setNumber_19 rfl (lv_at hl 1 rfl) ?_
  refine va_get (D := D) (cl := vwCl) (ci := 0) (v := .ref hB) (C := RX0) (T := TX0) (N := 2) hx hb hts hiX0 hown hK hP 0 rfl rfl 1 (by decide) hk0 (fun _ h9 => h9) rfl dX0_setNumber_20 ?_
  refine lv_iload hx hb dX0_setNumber_23 (lv_at hl 0 rfl) ?_
  refine lv_iconst (v := 1) hx hb dX0_setNumber_25 (by decide) ?_
  refine lv_iadd hx hb dX0_setNumber_26 ?_
  refine ct_top (y := nI (((q * 48) + i) + 1)) (nI_add ((q * 48) + i) 1) ?_
  refine lv_iload_n hx hb dX0_setNumber_27 rfl (lv_at hl 4 rfl) ?_
  refine lv_bipush (v := 16) hx hb dX0_setNumber_28 (by decide) ?_
  refine lv_iushr hx hb dX0_setNumber_30 rfl ?_
  refine lv_sipush (v := 255) hx hb dX0_setNumber_31 (by decide) ?_
  refine lv_iand hx hb dX0_setNumber_34 ?_
  refine ct_iast hx hb hK hP hD hS 1 0 (k := (((q * 48) + i) + 1)) (x := (((Int32.toUInt32 x >>> (Int32.toUInt32 16 &&& Int32.toUInt32 31)).toInt32) &&& 255)) rfl rfl (by omega) (by omega) dX0_setNumber_35 (fun H locs hP hD hS => ?_)
  have hP : va_P D vwCl [(hd, .inr (0, [.int (nI a), .ref hB])), (hB, .inl (cI, a * 48, .inl (upd (upd f ((q * 48) + i) ((Int32.toUInt32 x >>> (Int32.toUInt32 24 &&& Int32.toUInt32 31)).toInt32)) (((q * 48) + i) + 1) (((Int32.toUInt32 x >>> (Int32.toUInt32 16 &&& Int32.toUInt32 31)).toInt32) &&& 255))))] _ := hP
  have hD : va_D A [(hd, .inr (0, [.int (nI a), .ref hB])), (hB, .inl (cI, a * 48, .inl (upd (upd f ((q * 48) + i) ((Int32.toUInt32 x >>> (Int32.toUInt32 24 &&& Int32.toUInt32 31)).toInt32)) (((q * 48) + i) + 1) (((Int32.toUInt32 x >>> (Int32.toUInt32 16 &&& Int32.toUInt32 31)).toInt32) &&& 255))))] := hD
  refine lv_aload_n hx hb dX0_setNumber_36 rfl (lv_at hl 1 rfl) ?_
  refine va_get (D := D) (cl := vwCl) (ci := 0) (v := .ref hB) (C := RX0) (T := TX0) (N := 2) hx hb hts hiX0 hown hK hP 0 rfl rfl 1 (by decide) hk0 (fun _ h9 => h9) rfl dX0_setNumber_37 ?_
  refine lv_iload hx hb dX0_setNumber_40 (lv_at hl 0 rfl) ?_
  refine lv_iconst (v := 2) hx hb dX0_setNumber_42 (by decide) ?_
  refine lv_iadd hx hb dX0_setNumber_43 ?_
  refine ct_top (y := nI (((q * 48) + i) + 2)) (nI_add ((q * 48) + i) 2) ?_
  refine lv_iload_n hx hb dX0_setNumber_44 rfl (lv_at hl 4 rfl) ?_
  refine lv_bipush (v := 8) hx hb dX0_setNumber_45 (by decide) ?_
  refine lv_iushr hx hb dX0_setNumber_47 rfl ?_
  refine lv_sipush (v := 255) hx hb dX0_setNumber_48 (by decide) ?_
  refine lv_iand hx hb dX0_setNumber_51 ?_
  refine ct_iast hx hb hK hP hD hS 1 0 (k := (((q * 48) + i) + 2)) (x := (((Int32.toUInt32 x >>> (Int32.toUInt32 8 &&& Int32.toUInt32 31)).toInt32) &&& 255)) rfl rfl (by omega) (by omega) dX0_setNumber_52 (fun H locs hP hD hS => ?_)
  have hP : va_P D vwCl [(hd, .inr (0, [.int (nI a), .ref hB])), (hB, .inl (cI, a * 48, .inl (upd (upd (upd f ((q * 48) + i) ((Int32.toUInt32 x >>> (Int32.toUInt32 24 &&& Int32.toUInt32 31)).toInt32)) (((q * 48) + i) + 1) (((Int32.toUInt32 x >>> (Int32.toUInt32 16 &&& Int32.toUInt32 31)).toInt32) &&& 255)) (((q * 48) + i) + 2) (((Int32.toUInt32 x >>> (Int32.toUInt32 8 &&& Int32.toUInt32 31)).toInt32) &&& 255))))] _ := hP
  have hD : va_D A [(hd, .inr (0, [.int (nI a), .ref hB])), (hB, .inl (cI, a * 48, .inl (upd (upd (upd f ((q * 48) + i) ((Int32.toUInt32 x >>> (Int32.toUInt32 24 &&& Int32.toUInt32 31)).toInt32)) (((q * 48) + i) + 1) (((Int32.toUInt32 x >>> (Int32.toUInt32 16 &&& Int32.toUInt32 31)).toInt32) &&& 255)) (((q * 48) + i) + 2) (((Int32.toUInt32 x >>> (Int32.toUInt32 8 &&& Int32.toUInt32 31)).toInt32) &&& 255))))] := hD
  refine lv_aload_n hx hb dX0_setNumber_53 rfl (lv_at hl 1 rfl) ?_
  refine va_get (D := D) (cl := vwCl) (ci := 0) (v := .ref hB) (C := RX0) (T := TX0) (N := 2) hx hb hts hiX0 hown hK hP 0 rfl rfl 1 (by decide) hk0 (fun _ h9 => h9) rfl dX0_setNumber_54 ?_
  refine lv_iload hx hb dX0_setNumber_57 (lv_at hl 0 rfl) ?_
  refine lv_iconst (v := 3) hx hb dX0_setNumber_59 (by decide) ?_
  refine lv_iadd hx hb dX0_setNumber_60 ?_
  refine ct_top (y := nI (((q * 48) + i) + 3)) (nI_add ((q * 48) + i) 3) ?_
  refine lv_iload_n hx hb dX0_setNumber_61 rfl (lv_at hl 4 rfl) ?_
  refine lv_sipush (v := 255) hx hb dX0_setNumber_62 (by decide) ?_
  refine lv_iand hx hb dX0_setNumber_65 ?_
  refine ct_iast hx hb hK hP hD hS 1 0 (k := (((q * 48) + i) + 3)) (x := (x &&& 255)) rfl rfl (by omega) (by omega) dX0_setNumber_66 (fun H locs hP hD hS => ?_)
  have hP : va_P D vwCl [(hd, .inr (0, [.int (nI a), .ref hB])), (hB, .inl (cI, a * 48, .inl (upd (upd (upd (upd f ((q * 48) + i) ((Int32.toUInt32 x >>> (Int32.toUInt32 24 &&& Int32.toUInt32 31)).toInt32)) (((q * 48) + i) + 1) (((Int32.toUInt32 x >>> (Int32.toUInt32 16 &&& Int32.toUInt32 31)).toInt32) &&& 255)) (((q * 48) + i) + 2) (((Int32.toUInt32 x >>> (Int32.toUInt32 8 &&& Int32.toUInt32 31)).toInt32) &&& 255)) (((q * 48) + i) + 3) (x &&& 255))))] _ := hP
  have hD : va_D A [(hd, .inr (0, [.int (nI a), .ref hB])), (hB, .inl (cI, a * 48, .inl (upd (upd (upd (upd f ((q * 48) + i) ((Int32.toUInt32 x >>> (Int32.toUInt32 24 &&& Int32.toUInt32 31)).toInt32)) (((q * 48) + i) + 1) (((Int32.toUInt32 x >>> (Int32.toUInt32 16 &&& Int32.toUInt32 31)).toInt32) &&& 255)) (((q * 48) + i) + 2) (((Int32.toUInt32 x >>> (Int32.toUInt32 8 &&& Int32.toUInt32 31)).toInt32) &&& 255)) (((q * 48) + i) + 3) (x &&& 255))))] := hD
  exact ct_vret hx hb hr hlocks (rfl) hP hD hS dX0_setNumber_67
set_option maxHeartbeats 4000000 in
set_option maxRecDepth 100000 in
theorem c_X0_sumOf (l : Launch) (D : va_G) (cI cZ : ClassId) (hd hB a q : Nat) (f : Nat → Int32) (h1 : q < a) (ha : a ≤ 120) : CtI l yX0_sumOf wsX0_sumOf ({ frames := 1, cells := 0, slots := 0, locals := 22 }) D vwCl (ct_T cI cZ) [.ref hd, .int (nI q)] [(hd, .inr (0, [.int (nI a), .ref hB])), (hB, .inl (cI, a * 48, .inl f))] [(hd, .inr (0, [.int (nI a), .ref hB])), (hB, .inl (cI, a * 48, .inl f))] (pg_sum f (q * 48) 44) := by
  refine ct_of (Qf := ct_Qi D vwCl [(hd, .inr (0, [.int (nI a), .ref hB])), (hB, .inl (cI, a * 48, .inl f))] (pg_sum f (q * 48) 44)) (cc := cX0_sumOf) (maxL := 5) (ret := (some .int)) [(0, .ref hd), (1, .int (nI q))] (by decide) rfl (Nat.le_of_ble_eq_true rfl) rfl ?_
  intro p e s m below meth c hx hb hr hts hown hlocks hml hnm A hA hK hN hP hD hS ls hl
  have hown : s.vm.findClass RX0 = some m.cls := hown
  have hk0 := hts (.constant RX0 57 (668265263)) (by decide +kernel)
  refine lv_iconst (v := 0) hx hb dX0_sumOf_0 (by decide) ?_
  refine lv_istore_n (lv' := [(2, .int 0), (0, .ref hd), (1, .int (nI q))]) hx hb dX0_sumOf_1 rfl hl (by decide) rfl (fun ls hl => ?_)
  refine lv_iconst (v := 0) hx hb dX0_sumOf_2 (by decide) ?_
  refine lv_istore_n (lv' := [(3, .int 0), (2, .int 0), (0, .ref hd), (1, .int (nI q))]) hx hb dX0_sumOf_3 rfl hl (by decide) rfl (fun ls hl => ?_)
  have loop4 : ∀ (n4 : Nat) (i : Nat) (x : Int32), i ≤ 44 → x = pg_sum f (q * 48) i → 44 - i < n4 → ∀ (H : Heap) (locs : List Loc), va_P D vwCl [(hd, .inr (0, [.int (nI a), .ref hB])), (hB, .inl (cI, a * 48, .inl f))] H → va_D A [(hd, .inr (0, [.int (nI a), .ref hB])), (hB, .inl (cI, a * 48, .inl f))] → va_S A s.heap H locs → ∀ (ls : Array Slot), lv_has ls 5 [(3, .int (nI i)), (2, .int x), (0, .ref hd), (1, .int (nI q))] → W p l e ({ frames := 1, cells := 0, slots := 0, locals := 22 }) s m ([.ref hd, .int (nI q)] : List Value).toArray below meth c H locs 0 0 (MQ below (ct_Qi D vwCl [(hd, .inr (0, [.int (nI a), .ref hB])), (hB, .inl (cI, a * 48, .inl f))] (pg_sum f (q * 48) 44) A) ([.ref hd, .int (nI q)] : List Value).toArray s 0 0 A) (F0 m 4 ls []) := by
    intro n4
    induction n4 with
    | zero =>
      intro i x _ _ hm
      exact absurd hm (Nat.not_lt_zero _)
    | succ n4 ih4 =>
      intro i x hi ex hm4 H locs hP hD hS ls hl
      refine lv_iload_n hx hb dX0_sumOf_4 rfl (lv_at hl 0 rfl) ?_
      refine lv_bipush (v := 44) hx hb dX0_sumOf_5 (by decide) ?_
      refine lv_icmp_ge (tgt := 41) hx hb dX0_sumOf_7 (by decide) (fun c7 => ?_) (fun c7 => ?_)
      · skip
        have c7 : 44 ≤ i := (nI_leI (a := 44) (b := i) (by omega) (by omega)).mp c7
        refine lv_iload_n hx hb dX0_sumOf_41 rfl (lv_at hl 1 rfl) ?_
        exact ct_iret hx hb hr hlocks (by have e1 : i = 44 := (by omega); subst e1; exact ex) (rfl) hP hD hS dX0_sumOf_42
      · skip
        have c7 : ¬ 44 ≤ i := fun h => c7 ((nI_leI (a := 44) (b := i) (by omega) (by omega)).mpr h)
        refine lv_iload_n hx hb dX0_sumOf_10 rfl (lv_at hl 1 rfl) ?_
        refine lv_aload_n hx hb dX0_sumOf_11 rfl (lv_at hl 2 rfl) ?_
        refine lv_iload_n hx hb dX0_sumOf_12 rfl (lv_at hl 3 rfl) ?_
        refine lv_iload_n hx hb dX0_sumOf_13 rfl (lv_at hl 0 rfl) ?_
        refine ct_calli (w := [(hd, .inr (0, [.int (nI a), .ref hB])), (hB, .inl (cI, a * 48, .inl f))]) (w' := [(hd, .inr (0, [.int (nI a), .ref hB])), (hB, .inl (cI, a * 48, .inl f))]) (va_runV (As := [.int (nI q), .int (nI i)]) (rest := [.int x]) ⟨hx, hb, hml, hown, hts⟩ (c_X0_at l D cI cZ hd hB a q i f (by omega) (by omega) (by omega) _) (cwV 2 hts gX0_sumOf_X0_at rfl rfl rfl (by decide +kernel) ⟨Nat.le_of_ble_eq_true rfl, Nat.le_of_ble_eq_true rfl⟩) (ct_preV (w := [(hd, .inr (0, [.int (nI a), .ref hB])), (hB, .inl (cI, a * 48, .inl f))]) (ci := 0) (i0 := 0) hK hN hP hD [0, 1] (by decide) rfl rfl rfl) rfl rfl hl.1 rfl (lv_room (Nat.le_of_ble_eq_true rfl)) dX0_sumOf_14 ⟨Nat.le_of_ble_eq_true rfl, Nat.le_of_ble_eq_true rfl⟩) hP hD hS hA [0, 1] rfl [hd, hB] rfl rfl (fun H locs hP hD hS => ?_)
        have hP : va_P D vwCl [(hd, .inr (0, [.int (nI a), .ref hB])), (hB, .inl (cI, a * 48, .inl f))] _ := hP
        have hD : va_D A [(hd, .inr (0, [.int (nI a), .ref hB])), (hB, .inl (cI, a * 48, .inl f))] := hD
        refine lv_ixor hx hb dX0_sumOf_17 ?_
        refine lv_istore (lv' := [(4, .int (x ^^^ (f (q * 48 + i)))), (3, .int (nI i)), (2, .int x), (0, .ref hd), (1, .int (nI q))]) hx hb dX0_sumOf_18 hl (by decide) rfl (fun ls hl => ?_)
        refine lv_iload hx hb dX0_sumOf_20 (lv_at hl 0 rfl) ?_
        refine lv_bipush (v := 9) hx hb dX0_sumOf_22 (by decide) ?_
        refine lv_ishl hx hb dX0_sumOf_24 ?_
        refine lv_iload hx hb dX0_sumOf_25 (lv_at hl 0 rfl) ?_
        refine lv_bipush (v := 23) hx hb dX0_sumOf_27 (by decide) ?_
        refine lv_iushr hx hb dX0_sumOf_29 rfl ?_
        refine lv_ior hx hb dX0_sumOf_30 ?_
        refine lv_ldc (v := 668265263) hx hb hown hk0 dX0_sumOf_31 ?_
        refine lv_imul hx hb dX0_sumOf_33 ?_
        refine lv_istore_n (lv' := [(2, .int ((((x ^^^ (f (q * 48 + i))) <<< (9 &&& 31)) ||| ((Int32.toUInt32 (x ^^^ (f (q * 48 + i))) >>> (Int32.toUInt32 23 &&& Int32.toUInt32 31)).toInt32)) * 668265263)), (4, .int (x ^^^ (f (q * 48 + i)))), (3, .int (nI i)), (0, .ref hd), (1, .int (nI q))]) hx hb dX0_sumOf_34 rfl hl (by decide) rfl (fun ls hl => ?_)
        refine lv_iinc (v := nI (i + 1)) (lv' := [(3, .int (nI (i + 1))), (2, .int ((((x ^^^ (f (q * 48 + i))) <<< (9 &&& 31)) ||| ((Int32.toUInt32 (x ^^^ (f (q * 48 + i))) >>> (Int32.toUInt32 23 &&& Int32.toUInt32 31)).toInt32)) * 668265263)), (4, .int (x ^^^ (f (q * 48 + i)))), (0, .ref hd), (1, .int (nI q))]) hx hb dX0_sumOf_35 hl (k := 2) rfl (nI_add i 1) (by decide) rfl (fun ls hl => ?_)
        refine lv_goto (tgt := 4) hx hb dX0_sumOf_38 (by decide) ?_
        exact ih4 (i + 1) ((((x ^^^ (f (q * 48 + i))) <<< (9 &&& 31)) ||| ((Int32.toUInt32 (x ^^^ (f (q * 48 + i))) >>> (Int32.toUInt32 23 &&& Int32.toUInt32 31)).toInt32)) * 668265263) (by omega) (by subst ex; rfl) (by omega) _ _ hP hD hS ls (lv_sub hl [0, 1, 3, 4] rfl)
  exact loop4 _ 0 0 (by omega) (rfl) (Nat.lt_succ_self _) _ _ hP hD hS ls (lv_sub hl [0, 1, 2, 3] rfl)
set_option maxHeartbeats 4000000 in
set_option maxRecDepth 100000 in
theorem c_X0_pagesTold (l : Launch) (D : va_G) (cI cZ : ClassId) (hd hB a q st n : Nat) (f : Nat → Int32) (h1 : q < a) (h2 : st + n ≤ 48) (ha : a ≤ 120) : CtI l yX0_pagesTold wsX0_pagesTold ({ frames := 1, cells := 0, slots := 0, locals := 22 }) D vwCl (ct_T cI cZ) [.ref hd, .int (nI q), .int (nI st), .int (nI n)] [(hd, .inr (0, [.int (nI a), .ref hB])), (hB, .inl (cI, a * 48, .inl f))] [(hd, .inr (0, [.int (nI a), .ref hB])), (hB, .inl (cI, a * 48, .inl f))] (nI (pg_told f (q * 48 + st) n)) := by
  refine ct_of (Qf := ct_Qi D vwCl [(hd, .inr (0, [.int (nI a), .ref hB])), (hB, .inl (cI, a * 48, .inl f))] (nI (pg_told f (q * 48 + st) n))) (cc := cX0_pagesTold) (maxL := 6) (ret := (some .int)) [(0, .ref hd), (1, .int (nI q)), (2, .int (nI st)), (3, .int (nI n))] (by decide) rfl (Nat.le_of_ble_eq_true rfl) rfl ?_
  intro p e s m below meth c hx hb hr hts hown hlocks hml hnm A hA hK hN hP hD hS ls hl
  have hown : s.vm.findClass RX0 = some m.cls := hown
  refine lv_iconst (v := 0) hx hb dX0_pagesTold_0 (by decide) ?_
  refine lv_istore (lv' := [(4, .int 0), (0, .ref hd), (1, .int (nI q)), (2, .int (nI st)), (3, .int (nI n))]) hx hb dX0_pagesTold_1 hl (by decide) rfl (fun ls hl => ?_)
  refine lv_iconst (v := 0) hx hb dX0_pagesTold_3 (by decide) ?_
  refine lv_istore (lv' := [(5, .int 0), (4, .int 0), (0, .ref hd), (1, .int (nI q)), (2, .int (nI st)), (3, .int (nI n))]) hx hb dX0_pagesTold_4 hl (by decide) rfl (fun ls hl => ?_)
  have loop6 : ∀ (n6 : Nat) (i k : Nat), i ≤ n → k = pg_told f (q * 48 + st) i → n - i < n6 → ∀ (H : Heap) (locs : List Loc), va_P D vwCl [(hd, .inr (0, [.int (nI a), .ref hB])), (hB, .inl (cI, a * 48, .inl f))] H → va_D A [(hd, .inr (0, [.int (nI a), .ref hB])), (hB, .inl (cI, a * 48, .inl f))] → va_S A s.heap H locs → ∀ (ls : Array Slot), lv_has ls 6 [(5, .int (nI i)), (4, .int (nI k)), (0, .ref hd), (1, .int (nI q)), (2, .int (nI st)), (3, .int (nI n))] → W p l e ({ frames := 1, cells := 0, slots := 0, locals := 22 }) s m ([.ref hd, .int (nI q), .int (nI st), .int (nI n)] : List Value).toArray below meth c H locs 0 0 (MQ below (ct_Qi D vwCl [(hd, .inr (0, [.int (nI a), .ref hB])), (hB, .inl (cI, a * 48, .inl f))] (nI (pg_told f (q * 48 + st) n)) A) ([.ref hd, .int (nI q), .int (nI st), .int (nI n)] : List Value).toArray s 0 0 A) (F0 m 6 ls []) := by
    intro n6
    induction n6 with
    | zero =>
      intro i k _ _ hm
      exact absurd hm (Nat.not_lt_zero _)
    | succ n6 ih6 =>
      intro i k hi ex hm6 H locs hP hD hS ls hl
      refine lv_iload hx hb dX0_pagesTold_6 (lv_at hl 0 rfl) ?_
      refine lv_iload_n hx hb dX0_pagesTold_8 rfl (lv_at hl 5 rfl) ?_
      refine lv_icmp_ge (tgt := 33) hx hb dX0_pagesTold_9 (by decide) (fun c9 => ?_) (fun c9 => ?_)
      · skip
        have c9 : n ≤ i := (nI_leI (a := n) (b := i) (by omega) (by omega)).mp c9
        refine lv_iload hx hb dX0_pagesTold_33 (lv_at hl 1 rfl) ?_
        exact ct_iret hx hb hr hlocks (by have e1 : i = n := (by omega); subst e1; rw [ex]) (rfl) hP hD hS dX0_pagesTold_35
      · skip
        have c9 : ¬ n ≤ i := fun h => c9 ((nI_leI (a := n) (b := i) (by omega) (by omega)).mpr h)
        refine lv_aload_n hx hb dX0_pagesTold_12 rfl (lv_at hl 2 rfl) ?_
        refine lv_iload_n hx hb dX0_pagesTold_13 rfl (lv_at hl 3 rfl) ?_
        refine lv_iload_n hx hb dX0_pagesTold_14 rfl (lv_at hl 4 rfl) ?_
        refine lv_iload hx hb dX0_pagesTold_15 (lv_at hl 0 rfl) ?_
        refine lv_iadd hx hb dX0_pagesTold_17 ?_
        refine ct_top (y := nI (st + i)) (nI_add st i) ?_
        refine ct_calli (w := [(hd, .inr (0, [.int (nI a), .ref hB])), (hB, .inl (cI, a * 48, .inl f))]) (w' := [(hd, .inr (0, [.int (nI a), .ref hB])), (hB, .inl (cI, a * 48, .inl f))]) (va_runV (As := [.int (nI q), .int (nI (st + i))]) (rest := []) ⟨hx, hb, hml, hown, hts⟩ (c_X0_at l D cI cZ hd hB a q (st + i) f (by omega) (by omega) (by omega) _) (cwV 2 hts gX0_pagesTold_X0_at rfl rfl rfl (by decide +kernel) ⟨Nat.le_of_ble_eq_true rfl, Nat.le_of_ble_eq_true rfl⟩) (ct_preV (w := [(hd, .inr (0, [.int (nI a), .ref hB])), (hB, .inl (cI, a * 48, .inl f))]) (ci := 0) (i0 := 0) hK hN hP hD [0, 1] (by decide) rfl rfl rfl) rfl rfl hl.1 rfl (lv_room (Nat.le_of_ble_eq_true rfl)) dX0_pagesTold_18 ⟨Nat.le_of_ble_eq_true rfl, Nat.le_of_ble_eq_true rfl⟩) hP hD hS hA [0, 1] rfl [hd, hB] rfl rfl (fun H locs hP hD hS => ?_)
        have hP : va_P D vwCl [(hd, .inr (0, [.int (nI a), .ref hB])), (hB, .inl (cI, a * 48, .inl f))] _ := hP
        have hD : va_D A [(hd, .inr (0, [.int (nI a), .ref hB])), (hB, .inl (cI, a * 48, .inl f))] := hD
        refine lv_if_eq (tgt := 27) hx hb dX0_pagesTold_21 (by decide) (fun c21 => ?_) (fun c21 => ?_)
        · skip
          refine lv_iinc (v := nI (i + 1)) (lv' := [(5, .int (nI (i + 1))), (4, .int (nI k)), (0, .ref hd), (1, .int (nI q)), (2, .int (nI st)), (3, .int (nI n))]) hx hb dX0_pagesTold_27 hl (k := 0) rfl (nI_add i 1) (by decide) rfl (fun ls hl => ?_)
          refine lv_goto (tgt := 6) hx hb dX0_pagesTold_30 (by decide) ?_
          exact ih6 (i + 1) k (by omega) (by rw [← Nat.add_assoc] at c21; rw [pg_told_0 c21]; exact ex) (by omega) _ _ hP hD hS ls (lv_sub hl [0, 1, 2, 3, 4, 5] rfl)
        · skip
          refine lv_iinc (v := nI (k + 1)) (lv' := [(4, .int (nI (k + 1))), (5, .int (nI i)), (0, .ref hd), (1, .int (nI q)), (2, .int (nI st)), (3, .int (nI n))]) hx hb dX0_pagesTold_24 hl (k := 1) rfl (nI_add k 1) (by decide) rfl (fun ls hl => ?_)
          refine lv_iinc (v := nI (i + 1)) (lv' := [(5, .int (nI (i + 1))), (4, .int (nI (k + 1))), (0, .ref hd), (1, .int (nI q)), (2, .int (nI st)), (3, .int (nI n))]) hx hb dX0_pagesTold_27 hl (k := 1) rfl (nI_add i 1) (by decide) rfl (fun ls hl => ?_)
          refine lv_goto (tgt := 6) hx hb dX0_pagesTold_30 (by decide) ?_
          exact ih6 (i + 1) (k + 1) (by omega) (by rw [← Nat.add_assoc] at c21; rw [pg_told_1 c21, ← ex]) (by omega) _ _ hP hD hS ls (lv_sub hl [0, 1, 2, 3, 4, 5] rfl)
  exact loop6 _ 0 0 (by omega) (rfl) (Nat.lt_succ_self _) _ _ hP hD hS ls (lv_sub hl [0, 1, 2, 3, 4, 5] rfl)
set_option maxHeartbeats 4000000 in
set_option maxRecDepth 100000 in
theorem c_X0_tellsRightPages (l : Launch) (D : va_G) (cI cZ : ClassId) (hd hB a q st n : Nat) (f : Nat → Int32) (h1 : q < a) (h2 : st + n ≤ 48) (ha : a ≤ 120) : CtI l yX0_tellsRightPages wsX0_tellsRightPages ({ frames := 1, cells := 0, slots := 0, locals := 22 }) D vwCl (ct_T cI cZ) [.ref hd, .int (nI q), .int (nI st), .int (nI n)] [(hd, .inr (0, [.int (nI a), .ref hB])), (hB, .inl (cI, a * 48, .inl f))] [(hd, .inr (0, [.int (nI a), .ref hB])), (hB, .inl (cI, a * 48, .inl f))] (b2i (pg_ok f a (q * 48 + st) n)) := by
  refine ct_of (Qf := ct_Qi D vwCl [(hd, .inr (0, [.int (nI a), .ref hB])), (hB, .inl (cI, a * 48, .inl f))] (b2i (pg_ok f a (q * 48 + st) n))) (cc := cX0_tellsRightPages) (maxL := 6) (ret := (some .boolean)) [(0, .ref hd), (1, .int (nI q)), (2, .int (nI st)), (3, .int (nI n))] (by decide) rfl (Nat.le_of_ble_eq_true rfl) rfl ?_
  intro p e s m below meth c hx hb hr hts hown hlocks hml hnm A hA hK hN hP hD hS ls hl
  have hown : s.vm.findClass RX0 = some m.cls := hown
  have hk0 := hts (.fieldLink RX0 9 "DesignPages$Pages" "amount" "I") (by decide +kernel)
  have hiX0 : ∀ w ∈ wsX00, w ∈ wsX0_tellsRightPages := by decide +kernel
  refine lv_iconst (v := 0) hx hb dX0_tellsRightPages_0 (by decide) ?_
  refine lv_istore (lv' := [(4, .int 0), (0, .ref hd), (1, .int (nI q)), (2, .int (nI st)), (3, .int (nI n))]) hx hb dX0_tellsRightPages_1 hl (by decide) rfl (fun ls hl => ?_)
  have loop3 : ∀ (n3 : Nat) (i : Nat), i ≤ n → pg_ok f a (q * 48 + st) i → n - i < n3 → ∀ (H : Heap) (locs : List Loc), va_P D vwCl [(hd, .inr (0, [.int (nI a), .ref hB])), (hB, .inl (cI, a * 48, .inl f))] H → va_D A [(hd, .inr (0, [.int (nI a), .ref hB])), (hB, .inl (cI, a * 48, .inl f))] → va_S A s.heap H locs → ∀ (ls : Array Slot), lv_has ls 6 [(4, .int (nI i)), (0, .ref hd), (1, .int (nI q)), (2, .int (nI st)), (3, .int (nI n))] → W p l e ({ frames := 1, cells := 0, slots := 0, locals := 22 }) s m ([.ref hd, .int (nI q), .int (nI st), .int (nI n)] : List Value).toArray below meth c H locs 0 0 (MQ below (ct_Qi D vwCl [(hd, .inr (0, [.int (nI a), .ref hB])), (hB, .inl (cI, a * 48, .inl f))] (b2i (pg_ok f a (q * 48 + st) n)) A) ([.ref hd, .int (nI q), .int (nI st), .int (nI n)] : List Value).toArray s 0 0 A) (F0 m 3 ls []) := by
    intro n3
    induction n3 with
    | zero =>
      intro i _ _ hm
      exact absurd hm (Nat.not_lt_zero _)
    | succ n3 ih3 =>
      intro i hi ho hm3 H locs hP hD hS ls hl
      refine lv_iload hx hb dX0_tellsRightPages_3 (lv_at hl 0 rfl) ?_
      refine lv_iload_n hx hb dX0_tellsRightPages_5 rfl (lv_at hl 4 rfl) ?_
      refine lv_icmp_ge (tgt := 49) hx hb dX0_tellsRightPages_6 (by decide) (fun c6 => ?_) (fun c6 => ?_)
      · skip
        have c6 : n ≤ i := (nI_leI (a := n) (b := i) (by omega) (by omega)).mp c6
        refine lv_iconst (v := 1) hx hb dX0_tellsRightPages_49 (by decide) ?_
        exact ct_zret hx hb hr hlocks (rfl) ((b2i_t (by have e1 : i = n := (by omega); subst e1; exact ho)).symm) (rfl) hP hD hS dX0_tellsRightPages_50
      · skip
        have c6 : ¬ n ≤ i := fun h => c6 ((nI_leI (a := n) (b := i) (by omega) (by omega)).mpr h)
        refine lv_aload_n hx hb dX0_tellsRightPages_9 rfl (lv_at hl 1 rfl) ?_
        refine lv_iload_n hx hb dX0_tellsRightPages_10 rfl (lv_at hl 2 rfl) ?_
        refine lv_iload_n hx hb dX0_tellsRightPages_11 rfl (lv_at hl 3 rfl) ?_
        refine lv_iload hx hb dX0_tellsRightPages_12 (lv_at hl 0 rfl) ?_
        refine lv_iadd hx hb dX0_tellsRightPages_14 ?_
        refine ct_top (y := nI (st + i)) (nI_add st i) ?_
        refine ct_calli (w := [(hd, .inr (0, [.int (nI a), .ref hB])), (hB, .inl (cI, a * 48, .inl f))]) (w' := [(hd, .inr (0, [.int (nI a), .ref hB])), (hB, .inl (cI, a * 48, .inl f))]) (va_runV (As := [.int (nI q), .int (nI (st + i))]) (rest := []) ⟨hx, hb, hml, hown, hts⟩ (c_X0_at l D cI cZ hd hB a q (st + i) f (by omega) (by omega) (by omega) _) (cwV 2 hts gX0_tellsRightPages_X0_at rfl rfl rfl (by decide +kernel) ⟨Nat.le_of_ble_eq_true rfl, Nat.le_of_ble_eq_true rfl⟩) (ct_preV (w := [(hd, .inr (0, [.int (nI a), .ref hB])), (hB, .inl (cI, a * 48, .inl f))]) (ci := 0) (i0 := 0) hK hN hP hD [0, 1] (by decide) rfl rfl rfl) rfl rfl hl.1 rfl (lv_room (Nat.le_of_ble_eq_true rfl)) dX0_tellsRightPages_15 ⟨Nat.le_of_ble_eq_true rfl, Nat.le_of_ble_eq_true rfl⟩) hP hD hS hA [0, 1] rfl [hd, hB] rfl rfl (fun H locs hP hD hS => ?_)
        have hP : va_P D vwCl [(hd, .inr (0, [.int (nI a), .ref hB])), (hB, .inl (cI, a * 48, .inl f))] _ := hP
        have hD : va_D A [(hd, .inr (0, [.int (nI a), .ref hB])), (hB, .inl (cI, a * 48, .inl f))] := hD
        refine lv_istore (lv' := [(5, .int (f (q * 48 + (st + i)))), (4, .int (nI i)), (0, .ref hd), (1, .int (nI q)), (2, .int (nI st)), (3, .int (nI n))]) hx hb dX0_tellsRightPages_18 hl (by decide) rfl (fun ls hl => ?_)
        refine lv_iload hx hb dX0_tellsRightPages_20 (lv_at hl 0 rfl) ?_
        refine lv_if_eq (tgt := 43) hx hb dX0_tellsRightPages_22 (by decide) (fun c22 => ?_) (fun c22 => ?_)
        · skip
          refine lv_iinc (v := nI (i + 1)) (lv' := [(4, .int (nI (i + 1))), (5, .int (f (q * 48 + (st + i)))), (0, .ref hd), (1, .int (nI q)), (2, .int (nI st)), (3, .int (nI n))]) hx hb dX0_tellsRightPages_43 hl (k := 1) rfl (nI_add i 1) (by decide) rfl (fun ls hl => ?_)
          refine lv_goto (tgt := 3) hx hb dX0_tellsRightPages_46 (by decide) ?_
          exact ih3 (i + 1) (by omega) (fun j hj => by rcases Nat.lt_or_ge j i with e1 | e1; { exact ho j e1 }; have e2 : j = i := (by omega); subst e2; rw [Nat.add_assoc]; exact Or.inl c22) (by omega) _ _ hP hD hS ls (lv_sub hl [0, 2, 3, 4, 5] rfl)
        · skip
          refine lv_iload hx hb dX0_tellsRightPages_25 (lv_at hl 0 rfl) ?_
          refine lv_bipush (v := 8) hx hb dX0_tellsRightPages_27 (by decide) ?_
          refine lv_icmp_lt (tgt := 41) hx hb dX0_tellsRightPages_29 (by decide) (fun c29 => ?_) (fun c29 => ?_)
          · skip
            refine lv_iconst (v := 0) hx hb dX0_tellsRightPages_41 (by decide) ?_
            exact ct_zret hx hb hr hlocks (rfl) ((b2i_f (fun h => by have h2 := h i (by omega); rw [Nat.add_assoc] at h2; rcases h2 with h2 | h3; { exact c22 h2 }; exact h3.1 c29)).symm) (rfl) hP hD hS dX0_tellsRightPages_42
          · skip
            refine lv_iload hx hb dX0_tellsRightPages_32 (lv_at hl 0 rfl) ?_
            refine lv_aload_n hx hb dX0_tellsRightPages_34 rfl (lv_at hl 2 rfl) ?_
            refine va_get (D := D) (cl := vwCl) (ci := 0) (v := .int (nI a)) (C := RX0) (T := TX0) (N := 2) hx hb hts hiX0 hown hK hP 0 rfl rfl 0 (by decide) hk0 (fun _ h9 => h9) rfl dX0_tellsRightPages_35 ?_
            refine lv_icmp_lt (tgt := 43) hx hb dX0_tellsRightPages_38 (by decide) (fun c38 => ?_) (fun c38 => ?_)
            · skip
              refine lv_iinc (v := nI (i + 1)) (lv' := [(4, .int (nI (i + 1))), (5, .int (f (q * 48 + (st + i)))), (0, .ref hd), (1, .int (nI q)), (2, .int (nI st)), (3, .int (nI n))]) hx hb dX0_tellsRightPages_43 hl (k := 1) rfl (nI_add i 1) (by decide) rfl (fun ls hl => ?_)
              refine lv_goto (tgt := 3) hx hb dX0_tellsRightPages_46 (by decide) ?_
              exact ih3 (i + 1) (by omega) (fun j hj => by rcases Nat.lt_or_ge j i with e1 | e1; { exact ho j e1 }; have e2 : j = i := (by omega); subst e2; rw [Nat.add_assoc]; exact Or.inr ⟨c29, Int32.not_le.mpr c38⟩) (by omega) _ _ hP hD hS ls (lv_sub hl [0, 2, 3, 4, 5] rfl)
            · skip
              refine lv_iconst (v := 0) hx hb dX0_tellsRightPages_41 (by decide) ?_
              exact ct_zret hx hb hr hlocks (rfl) ((b2i_f (fun h => by have h2 := h i (by omega); rw [Nat.add_assoc] at h2; rcases h2 with h2 | h3; { exact c22 h2 }; exact h3.2 (Int32.not_lt.mp c38))).symm) (rfl) hP hD hS dX0_tellsRightPages_42
  exact loop3 _ 0 (by omega) (fun j hj => absurd hj (Nat.not_lt_zero j)) (Nat.lt_succ_self _) _ _ hP hD hS ls (lv_sub hl [0, 1, 2, 3, 4] rfl)
set_option maxHeartbeats 4000000 in
set_option maxRecDepth 100000 in
theorem c_X3_pageOfRoot (l : Launch) (D : va_G) (cI cZ : ClassId) (x : Int32)  : CtI l yX3_pageOfRoot wsX3_pageOfRoot ({ frames := 0, cells := 0, slots := 0, locals := 0 }) D vwCl (ct_T cI cZ) [.int x] [] [] (x - x / 8 * 8) := by
  refine ct_of (Qf := ct_Qi D vwCl [] (x - x / 8 * 8)) (cc := cX3_pageOfRoot) (maxL := 1) (ret := (some .int)) [(0, .int x)] (by decide) rfl (Nat.le_of_ble_eq_true rfl) rfl ?_
  intro p e s m below meth c hx hb hr hts hown hlocks hml hnm A hA hK hN hP hD hS ls hl
  have hown : s.vm.findClass RX3 = some m.cls := hown
  refine lv_iload_n hx hb dX3_pageOfRoot_0 rfl (lv_at hl 0 rfl) ?_
  refine lv_bipush (v := 8) hx hb dX3_pageOfRoot_1 (by decide) ?_
  refine lv_irem hx hb dX3_pageOfRoot_3 (by decide) ?_
  exact ct_iret hx hb hr hlocks (rfl) (rfl) hP hD hS dX3_pageOfRoot_4
set_option maxHeartbeats 4000000 in
set_option maxRecDepth 100000 in
theorem c_X0_tellsVersions (l : Launch) (D : va_G) (cI cZ : ClassId) (hd hB a q : Nat) (f : Nat → Int32) (h1 : q < a) (ha : a ≤ 120) : CtI l yX0_tellsVersions wsX0_tellsVersions ({ frames := 1, cells := 0, slots := 0, locals := 23 }) D vwCl (ct_T cI cZ) [.ref hd, .int (nI q)] [(hd, .inr (0, [.int (nI a), .ref hB])), (hB, .inl (cI, a * 48, .inl f))] [(hd, .inr (0, [.int (nI a), .ref hB])), (hB, .inl (cI, a * 48, .inl f))] (b2i (pg_vers f q)) := by
  refine ct_of (Qf := ct_Qi D vwCl [(hd, .inr (0, [.int (nI a), .ref hB])), (hB, .inl (cI, a * 48, .inl f))] (b2i (pg_vers f q))) (cc := cX0_tellsVersions) (maxL := 4) (ret := (some .boolean)) [(0, .ref hd), (1, .int (nI q))] (by decide) rfl (Nat.le_of_ble_eq_true rfl) rfl ?_
  intro p e s m below meth c hx hb hr hts hown hlocks hml hnm A hA hK hN hP hD hS ls hl
  have hown : s.vm.findClass RX0 = some m.cls := hown
  have hk0 := hts (.constant RX0 58 (1000000)) (by decide +kernel)
  have hk1 := hts (.static yX3_pageOfRoot) (by decide +kernel)
  have hk2 := hts (.initialized RX3) (by decide +kernel)
  refine lv_aload_n hx hb dX0_tellsVersions_0 rfl (lv_at hl 0 rfl) ?_
  refine lv_iload_n hx hb dX0_tellsVersions_1 rfl (lv_at hl 1 rfl) ?_
  refine lv_iconst (v := 1) hx hb dX0_tellsVersions_2 (by decide) ?_
  refine ct_calli (w := [(hd, .inr (0, [.int (nI a), .ref hB])), (hB, .inl (cI, a * 48, .inl f))]) (w' := [(hd, .inr (0, [.int (nI a), .ref hB])), (hB, .inl (cI, a * 48, .inl f))]) (va_runV (As := [.int (nI q), .int 1]) (rest := []) ⟨hx, hb, hml, hown, hts⟩ (c_X0_numberAt l D cI cZ hd hB a q 1 f (by omega) (by omega) (by omega) _) (cwV 2 hts gX0_tellsVersions_X0_numberAt rfl rfl rfl (by decide +kernel) ⟨Nat.le_of_ble_eq_true rfl, Nat.le_of_ble_eq_true rfl⟩) (ct_preV (w := [(hd, .inr (0, [.int (nI a), .ref hB])), (hB, .inl (cI, a * 48, .inl f))]) (ci := 0) (i0 := 0) hK hN hP hD [0, 1] (by decide) rfl rfl rfl) rfl rfl hl.1 rfl (lv_room (Nat.le_of_ble_eq_true rfl)) dX0_tellsVersions_3 ⟨Nat.le_of_ble_eq_true rfl, Nat.le_of_ble_eq_true rfl⟩) hP hD hS hA [0, 1] rfl [hd, hB] rfl rfl (fun H locs hP hD hS => ?_)
  have hP : va_P D vwCl [(hd, .inr (0, [.int (nI a), .ref hB])), (hB, .inl (cI, a * 48, .inl f))] _ := hP
  have hD : va_D A [(hd, .inr (0, [.int (nI a), .ref hB])), (hB, .inl (cI, a * 48, .inl f))] := hD
  refine lv_istore_n (lv' := [(2, .int (pg_num f (q * 48 + 1))), (0, .ref hd), (1, .int (nI q))]) hx hb dX0_tellsVersions_6 rfl hl (by decide) rfl (fun ls hl => ?_)
  refine lv_aload_n hx hb dX0_tellsVersions_7 rfl (lv_at hl 1 rfl) ?_
  refine lv_iload_n hx hb dX0_tellsVersions_8 rfl (lv_at hl 2 rfl) ?_
  refine lv_iconst (v := 5) hx hb dX0_tellsVersions_9 (by decide) ?_
  refine ct_calli (w := [(hd, .inr (0, [.int (nI a), .ref hB])), (hB, .inl (cI, a * 48, .inl f))]) (w' := [(hd, .inr (0, [.int (nI a), .ref hB])), (hB, .inl (cI, a * 48, .inl f))]) (va_runV (As := [.int (nI q), .int 5]) (rest := []) ⟨hx, hb, hml, hown, hts⟩ (c_X0_numberAt l D cI cZ hd hB a q 5 f (by omega) (by omega) (by omega) _) (cwV 2 hts gX0_tellsVersions_X0_numberAt rfl rfl rfl (by decide +kernel) ⟨Nat.le_of_ble_eq_true rfl, Nat.le_of_ble_eq_true rfl⟩) (ct_preV (w := [(hd, .inr (0, [.int (nI a), .ref hB])), (hB, .inl (cI, a * 48, .inl f))]) (ci := 0) (i0 := 0) hK hN hP hD [0, 1] (by decide) rfl rfl rfl) rfl rfl hl.1 rfl (lv_room (Nat.le_of_ble_eq_true rfl)) dX0_tellsVersions_10 ⟨Nat.le_of_ble_eq_true rfl, Nat.le_of_ble_eq_true rfl⟩) hP hD hS hA [0, 1] rfl [hd, hB] rfl rfl (fun H locs hP hD hS => ?_)
  have hP : va_P D vwCl [(hd, .inr (0, [.int (nI a), .ref hB])), (hB, .inl (cI, a * 48, .inl f))] _ := hP
  have hD : va_D A [(hd, .inr (0, [.int (nI a), .ref hB])), (hB, .inl (cI, a * 48, .inl f))] := hD
  refine lv_istore_n (lv' := [(3, .int (pg_num f (q * 48 + 5))), (2, .int (pg_num f (q * 48 + 1))), (0, .ref hd), (1, .int (nI q))]) hx hb dX0_tellsVersions_13 rfl hl (by decide) rfl (fun ls hl => ?_)
  refine lv_iload_n hx hb dX0_tellsVersions_14 rfl (lv_at hl 1 rfl) ?_
  refine lv_iconst (v := 1) hx hb dX0_tellsVersions_15 (by decide) ?_
  refine lv_icmp_lt (tgt := 55) hx hb dX0_tellsVersions_16 (by decide) (fun c16 => ?_) (fun c16 => ?_)
  · skip
    refine lv_iconst (v := 0) hx hb dX0_tellsVersions_55 (by decide) ?_
    exact ct_zret hx hb hr hlocks (rfl) ((b2i_f (fun h => by first | exact h.1 c16 | exact c16 h.1)).symm) (rfl) hP hD hS dX0_tellsVersions_56
  · skip
    refine lv_iload_n hx hb dX0_tellsVersions_19 rfl (lv_at hl 1 rfl) ?_
    refine lv_ldc (v := 1000000) hx hb hown hk0 dX0_tellsVersions_20 ?_
    refine lv_icmp_gt (tgt := 55) hx hb dX0_tellsVersions_22 (by decide) (fun c22 => ?_) (fun c22 => ?_)
    · skip
      refine lv_iconst (v := 0) hx hb dX0_tellsVersions_55 (by decide) ?_
      exact ct_zret hx hb hr hlocks (rfl) ((b2i_f (fun h => by first | exact h.2.1 c22 | exact c22 h.2.1)).symm) (rfl) hP hD hS dX0_tellsVersions_56
    · skip
      refine lv_iload_n hx hb dX0_tellsVersions_25 rfl (lv_at hl 1 rfl) ?_
      refine ct_calli (w := []) (w' := []) (va_runSN (As := [.int (pg_num f (q * 48 + 1))]) (rest := []) ⟨hx, hb, hml, hown, hts⟩ (c_X3_pageOfRoot l D cI cZ (pg_num f (q * 48 + 1)) _) ⟨va_cnB 1 hts gX0_tellsVersions_X3_pageOfRoot_n59 rfl rfl rfl hN.1 hk2 (by decide +kernel) ⟨Nat.le_of_ble_eq_true rfl, Nat.le_of_ble_eq_true rfl⟩, hk1, trivial⟩ (ct_preS (w := []) hK hN hP hD [] (by decide) rfl) rfl rfl hl.1 rfl (lv_room (Nat.le_of_ble_eq_true rfl)) dX0_tellsVersions_26 ⟨Nat.le_of_ble_eq_true rfl, Nat.le_of_ble_eq_true rfl⟩) hP hD hS hA [] rfl [] rfl rfl (fun H locs hP hD hS => ?_)
      have hP : va_P D vwCl [(hd, .inr (0, [.int (nI a), .ref hB])), (hB, .inl (cI, a * 48, .inl f))] _ := hP
      have hD : va_D A [(hd, .inr (0, [.int (nI a), .ref hB])), (hB, .inl (cI, a * 48, .inl f))] := hD
      refine lv_iload_n hx hb dX0_tellsVersions_29 rfl (lv_at hl 3 rfl) ?_
      refine lv_icmp_ne (tgt := 55) hx hb dX0_tellsVersions_30 (by decide) (fun c30 => ?_) (fun c30 => ?_)
      · skip
        refine lv_iconst (v := 0) hx hb dX0_tellsVersions_55 (by decide) ?_
        exact ct_zret hx hb hr hlocks (rfl) ((b2i_f (fun h => by first | exact h.2.2.1 c30 | exact c30 h.2.2.1)).symm) (rfl) hP hD hS dX0_tellsVersions_56
      · skip
        refine lv_iload_n hx hb dX0_tellsVersions_33 rfl (lv_at hl 0 rfl) ?_
        refine lv_iconst (v := 1) hx hb dX0_tellsVersions_34 (by decide) ?_
        refine lv_icmp_lt (tgt := 55) hx hb dX0_tellsVersions_35 (by decide) (fun c35 => ?_) (fun c35 => ?_)
        · skip
          refine lv_iconst (v := 0) hx hb dX0_tellsVersions_55 (by decide) ?_
          exact ct_zret hx hb hr hlocks (rfl) ((b2i_f (fun h => by first | exact h.2.2.2.1 c35 | exact c35 h.2.2.2.1)).symm) (rfl) hP hD hS dX0_tellsVersions_56
        · skip
          refine lv_iload_n hx hb dX0_tellsVersions_38 rfl (lv_at hl 0 rfl) ?_
          refine lv_iload_n hx hb dX0_tellsVersions_39 rfl (lv_at hl 1 rfl) ?_
          refine lv_icmp_gt (tgt := 55) hx hb dX0_tellsVersions_40 (by decide) (fun c40 => ?_) (fun c40 => ?_)
          · skip
            refine lv_iconst (v := 0) hx hb dX0_tellsVersions_55 (by decide) ?_
            exact ct_zret hx hb hr hlocks (rfl) ((b2i_f (fun h => by first | exact h.2.2.2.2.1 c40 | exact c40 h.2.2.2.2.1)).symm) (rfl) hP hD hS dX0_tellsVersions_56
          · skip
            refine lv_iload_n hx hb dX0_tellsVersions_43 rfl (lv_at hl 0 rfl) ?_
            refine lv_iload_n hx hb dX0_tellsVersions_44 rfl (lv_at hl 1 rfl) ?_
            refine lv_bipush (v := 7) hx hb dX0_tellsVersions_45 (by decide) ?_
            refine lv_isub hx hb dX0_tellsVersions_47 ?_
            refine lv_icmp_lt (tgt := 55) hx hb dX0_tellsVersions_48 (by decide) (fun c48 => ?_) (fun c48 => ?_)
            · skip
              refine lv_iconst (v := 0) hx hb dX0_tellsVersions_55 (by decide) ?_
              exact ct_zret hx hb hr hlocks (rfl) ((b2i_f (fun h => by first | exact h.2.2.2.2.2 c48 | exact c48 h.2.2.2.2.2)).symm) (rfl) hP hD hS dX0_tellsVersions_56
            · skip
              refine lv_iconst (v := 1) hx hb dX0_tellsVersions_51 (by decide) ?_
              refine lv_goto (tgt := 56) hx hb dX0_tellsVersions_52 (by decide) ?_
              exact ct_zret hx hb hr hlocks (rfl) ((b2i_t ⟨c16, c22, c30, c35, c40, c48⟩).symm) (rfl) hP hD hS dX0_tellsVersions_56
set_option maxHeartbeats 4000000 in
set_option maxRecDepth 100000 in
theorem c_X0_isRight (l : Launch) (D : va_G) (cI cZ : ClassId) (hd hB a q : Nat) (k : Int32) (f : Nat → Int32) (h1 : q < a) (ha : a ≤ 120) : CtI l yX0_isRight wsX0_isRight ({ frames := 2, cells := 0, slots := 0, locals := 47 }) D vwCl (ct_T cI cZ) [.ref hd, .int (nI q), .int k] [(hd, .inr (0, [.int (nI a), .ref hB])), (hB, .inl (cI, a * 48, .inl f))] [(hd, .inr (0, [.int (nI a), .ref hB])), (hB, .inl (cI, a * 48, .inl f))] (b2i (pg_right f a q k)) := by
  refine ct_of (Qf := ct_Qi D vwCl [(hd, .inr (0, [.int (nI a), .ref hB])), (hB, .inl (cI, a * 48, .inl f))] (b2i (pg_right f a q k))) (cc := cX0_isRight) (maxL := 3) (ret := (some .boolean)) [(0, .ref hd), (1, .int (nI q)), (2, .int k)] (by decide) rfl (Nat.le_of_ble_eq_true rfl) rfl ?_
  intro p e s m below meth c hx hb hr hts hown hlocks hml hnm A hA hK hN hP hD hS ls hl
  have hown : s.vm.findClass RX0 = some m.cls := hown
  refine lv_aload_n hx hb dX0_isRight_0 rfl (lv_at hl 0 rfl) ?_
  refine lv_iload_n hx hb dX0_isRight_1 rfl (lv_at hl 1 rfl) ?_
  refine lv_iconst (v := 0) hx hb dX0_isRight_2 (by decide) ?_
  refine ct_calli (w := [(hd, .inr (0, [.int (nI a), .ref hB])), (hB, .inl (cI, a * 48, .inl f))]) (w' := [(hd, .inr (0, [.int (nI a), .ref hB])), (hB, .inl (cI, a * 48, .inl f))]) (va_runV (As := [.int (nI q), .int 0]) (rest := []) ⟨hx, hb, hml, hown, hts⟩ (c_X0_at l D cI cZ hd hB a q 0 f (by omega) (by omega) (by omega) _) (cwV 2 hts gX0_isRight_X0_at rfl rfl rfl (by decide +kernel) ⟨Nat.le_of_ble_eq_true rfl, Nat.le_of_ble_eq_true rfl⟩) (ct_preV (w := [(hd, .inr (0, [.int (nI a), .ref hB])), (hB, .inl (cI, a * 48, .inl f))]) (ci := 0) (i0 := 0) hK hN hP hD [0, 1] (by decide) rfl rfl rfl) rfl rfl hl.1 rfl (lv_room (Nat.le_of_ble_eq_true rfl)) dX0_isRight_3 ⟨Nat.le_of_ble_eq_true rfl, Nat.le_of_ble_eq_true rfl⟩) hP hD hS hA [0, 1] rfl [hd, hB] rfl rfl (fun H locs hP hD hS => ?_)
  have hP : va_P D vwCl [(hd, .inr (0, [.int (nI a), .ref hB])), (hB, .inl (cI, a * 48, .inl f))] _ := hP
  have hD : va_D A [(hd, .inr (0, [.int (nI a), .ref hB])), (hB, .inl (cI, a * 48, .inl f))] := hD
  refine lv_iload_n hx hb dX0_isRight_6 rfl (lv_at hl 2 rfl) ?_
  refine lv_icmp_ne (tgt := 25) hx hb dX0_isRight_7 (by decide) (fun c7 => ?_) (fun c7 => ?_)
  · skip
    refine lv_iconst (v := 0) hx hb dX0_isRight_25 (by decide) ?_
    exact ct_zret hx hb hr hlocks (rfl) ((b2i_f (fun h => c7 h.1)).symm) (rfl) hP hD hS dX0_isRight_26
  · skip
    refine lv_aload_n hx hb dX0_isRight_10 rfl (lv_at hl 0 rfl) ?_
    refine lv_iload_n hx hb dX0_isRight_11 rfl (lv_at hl 1 rfl) ?_
    refine lv_bipush (v := 44) hx hb dX0_isRight_12 (by decide) ?_
    refine ct_calli (w := [(hd, .inr (0, [.int (nI a), .ref hB])), (hB, .inl (cI, a * 48, .inl f))]) (w' := [(hd, .inr (0, [.int (nI a), .ref hB])), (hB, .inl (cI, a * 48, .inl f))]) (va_runV (As := [.int (nI q), .int 44]) (rest := []) ⟨hx, hb, hml, hown, hts⟩ (c_X0_numberAt l D cI cZ hd hB a q 44 f (by omega) (by omega) (by omega) _) (cwV 2 hts gX0_isRight_X0_numberAt rfl rfl rfl (by decide +kernel) ⟨Nat.le_of_ble_eq_true rfl, Nat.le_of_ble_eq_true rfl⟩) (ct_preV (w := [(hd, .inr (0, [.int (nI a), .ref hB])), (hB, .inl (cI, a * 48, .inl f))]) (ci := 0) (i0 := 0) hK hN hP hD [0, 1] (by decide) rfl rfl rfl) rfl rfl hl.1 rfl (lv_room (Nat.le_of_ble_eq_true rfl)) dX0_isRight_14 ⟨Nat.le_of_ble_eq_true rfl, Nat.le_of_ble_eq_true rfl⟩) hP hD hS hA [0, 1] rfl [hd, hB] rfl rfl (fun H locs hP hD hS => ?_)
    have hP : va_P D vwCl [(hd, .inr (0, [.int (nI a), .ref hB])), (hB, .inl (cI, a * 48, .inl f))] _ := hP
    have hD : va_D A [(hd, .inr (0, [.int (nI a), .ref hB])), (hB, .inl (cI, a * 48, .inl f))] := hD
    refine lv_aload_n hx hb dX0_isRight_17 rfl (lv_at hl 0 rfl) ?_
    refine lv_iload_n hx hb dX0_isRight_18 rfl (lv_at hl 1 rfl) ?_
    refine ct_calli (w := [(hd, .inr (0, [.int (nI a), .ref hB])), (hB, .inl (cI, a * 48, .inl f))]) (w' := [(hd, .inr (0, [.int (nI a), .ref hB])), (hB, .inl (cI, a * 48, .inl f))]) (va_runV (As := [.int (nI q)]) (rest := [.int (pg_num f (q * 48 + 44))]) ⟨hx, hb, hml, hown, hts⟩ (c_X0_sumOf l D cI cZ hd hB a q f (by omega) (by omega) _) (cwV 1 hts gX0_isRight_X0_sumOf rfl rfl rfl (by decide +kernel) ⟨Nat.le_of_ble_eq_true rfl, Nat.le_of_ble_eq_true rfl⟩) (ct_preV (w := [(hd, .inr (0, [.int (nI a), .ref hB])), (hB, .inl (cI, a * 48, .inl f))]) (ci := 0) (i0 := 0) hK hN hP hD [0, 1] (by decide) rfl rfl rfl) rfl rfl hl.1 rfl (lv_room (Nat.le_of_ble_eq_true rfl)) dX0_isRight_19 ⟨Nat.le_of_ble_eq_true rfl, Nat.le_of_ble_eq_true rfl⟩) hP hD hS hA [0, 1] rfl [hd, hB] rfl rfl (fun H locs hP hD hS => ?_)
    have hP : va_P D vwCl [(hd, .inr (0, [.int (nI a), .ref hB])), (hB, .inl (cI, a * 48, .inl f))] _ := hP
    have hD : va_D A [(hd, .inr (0, [.int (nI a), .ref hB])), (hB, .inl (cI, a * 48, .inl f))] := hD
    refine lv_icmp_eq (tgt := 27) hx hb dX0_isRight_22 (by decide) (fun c22 => ?_) (fun c22 => ?_)
    · skip
      refine lv_iload_n hx hb dX0_isRight_27 rfl (lv_at hl 2 rfl) ?_
      refine lv_iconst (v := 1) hx hb dX0_isRight_28 (by decide) ?_
      refine lv_icmp_ne (tgt := 58) hx hb dX0_isRight_29 (by decide) (fun c29 => ?_) (fun c29 => ?_)
      · skip
        refine lv_iload_n hx hb dX0_isRight_58 rfl (lv_at hl 2 rfl) ?_
        refine lv_iconst (v := 2) hx hb dX0_isRight_59 (by decide) ?_
        refine lv_icmp_ne (tgt := 72) hx hb dX0_isRight_60 (by decide) (fun c60 => ?_) (fun c60 => ?_)
        · skip
          refine lv_aload_n hx hb dX0_isRight_72 rfl (lv_at hl 0 rfl) ?_
          refine lv_iload_n hx hb dX0_isRight_73 rfl (lv_at hl 1 rfl) ?_
          refine lv_iconst (v := 3) hx hb dX0_isRight_74 (by decide) ?_
          refine ct_calli (w := [(hd, .inr (0, [.int (nI a), .ref hB])), (hB, .inl (cI, a * 48, .inl f))]) (w' := [(hd, .inr (0, [.int (nI a), .ref hB])), (hB, .inl (cI, a * 48, .inl f))]) (va_runV (As := [.int (nI q), .int 3]) (rest := []) ⟨hx, hb, hml, hown, hts⟩ (c_X0_at l D cI cZ hd hB a q 3 f (by omega) (by omega) (by omega) _) (cwV 2 hts gX0_isRight_X0_at rfl rfl rfl (by decide +kernel) ⟨Nat.le_of_ble_eq_true rfl, Nat.le_of_ble_eq_true rfl⟩) (ct_preV (w := [(hd, .inr (0, [.int (nI a), .ref hB])), (hB, .inl (cI, a * 48, .inl f))]) (ci := 0) (i0 := 0) hK hN hP hD [0, 1] (by decide) rfl rfl rfl) rfl rfl hl.1 rfl (lv_room (Nat.le_of_ble_eq_true rfl)) dX0_isRight_75 ⟨Nat.le_of_ble_eq_true rfl, Nat.le_of_ble_eq_true rfl⟩) hP hD hS hA [0, 1] rfl [hd, hB] rfl rfl (fun H locs hP hD hS => ?_)
          have hP : va_P D vwCl [(hd, .inr (0, [.int (nI a), .ref hB])), (hB, .inl (cI, a * 48, .inl f))] _ := hP
          have hD : va_D A [(hd, .inr (0, [.int (nI a), .ref hB])), (hB, .inl (cI, a * 48, .inl f))] := hD
          refine lv_bipush (v := 32) hx hb dX0_isRight_78 (by decide) ?_
          refine lv_icmp_gt (tgt := 87) hx hb dX0_isRight_80 (by decide) (fun c80 => ?_) (fun c80 => ?_)
          · skip
            refine lv_iconst (v := 0) hx hb dX0_isRight_87 (by decide) ?_
            exact ct_zret hx hb hr hlocks (rfl) ((b2i_f (fun h => h.2.2.2.2 c29 c60 c80)).symm) (rfl) hP hD hS dX0_isRight_88
          · skip
            refine lv_iconst (v := 1) hx hb dX0_isRight_83 (by decide) ?_
            refine lv_goto (tgt := 88) hx hb dX0_isRight_84 (by decide) ?_
            exact ct_zret hx hb hr hlocks (rfl) ((b2i_t ⟨c7, c22, fun e1 => absurd e1 c29, fun e1 => absurd e1 c60, fun _ _ => c80⟩).symm) (rfl) hP hD hS dX0_isRight_88
        · skip
          refine lv_aload_n hx hb dX0_isRight_63 rfl (lv_at hl 0 rfl) ?_
          refine lv_iload_n hx hb dX0_isRight_64 rfl (lv_at hl 1 rfl) ?_
          refine lv_iconst (v := 2) hx hb dX0_isRight_65 (by decide) ?_
          refine lv_bipush (v := 32) hx hb dX0_isRight_66 (by decide) ?_
          refine ct_calli (w := [(hd, .inr (0, [.int (nI a), .ref hB])), (hB, .inl (cI, a * 48, .inl f))]) (w' := [(hd, .inr (0, [.int (nI a), .ref hB])), (hB, .inl (cI, a * 48, .inl f))]) (va_runV (As := [.int (nI q), .int 2, .int 32]) (rest := []) ⟨hx, hb, hml, hown, hts⟩ (c_X0_tellsRightPages l D cI cZ hd hB a q 2 32 f (by omega) (by omega) (by omega) _) (cwV 3 hts gX0_isRight_X0_tellsRightPages rfl rfl rfl (by decide +kernel) ⟨Nat.le_of_ble_eq_true rfl, Nat.le_of_ble_eq_true rfl⟩) (ct_preV (w := [(hd, .inr (0, [.int (nI a), .ref hB])), (hB, .inl (cI, a * 48, .inl f))]) (ci := 0) (i0 := 0) hK hN hP hD [0, 1] (by decide) rfl rfl rfl) rfl rfl hl.1 rfl (lv_room (Nat.le_of_ble_eq_true rfl)) dX0_isRight_68 ⟨Nat.le_of_ble_eq_true rfl, Nat.le_of_ble_eq_true rfl⟩) hP hD hS hA [0, 1] rfl [hd, hB] rfl rfl (fun H locs hP hD hS => ?_)
          have hP : va_P D vwCl [(hd, .inr (0, [.int (nI a), .ref hB])), (hB, .inl (cI, a * 48, .inl f))] _ := hP
          have hD : va_D A [(hd, .inr (0, [.int (nI a), .ref hB])), (hB, .inl (cI, a * 48, .inl f))] := hD
          exact ct_zret hx hb hr hlocks (b2i_nar _) (b2i_congr ⟨fun h => ⟨c7, c22, fun e1 => absurd e1 c29, fun _ => h, fun _ e1 => absurd c60 e1⟩, fun h => h.2.2.2.1 c60⟩) (rfl) hP hD hS dX0_isRight_71
      · skip
        refine lv_aload_n hx hb dX0_isRight_32 rfl (lv_at hl 0 rfl) ?_
        refine lv_iload_n hx hb dX0_isRight_33 rfl (lv_at hl 1 rfl) ?_
        refine ct_calli (w := [(hd, .inr (0, [.int (nI a), .ref hB])), (hB, .inl (cI, a * 48, .inl f))]) (w' := [(hd, .inr (0, [.int (nI a), .ref hB])), (hB, .inl (cI, a * 48, .inl f))]) (va_runV (As := [.int (nI q)]) (rest := []) ⟨hx, hb, hml, hown, hts⟩ (c_X0_tellsVersions l D cI cZ hd hB a q f (by omega) (by omega) _) (cwV 1 hts gX0_isRight_X0_tellsVersions rfl rfl rfl (by decide +kernel) ⟨Nat.le_of_ble_eq_true rfl, Nat.le_of_ble_eq_true rfl⟩) (ct_preV (w := [(hd, .inr (0, [.int (nI a), .ref hB])), (hB, .inl (cI, a * 48, .inl f))]) (ci := 0) (i0 := 0) hK hN hP hD [0, 1] (by decide) rfl rfl rfl) rfl rfl hl.1 rfl (lv_room (Nat.le_of_ble_eq_true rfl)) dX0_isRight_34 ⟨Nat.le_of_ble_eq_true rfl, Nat.le_of_ble_eq_true rfl⟩) hP hD hS hA [0, 1] rfl [hd, hB] rfl rfl (fun H locs hP hD hS => ?_)
        have hP : va_P D vwCl [(hd, .inr (0, [.int (nI a), .ref hB])), (hB, .inl (cI, a * 48, .inl f))] _ := hP
        have hD : va_D A [(hd, .inr (0, [.int (nI a), .ref hB])), (hB, .inl (cI, a * 48, .inl f))] := hD
        refine lv_if_eq (tgt := 56) hx hb dX0_isRight_37 (by decide) (fun c37 => ?_) (fun c37 => ?_)
        · skip
          refine lv_iconst (v := 0) hx hb dX0_isRight_56 (by decide) ?_
          exact ct_zret hx hb hr hlocks (rfl) ((b2i_f (fun h => b2i_0.mp c37 (h.2.2.1 c29).1)).symm) (rfl) hP hD hS dX0_isRight_57
        · skip
          refine lv_aload_n hx hb dX0_isRight_40 rfl (lv_at hl 0 rfl) ?_
          refine lv_iload_n hx hb dX0_isRight_41 rfl (lv_at hl 1 rfl) ?_
          refine lv_bipush (v := 9) hx hb dX0_isRight_42 (by decide) ?_
          refine lv_bipush (v := 32) hx hb dX0_isRight_44 (by decide) ?_
          refine ct_calli (w := [(hd, .inr (0, [.int (nI a), .ref hB])), (hB, .inl (cI, a * 48, .inl f))]) (w' := [(hd, .inr (0, [.int (nI a), .ref hB])), (hB, .inl (cI, a * 48, .inl f))]) (va_runV (As := [.int (nI q), .int 9, .int 32]) (rest := []) ⟨hx, hb, hml, hown, hts⟩ (c_X0_tellsRightPages l D cI cZ hd hB a q 9 32 f (by omega) (by omega) (by omega) _) (cwV 3 hts gX0_isRight_X0_tellsRightPages rfl rfl rfl (by decide +kernel) ⟨Nat.le_of_ble_eq_true rfl, Nat.le_of_ble_eq_true rfl⟩) (ct_preV (w := [(hd, .inr (0, [.int (nI a), .ref hB])), (hB, .inl (cI, a * 48, .inl f))]) (ci := 0) (i0 := 0) hK hN hP hD [0, 1] (by decide) rfl rfl rfl) rfl rfl hl.1 rfl (lv_room (Nat.le_of_ble_eq_true rfl)) dX0_isRight_46 ⟨Nat.le_of_ble_eq_true rfl, Nat.le_of_ble_eq_true rfl⟩) hP hD hS hA [0, 1] rfl [hd, hB] rfl rfl (fun H locs hP hD hS => ?_)
          have hP : va_P D vwCl [(hd, .inr (0, [.int (nI a), .ref hB])), (hB, .inl (cI, a * 48, .inl f))] _ := hP
          have hD : va_D A [(hd, .inr (0, [.int (nI a), .ref hB])), (hB, .inl (cI, a * 48, .inl f))] := hD
          refine lv_if_eq (tgt := 56) hx hb dX0_isRight_49 (by decide) (fun c49 => ?_) (fun c49 => ?_)
          · skip
            refine lv_iconst (v := 0) hx hb dX0_isRight_56 (by decide) ?_
            exact ct_zret hx hb hr hlocks (rfl) ((b2i_f (fun h => b2i_0.mp c49 (h.2.2.1 c29).2)).symm) (rfl) hP hD hS dX0_isRight_57
          · skip
            refine lv_iconst (v := 1) hx hb dX0_isRight_52 (by decide) ?_
            refine lv_goto (tgt := 57) hx hb dX0_isRight_53 (by decide) ?_
            exact ct_zret hx hb hr hlocks (rfl) ((b2i_t ⟨c7, c22, fun _ => ⟨b2i_n0 c37, b2i_n0 c49⟩, fun e1 => absurd (c29.symm.trans e1) (by decide), fun e1 => absurd c29 e1⟩).symm) (rfl) hP hD hS dX0_isRight_57
    · skip
      refine lv_iconst (v := 0) hx hb dX0_isRight_25 (by decide) ?_
      exact ct_zret hx hb hr hlocks (rfl) ((b2i_f (fun h => c22 h.2.1)).symm) (rfl) hP hD hS dX0_isRight_26
set_option maxHeartbeats 4000000 in
set_option maxRecDepth 100000 in
theorem c_X0_seal (l : Launch) (D : va_G) (cI cZ : ClassId) (hd hB a q : Nat) (f : Nat → Int32) (h1 : q < a) (ha : a ≤ 120) : CtV l yX0_seal wsX0_seal ({ frames := 2, cells := 0, slots := 0, locals := 46 }) D vwCl (ct_T cI cZ) [.ref hd, .int (nI q)] [(hd, .inr (0, [.int (nI a), .ref hB])), (hB, .inl (cI, a * 48, .inl f))] [(hd, .inr (0, [.int (nI a), .ref hB])), (hB, .inl (cI, a * 48, .inl (pg_setn f (q * 48 + 44) (pg_sum f (q * 48) 44))))] := by
  refine ct_of (Qf := ct_Qv D vwCl [(hd, .inr (0, [.int (nI a), .ref hB])), (hB, .inl (cI, a * 48, .inl (pg_setn f (q * 48 + 44) (pg_sum f (q * 48) 44))))]) (cc := cX0_seal) (maxL := 2) (ret := none) [(0, .ref hd), (1, .int (nI q))] (by decide) rfl (Nat.le_of_ble_eq_true rfl) rfl ?_
  intro p e s m below meth c hx hb hr hts hown hlocks hml hnm A hA hK hN hP hD hS ls hl
  have hown : s.vm.findClass RX0 = some m.cls := hown
  refine lv_aload_n hx hb dX0_seal_0 rfl (lv_at hl 0 rfl) ?_
  refine lv_iload_n hx hb dX0_seal_1 rfl (lv_at hl 1 rfl) ?_
  refine lv_bipush (v := 44) hx hb dX0_seal_2 (by decide) ?_
  refine lv_aload_n hx hb dX0_seal_4 rfl (lv_at hl 0 rfl) ?_
  refine lv_iload_n hx hb dX0_seal_5 rfl (lv_at hl 1 rfl) ?_
  refine ct_calli (w := [(hd, .inr (0, [.int (nI a), .ref hB])), (hB, .inl (cI, a * 48, .inl f))]) (w' := [(hd, .inr (0, [.int (nI a), .ref hB])), (hB, .inl (cI, a * 48, .inl f))]) (va_runV (As := [.int (nI q)]) (rest := [.int 44, .int (nI q), .ref hd]) ⟨hx, hb, hml, hown, hts⟩ (c_X0_sumOf l D cI cZ hd hB a q f (by omega) (by omega) _) (cwV 1 hts gX0_seal_X0_sumOf rfl rfl rfl (by decide +kernel) ⟨Nat.le_of_ble_eq_true rfl, Nat.le_of_ble_eq_true rfl⟩) (ct_preV (w := [(hd, .inr (0, [.int (nI a), .ref hB])), (hB, .inl (cI, a * 48, .inl f))]) (ci := 0) (i0 := 0) hK hN hP hD [0, 1] (by decide) rfl rfl rfl) rfl rfl hl.1 rfl (lv_room (Nat.le_of_ble_eq_true rfl)) dX0_seal_6 ⟨Nat.le_of_ble_eq_true rfl, Nat.le_of_ble_eq_true rfl⟩) hP hD hS hA [0, 1] rfl [hd, hB] rfl rfl (fun H locs hP hD hS => ?_)
  have hP : va_P D vwCl [(hd, .inr (0, [.int (nI a), .ref hB])), (hB, .inl (cI, a * 48, .inl f))] _ := hP
  have hD : va_D A [(hd, .inr (0, [.int (nI a), .ref hB])), (hB, .inl (cI, a * 48, .inl f))] := hD
  refine ct_callv (w := [(hd, .inr (0, [.int (nI a), .ref hB])), (hB, .inl (cI, a * 48, .inl f))]) (w' := [(hd, .inr (0, [.int (nI a), .ref hB])), (hB, .inl (cI, a * 48, .inl (pg_setn f (q * 48 + 44) (pg_sum f (q * 48) 44))))]) (va_runV (As := [.int (nI q), .int 44, .int (pg_sum f (q * 48) 44)]) (rest := []) ⟨hx, hb, hml, hown, hts⟩ (c_X0_setNumber l D cI cZ hd hB a q 44 (pg_sum f (q * 48) 44) f (by omega) (by omega) (by omega) _) (cwV 3 hts gX0_seal_X0_setNumber rfl rfl rfl (by decide +kernel) ⟨Nat.le_of_ble_eq_true rfl, Nat.le_of_ble_eq_true rfl⟩) (ct_preV (w := [(hd, .inr (0, [.int (nI a), .ref hB])), (hB, .inl (cI, a * 48, .inl f))]) (ci := 0) (i0 := 0) hK hN hP hD [0, 1] (by decide) rfl rfl rfl) rfl rfl hl.1 rfl (lv_room (Nat.le_of_ble_eq_true rfl)) dX0_seal_9 ⟨Nat.le_of_ble_eq_true rfl, Nat.le_of_ble_eq_true rfl⟩) hP hD hS hA [0, 1] rfl [hd, hB] rfl rfl (fun H locs hP hD hS => ?_)
  have hP : va_P D vwCl [(hd, .inr (0, [.int (nI a), .ref hB])), (hB, .inl (cI, a * 48, .inl (pg_setn f (q * 48 + 44) (pg_sum f (q * 48) 44))))] _ := hP
  have hD : va_D A [(hd, .inr (0, [.int (nI a), .ref hB])), (hB, .inl (cI, a * 48, .inl (pg_setn f (q * 48 + 44) (pg_sum f (q * 48) 44))))] := hD
  exact ct_vret hx hb hr hlocks (rfl) hP hD hS dX0_seal_12
