set_option maxHeartbeats 4000000 in
set_option maxRecDepth 100000 in
theorem c_X4_reach (l : Launch) (D : va_G) (cI cZ : ClassId) (hm gB gT gZ a tc nw ol : Nat) (f t z : Nat → Int32) (O : Prop) (lf us bd : Int32) (q : Nat) (k : Int32) (ha : a ≤ 120) (h12 : 12 ≤ a) (htc : tc ≤ 32) (hnw : nw ≤ 1000000) (hol : ol ≤ nw + 1) (h1 : q < a) (hk : k = 1 ∨ k = 2 ∨ k = 3) : CtV l yX4_reach wsX4_reach ({ frames := 4, cells := 0, slots := 0, locals := 92 }) D vwCl (ct_T cI cZ) [.ref hm, .int (nI q), .int k] [(hm, .inr (4, [.int 0, .int (nI a), .ref gB, .int (nI nw), .int (nI ol), .int (b2i O), .int lf, .int us, .int (nI tc), .ref gT, .ref gZ, .int bd])), (gB, .inl (cI, 5760, .inl f)), (gT, .inl (cI, 32, .inl t)), (gZ, .inl (cZ, 120, .inl z))] [(hm, .inr (4, [.int 0, .int (nI a), .ref gB, .int (nI nw), .int (nI ol), .int (b2i O), .int lf, .int us, .int (nI tc), .ref gT, .ref gZ, .int (rc_b f a q k bd)])), (gB, .inl (cI, 5760, .inl f)), (gT, .inl (cI, 32, .inl t)), (gZ, .inl (cZ, 120, .inl (upd z q 1)))] := by
  refine ct_of (Qf := ct_Qv D vwCl [(hm, .inr (4, [.int 0, .int (nI a), .ref gB, .int (nI nw), .int (nI ol), .int (b2i O), .int lf, .int us, .int (nI tc), .ref gT, .ref gZ, .int (rc_b f a q k bd)])), (gB, .inl (cI, 5760, .inl f)), (gT, .inl (cI, 32, .inl t)), (gZ, .inl (cZ, 120, .inl (upd z q 1)))]) (cc := cX4_reach) (maxL := 3) (ret := none) [(0, .ref hm), (1, .int (nI q)), (2, .int k)] (by decide) rfl (Nat.le_of_ble_eq_true rfl) rfl ?_
  intro p e s m below meth c hx hb hr hts hown hlocks hml hnm A hA hK hN hP hD hS ls hl
  have hown : s.vm.findClass RX4 = some m.cls := hown
  have hk0 := hts (.fieldLink RX4 23 "DesignPagesModel" "reached" "[Z") (by decide +kernel)
  have hk1 := hts (.fieldLink RX4 60 "DesignPagesModel" "bad" "I") (by decide +kernel)
  have hiX4 : ∀ w ∈ wsX40, w ∈ wsX4_reach := by decide +kernel
  refine lv_aload_n hx hb dX4_reach_0 rfl (lv_at hl 0 rfl) ?_
  refine va_get (D := D) (cl := vwCl) (ci := 4) (v := .ref gZ) (C := RX4) (T := TX4) (N := 12) hx hb hts hiX4 hown hK hP 0 rfl rfl 10 (by decide) hk0 (fun _ h9 => h9) rfl dX4_reach_1 ?_
  refine lv_iload_n hx hb dX4_reach_4 rfl (lv_at hl 1 rfl) ?_
  refine lv_iconst (v := 1) hx hb dX4_reach_5 (by decide) ?_
  refine ct_zast hx hb hK hP hD hS 3 1 (k := q) (x := 1) rfl rfl (by omega) (by omega) (by decide) dX4_reach_6 (fun H locs hP hD hS => ?_)
  have hP : va_P D vwCl [(hm, .inr (4, [.int 0, .int (nI a), .ref gB, .int (nI nw), .int (nI ol), .int (b2i O), .int lf, .int us, .int (nI tc), .ref gT, .ref gZ, .int bd])), (gB, .inl (cI, 5760, .inl f)), (gT, .inl (cI, 32, .inl t)), (gZ, .inl (cZ, 120, .inl (upd z q 1)))] _ := hP
  have hD : va_D A [(hm, .inr (4, [.int 0, .int (nI a), .ref gB, .int (nI nw), .int (nI ol), .int (b2i O), .int lf, .int us, .int (nI tc), .ref gT, .ref gZ, .int bd])), (gB, .inl (cI, 5760, .inl f)), (gT, .inl (cI, 32, .inl t)), (gZ, .inl (cZ, 120, .inl (upd z q 1)))] := hD
  refine lv_aload_n hx hb dX4_reach_7 rfl (lv_at hl 0 rfl) ?_
  refine lv_aload_n hx hb dX4_reach_8 rfl (lv_at hl 0 rfl) ?_
  refine lv_iload_n hx hb dX4_reach_9 rfl (lv_at hl 1 rfl) ?_
  refine lv_iload_n hx hb dX4_reach_10 rfl (lv_at hl 2 rfl) ?_
  refine ct_calli (w := [(hm, .inr (4, [.int 0, .int (nI a), .ref gB, .int (nI nw), .int (nI ol), .int (b2i O), .int lf, .int us, .int (nI tc), .ref gT, .ref gZ, .int bd])), (gB, .inl (cI, 5760, .inl f)), (gT, .inl (cI, 32, .inl t)), (gZ, .inl (cZ, 120, .inl (upd z q 1)))]) (w' := [(hm, .inr (4, [.int 0, .int (nI a), .ref gB, .int (nI nw), .int (nI ol), .int (b2i O), .int lf, .int us, .int (nI tc), .ref gT, .ref gZ, .int bd])), (gB, .inl (cI, 5760, .inl f)), (gT, .inl (cI, 32, .inl t)), (gZ, .inl (cZ, 120, .inl (upd z q 1)))]) (va_runV (As := [.int (nI q), .int k]) (rest := [.ref hm]) ⟨hx, hb, hml, hown, hts⟩ (c_X4_isRight l D cI cZ hm gB gT gZ a tc nw ol f t (upd z q 1) O lf us bd q k (by omega) (by omega) (by omega) (by omega) (by omega) (by omega) hk _) (cwV 2 hts gX4_reach_X4_isRight rfl rfl rfl (by decide +kernel) ⟨Nat.le_of_ble_eq_true rfl, Nat.le_of_ble_eq_true rfl⟩) (ct_preV (w := [(hm, .inr (4, [.int 0, .int (nI a), .ref gB, .int (nI nw), .int (nI ol), .int (b2i O), .int lf, .int us, .int (nI tc), .ref gT, .ref gZ, .int bd])), (gB, .inl (cI, 5760, .inl f)), (gT, .inl (cI, 32, .inl t)), (gZ, .inl (cZ, 120, .inl (upd z q 1)))]) (ci := 4) (i0 := 0) hK hN hP hD [0, 1, 2, 3] (by decide) rfl rfl rfl) rfl rfl hl.1 rfl (lv_room (Nat.le_of_ble_eq_true rfl)) dX4_reach_11 ⟨Nat.le_of_ble_eq_true rfl, Nat.le_of_ble_eq_true rfl⟩) hP hD hS hA [0, 1, 2, 3] rfl [hm, gB, gT, gZ] rfl rfl (fun H locs hP hD hS => ?_)
  have hP : va_P D vwCl [(hm, .inr (4, [.int 0, .int (nI a), .ref gB, .int (nI nw), .int (nI ol), .int (b2i O), .int lf, .int us, .int (nI tc), .ref gT, .ref gZ, .int bd])), (gB, .inl (cI, 5760, .inl f)), (gT, .inl (cI, 32, .inl t)), (gZ, .inl (cZ, 120, .inl (upd z q 1)))] _ := hP
  have hD : va_D A [(hm, .inr (4, [.int 0, .int (nI a), .ref gB, .int (nI nw), .int (nI ol), .int (b2i O), .int lf, .int us, .int (nI tc), .ref gT, .ref gZ, .int bd])), (gB, .inl (cI, 5760, .inl f)), (gT, .inl (cI, 32, .inl t)), (gZ, .inl (cZ, 120, .inl (upd z q 1)))] := hD
  refine lv_if_ne (tgt := 37) hx hb dX4_reach_14 (by decide) (fun c14 => ?_) (fun c14 => ?_)
  · skip
    refine lv_aload_n hx hb dX4_reach_37 rfl (lv_at hl 0 rfl) ?_
    refine va_get (D := D) (cl := vwCl) (ci := 4) (v := .int bd) (C := RX4) (T := TX4) (N := 12) hx hb hts hiX4 hown hK hP 0 rfl rfl 11 (by decide) hk1 (fun _ h9 => h9) rfl dX4_reach_38 ?_
    refine va_put (D := D) (cl := vwCl) (ci := 4) (v := .int bd) (ty := .int) (C := RX4) (T := TX4) (N := 12) hx hb hts hiX4 tyX4 tyX4_ok nmX4 hown hK hP hD hS 0 rfl rfl 11 (by decide) hk1 (fun _ h9 => h9) rfl (by decide +kernel) rfl rfl (Nat.le_of_ble_eq_true rfl) dX4_reach_41 (fun H locs hP hD hS => ?_)
    have hP : va_P D vwCl [(hm, .inr (4, [.int 0, .int (nI a), .ref gB, .int (nI nw), .int (nI ol), .int (b2i O), .int lf, .int us, .int (nI tc), .ref gT, .ref gZ, .int bd])), (gB, .inl (cI, 5760, .inl f)), (gT, .inl (cI, 32, .inl t)), (gZ, .inl (cZ, 120, .inl (upd z q 1)))] _ := hP
    have hD : va_D A [(hm, .inr (4, [.int 0, .int (nI a), .ref gB, .int (nI nw), .int (nI ol), .int (b2i O), .int lf, .int us, .int (nI tc), .ref gT, .ref gZ, .int bd])), (gB, .inl (cI, 5760, .inl f)), (gT, .inl (cI, 32, .inl t)), (gZ, .inl (cZ, 120, .inl (upd z q 1)))] := hD
    exact ct_vret hx hb hr hlocks (by unfold rc_b; rw [ifp_f (fun h => h.1 (b2i_n0 c14))]) hP hD hS dX4_reach_44
  · skip
    refine lv_aload_n hx hb dX4_reach_17 rfl (lv_at hl 0 rfl) ?_
    refine va_get (D := D) (cl := vwCl) (ci := 4) (v := .int bd) (C := RX4) (T := TX4) (N := 12) hx hb hts hiX4 hown hK hP 0 rfl rfl 11 (by decide) hk1 (fun _ h9 => h9) rfl dX4_reach_18 ?_
    refine lv_iconst (v := (-1)) hx hb dX4_reach_21 (by decide) ?_
    refine lv_icmp_eq (tgt := 33) hx hb dX4_reach_22 (by decide) (fun c22 => ?_) (fun c22 => ?_)
    · skip
      refine lv_iload_n hx hb dX4_reach_33 rfl (lv_at hl 1 rfl) ?_
      refine lv_goto (tgt := 41) hx hb dX4_reach_34 (by decide) ?_
      refine va_put (D := D) (cl := vwCl) (ci := 4) (v := .int (nI q)) (ty := .int) (C := RX4) (T := TX4) (N := 12) hx hb hts hiX4 tyX4 tyX4_ok nmX4 hown hK hP hD hS 0 rfl rfl 11 (by decide) hk1 (fun _ h9 => h9) rfl (by decide +kernel) rfl rfl (Nat.le_of_ble_eq_true rfl) dX4_reach_41 (fun H locs hP hD hS => ?_)
      have hP : va_P D vwCl [(hm, .inr (4, [.int 0, .int (nI a), .ref gB, .int (nI nw), .int (nI ol), .int (b2i O), .int lf, .int us, .int (nI tc), .ref gT, .ref gZ, .int (nI q)])), (gB, .inl (cI, 5760, .inl f)), (gT, .inl (cI, 32, .inl t)), (gZ, .inl (cZ, 120, .inl (upd z q 1)))] _ := hP
      have hD : va_D A [(hm, .inr (4, [.int 0, .int (nI a), .ref gB, .int (nI nw), .int (nI ol), .int (b2i O), .int lf, .int us, .int (nI tc), .ref gT, .ref gZ, .int (nI q)])), (gB, .inl (cI, 5760, .inl f)), (gT, .inl (cI, 32, .inl t)), (gZ, .inl (cZ, 120, .inl (upd z q 1)))] := hD
      exact ct_vret hx hb hr hlocks (by unfold rc_b; rw [ifp_t ⟨b2i_0.mp c14, Or.inl c22⟩]) hP hD hS dX4_reach_44
    · skip
      refine lv_iload_n hx hb dX4_reach_25 rfl (lv_at hl 1 rfl) ?_
      refine lv_aload_n hx hb dX4_reach_26 rfl (lv_at hl 0 rfl) ?_
      refine va_get (D := D) (cl := vwCl) (ci := 4) (v := .int bd) (C := RX4) (T := TX4) (N := 12) hx hb hts hiX4 hown hK hP 0 rfl rfl 11 (by decide) hk1 (fun _ h9 => h9) rfl dX4_reach_27 ?_
      refine lv_icmp_ge (tgt := 37) hx hb dX4_reach_30 (by decide) (fun c30 => ?_) (fun c30 => ?_)
      · skip
        refine lv_aload_n hx hb dX4_reach_37 rfl (lv_at hl 0 rfl) ?_
        refine va_get (D := D) (cl := vwCl) (ci := 4) (v := .int bd) (C := RX4) (T := TX4) (N := 12) hx hb hts hiX4 hown hK hP 0 rfl rfl 11 (by decide) hk1 (fun _ h9 => h9) rfl dX4_reach_38 ?_
        refine va_put (D := D) (cl := vwCl) (ci := 4) (v := .int bd) (ty := .int) (C := RX4) (T := TX4) (N := 12) hx hb hts hiX4 tyX4 tyX4_ok nmX4 hown hK hP hD hS 0 rfl rfl 11 (by decide) hk1 (fun _ h9 => h9) rfl (by decide +kernel) rfl rfl (Nat.le_of_ble_eq_true rfl) dX4_reach_41 (fun H locs hP hD hS => ?_)
        have hP : va_P D vwCl [(hm, .inr (4, [.int 0, .int (nI a), .ref gB, .int (nI nw), .int (nI ol), .int (b2i O), .int lf, .int us, .int (nI tc), .ref gT, .ref gZ, .int bd])), (gB, .inl (cI, 5760, .inl f)), (gT, .inl (cI, 32, .inl t)), (gZ, .inl (cZ, 120, .inl (upd z q 1)))] _ := hP
        have hD : va_D A [(hm, .inr (4, [.int 0, .int (nI a), .ref gB, .int (nI nw), .int (nI ol), .int (b2i O), .int lf, .int us, .int (nI tc), .ref gT, .ref gZ, .int bd])), (gB, .inl (cI, 5760, .inl f)), (gT, .inl (cI, 32, .inl t)), (gZ, .inl (cZ, 120, .inl (upd z q 1)))] := hD
        exact ct_vret hx hb hr hlocks (by unfold rc_b; rw [ifp_f (fun h => h.2.elim c22 (Int32.not_lt.mpr c30))]) hP hD hS dX4_reach_44
      · skip
        refine lv_iload_n hx hb dX4_reach_33 rfl (lv_at hl 1 rfl) ?_
        refine lv_goto (tgt := 41) hx hb dX4_reach_34 (by decide) ?_
        refine va_put (D := D) (cl := vwCl) (ci := 4) (v := .int (nI q)) (ty := .int) (C := RX4) (T := TX4) (N := 12) hx hb hts hiX4 tyX4 tyX4_ok nmX4 hown hK hP hD hS 0 rfl rfl 11 (by decide) hk1 (fun _ h9 => h9) rfl (by decide +kernel) rfl rfl (Nat.le_of_ble_eq_true rfl) dX4_reach_41 (fun H locs hP hD hS => ?_)
        have hP : va_P D vwCl [(hm, .inr (4, [.int 0, .int (nI a), .ref gB, .int (nI nw), .int (nI ol), .int (b2i O), .int lf, .int us, .int (nI tc), .ref gT, .ref gZ, .int (nI q)])), (gB, .inl (cI, 5760, .inl f)), (gT, .inl (cI, 32, .inl t)), (gZ, .inl (cZ, 120, .inl (upd z q 1)))] _ := hP
        have hD : va_D A [(hm, .inr (4, [.int 0, .int (nI a), .ref gB, .int (nI nw), .int (nI ol), .int (b2i O), .int lf, .int us, .int (nI tc), .ref gT, .ref gZ, .int (nI q)])), (gB, .inl (cI, 5760, .inl f)), (gT, .inl (cI, 32, .inl t)), (gZ, .inl (cZ, 120, .inl (upd z q 1)))] := hD
        exact ct_vret hx hb hr hlocks (by unfold rc_b; rw [ifp_t ⟨b2i_0.mp c14, Or.inr (Int32.not_le.mp c30)⟩]) hP hD hS dX4_reach_44
set_option maxHeartbeats 4000000 in
set_option maxRecDepth 100000 in
theorem c_X4_reachNode (l : Launch) (D : va_G) (cI cZ : ClassId) (hm gB gT gZ a tc nw ol : Nat) (f t z : Nat → Int32) (O : Prop) (lf us bd : Int32) (q : Nat) (ha : a ≤ 120) (h12 : 12 ≤ a) (htc : tc ≤ 32) (hnw : nw ≤ 1000000) (hol : ol ≤ nw + 1) (h1 : q < a) : CtV l yX4_reachNode wsX4_reachNode ({ frames := 5, cells := 0, slots := 0, locals := 114 }) D vwCl (ct_T cI cZ) [.ref hm, .int (nI q)] [(hm, .inr (4, [.int 0, .int (nI a), .ref gB, .int (nI nw), .int (nI ol), .int (b2i O), .int lf, .int us, .int (nI tc), .ref gT, .ref gZ, .int bd])), (gB, .inl (cI, 5760, .inl f)), (gT, .inl (cI, 32, .inl t)), (gZ, .inl (cZ, 120, .inl z))] [(hm, .inr (4, [.int 0, .int (nI a), .ref gB, .int (nI nw), .int (nI ol), .int (b2i O), .int lf, .int us, .int (nI tc), .ref gT, .ref gZ, .int ((rnd f a q (z, bd)).2)])), (gB, .inl (cI, 5760, .inl f)), (gT, .inl (cI, 32, .inl t)), (gZ, .inl (cZ, 120, .inl ((rnd f a q (z, bd)).1)))] := by
  refine ct_of (Qf := ct_Qv D vwCl [(hm, .inr (4, [.int 0, .int (nI a), .ref gB, .int (nI nw), .int (nI ol), .int (b2i O), .int lf, .int us, .int (nI tc), .ref gT, .ref gZ, .int ((rnd f a q (z, bd)).2)])), (gB, .inl (cI, 5760, .inl f)), (gT, .inl (cI, 32, .inl t)), (gZ, .inl (cZ, 120, .inl ((rnd f a q (z, bd)).1)))]) (cc := cX4_reachNode) (maxL := 3) (ret := none) [(0, .ref hm), (1, .int (nI q))] (by decide) rfl (Nat.le_of_ble_eq_true rfl) rfl ?_
  intro p e s m below meth c hx hb hr hts hown hlocks hml hnm A hA hK hN hP hD hS ls hl
  have hown : s.vm.findClass RX4 = some m.cls := hown
  refine lv_aload_n hx hb dX4_reachNode_0 rfl (lv_at hl 0 rfl) ?_
  refine lv_iload_n hx hb dX4_reachNode_1 rfl (lv_at hl 1 rfl) ?_
  refine lv_iconst (v := 2) hx hb dX4_reachNode_2 (by decide) ?_
  refine ct_callv (w := [(hm, .inr (4, [.int 0, .int (nI a), .ref gB, .int (nI nw), .int (nI ol), .int (b2i O), .int lf, .int us, .int (nI tc), .ref gT, .ref gZ, .int bd])), (gB, .inl (cI, 5760, .inl f)), (gT, .inl (cI, 32, .inl t)), (gZ, .inl (cZ, 120, .inl z))]) (w' := [(hm, .inr (4, [.int 0, .int (nI a), .ref gB, .int (nI nw), .int (nI ol), .int (b2i O), .int lf, .int us, .int (nI tc), .ref gT, .ref gZ, .int (rc_b f a q 2 bd)])), (gB, .inl (cI, 5760, .inl f)), (gT, .inl (cI, 32, .inl t)), (gZ, .inl (cZ, 120, .inl (upd z q 1)))]) (va_runV (As := [.int (nI q), .int 2]) (rest := []) ⟨hx, hb, hml, hown, hts⟩ (c_X4_reach l D cI cZ hm gB gT gZ a tc nw ol f t z O lf us bd q 2 (by omega) (by omega) (by omega) (by omega) (by omega) (by omega) (Or.inr (Or.inl rfl)) _) (cwV 2 hts gX4_reachNode_X4_reach rfl rfl rfl (by decide +kernel) ⟨Nat.le_of_ble_eq_true rfl, Nat.le_of_ble_eq_true rfl⟩) (ct_preV (w := [(hm, .inr (4, [.int 0, .int (nI a), .ref gB, .int (nI nw), .int (nI ol), .int (b2i O), .int lf, .int us, .int (nI tc), .ref gT, .ref gZ, .int bd])), (gB, .inl (cI, 5760, .inl f)), (gT, .inl (cI, 32, .inl t)), (gZ, .inl (cZ, 120, .inl z))]) (ci := 4) (i0 := 0) hK hN hP hD [0, 1, 2, 3] (by decide) rfl rfl rfl) rfl rfl hl.1 rfl (lv_room (Nat.le_of_ble_eq_true rfl)) dX4_reachNode_3 ⟨Nat.le_of_ble_eq_true rfl, Nat.le_of_ble_eq_true rfl⟩) hP hD hS hA [0, 1, 2, 3] rfl [hm, gB, gT, gZ] rfl rfl (fun H locs hP hD hS => ?_)
  have hP : va_P D vwCl [(hm, .inr (4, [.int 0, .int (nI a), .ref gB, .int (nI nw), .int (nI ol), .int (b2i O), .int lf, .int us, .int (nI tc), .ref gT, .ref gZ, .int (rc_b f a q 2 bd)])), (gB, .inl (cI, 5760, .inl f)), (gT, .inl (cI, 32, .inl t)), (gZ, .inl (cZ, 120, .inl (upd z q 1)))] _ := hP
  have hD : va_D A [(hm, .inr (4, [.int 0, .int (nI a), .ref gB, .int (nI nw), .int (nI ol), .int (b2i O), .int lf, .int us, .int (nI tc), .ref gT, .ref gZ, .int (rc_b f a q 2 bd)])), (gB, .inl (cI, 5760, .inl f)), (gT, .inl (cI, 32, .inl t)), (gZ, .inl (cZ, 120, .inl (upd z q 1)))] := hD
  refine lv_iconst (v := 0) hx hb dX4_reachNode_6 (by decide) ?_
  refine lv_istore_n (lv' := [(2, .int 0), (0, .ref hm), (1, .int (nI q))]) hx hb dX4_reachNode_7 rfl hl (by decide) rfl (fun ls hl => ?_)
  have loop8 : ∀ (n8 : Nat) (i : Nat) (S : RS), i ≤ 32 → i = 0 ∨ pg_right f a q 2 → S = rcT f a (q * 48 + 2) (rc1 f a q 2 (z, bd)) i → 32 - i < n8 → ∀ (H : Heap) (locs : List Loc), va_P D vwCl [(hm, .inr (4, [.int 0, .int (nI a), .ref gB, .int (nI nw), .int (nI ol), .int (b2i O), .int lf, .int us, .int (nI tc), .ref gT, .ref gZ, .int S.2])), (gB, .inl (cI, 5760, .inl f)), (gT, .inl (cI, 32, .inl t)), (gZ, .inl (cZ, 120, .inl S.1))] H → va_D A [(hm, .inr (4, [.int 0, .int (nI a), .ref gB, .int (nI nw), .int (nI ol), .int (b2i O), .int lf, .int us, .int (nI tc), .ref gT, .ref gZ, .int S.2])), (gB, .inl (cI, 5760, .inl f)), (gT, .inl (cI, 32, .inl t)), (gZ, .inl (cZ, 120, .inl S.1))] → va_S A s.heap H locs → ∀ (ls : Array Slot), lv_has ls 3 [(2, .int (nI i)), (0, .ref hm), (1, .int (nI q))] → W p l e ({ frames := 5, cells := 0, slots := 0, locals := 114 }) s m ([.ref hm, .int (nI q)] : List Value).toArray below meth c H locs 0 0 (MQ below (ct_Qv D vwCl [(hm, .inr (4, [.int 0, .int (nI a), .ref gB, .int (nI nw), .int (nI ol), .int (b2i O), .int lf, .int us, .int (nI tc), .ref gT, .ref gZ, .int ((rnd f a q (z, bd)).2)])), (gB, .inl (cI, 5760, .inl f)), (gT, .inl (cI, 32, .inl t)), (gZ, .inl (cZ, 120, .inl ((rnd f a q (z, bd)).1)))] A) ([.ref hm, .int (nI q)] : List Value).toArray s 0 0 A) (F0 m 8 ls []) := by
    intro n8
    induction n8 with
    | zero =>
      intro i S _ _ _ hm
      exact absurd hm (Nat.not_lt_zero _)
    | succ n8 ih8 =>
      intro i S hi hz ex hm8 H locs hP hD hS ls hl
      refine lv_iload_n hx hb dX4_reachNode_8 rfl (lv_at hl 0 rfl) ?_
      refine lv_bipush (v := 32) hx hb dX4_reachNode_9 (by decide) ?_
      refine lv_icmp_ge (tgt := 53) hx hb dX4_reachNode_11 (by decide) (fun c11 => ?_) (fun c11 => ?_)
      · skip
        have c11 : 32 ≤ i := (nI_leI (a := 32) (b := i) (by omega) (by omega)).mp c11
        have e9 : rnd f a q (z, bd) = S := by unfold rnd; rw [ifp_t (hz.resolve_left (by omega)), ex, show i = 32 by omega]
        exact ct_vret hx hb hr hlocks (by rw [e9]) hP hD hS dX4_reachNode_53
      · skip
        have c11 : ¬ 32 ≤ i := fun h => c11 ((nI_leI (a := 32) (b := i) (by omega) (by omega)).mpr h)
        refine lv_aload_n hx hb dX4_reachNode_14 rfl (lv_at hl 1 rfl) ?_
        refine lv_iload_n hx hb dX4_reachNode_15 rfl (lv_at hl 2 rfl) ?_
        refine lv_iconst (v := 2) hx hb dX4_reachNode_16 (by decide) ?_
        refine ct_calli (w := [(hm, .inr (4, [.int 0, .int (nI a), .ref gB, .int (nI nw), .int (nI ol), .int (b2i O), .int lf, .int us, .int (nI tc), .ref gT, .ref gZ, .int S.2])), (gB, .inl (cI, 5760, .inl f)), (gT, .inl (cI, 32, .inl t)), (gZ, .inl (cZ, 120, .inl S.1))]) (w' := [(hm, .inr (4, [.int 0, .int (nI a), .ref gB, .int (nI nw), .int (nI ol), .int (b2i O), .int lf, .int us, .int (nI tc), .ref gT, .ref gZ, .int S.2])), (gB, .inl (cI, 5760, .inl f)), (gT, .inl (cI, 32, .inl t)), (gZ, .inl (cZ, 120, .inl S.1))]) (va_runV (As := [.int (nI q), .int 2]) (rest := []) ⟨hx, hb, hml, hown, hts⟩ (c_X4_isRight l D cI cZ hm gB gT gZ a tc nw ol f t S.1 O lf us S.2 q 2 (by omega) (by omega) (by omega) (by omega) (by omega) (by omega) (Or.inr (Or.inl rfl)) _) (cwV 2 hts gX4_reachNode_X4_isRight rfl rfl rfl (by decide +kernel) ⟨Nat.le_of_ble_eq_true rfl, Nat.le_of_ble_eq_true rfl⟩) (ct_preV (w := [(hm, .inr (4, [.int 0, .int (nI a), .ref gB, .int (nI nw), .int (nI ol), .int (b2i O), .int lf, .int us, .int (nI tc), .ref gT, .ref gZ, .int S.2])), (gB, .inl (cI, 5760, .inl f)), (gT, .inl (cI, 32, .inl t)), (gZ, .inl (cZ, 120, .inl S.1))]) (ci := 4) (i0 := 0) hK hN hP hD [0, 1, 2, 3] (by decide) rfl rfl rfl) rfl rfl hl.1 rfl (lv_room (Nat.le_of_ble_eq_true rfl)) dX4_reachNode_17 ⟨Nat.le_of_ble_eq_true rfl, Nat.le_of_ble_eq_true rfl⟩) hP hD hS hA [0, 1, 2, 3] rfl [hm, gB, gT, gZ] rfl rfl (fun H locs hP hD hS => ?_)
        have hP : va_P D vwCl [(hm, .inr (4, [.int 0, .int (nI a), .ref gB, .int (nI nw), .int (nI ol), .int (b2i O), .int lf, .int us, .int (nI tc), .ref gT, .ref gZ, .int S.2])), (gB, .inl (cI, 5760, .inl f)), (gT, .inl (cI, 32, .inl t)), (gZ, .inl (cZ, 120, .inl S.1))] _ := hP
        have hD : va_D A [(hm, .inr (4, [.int 0, .int (nI a), .ref gB, .int (nI nw), .int (nI ol), .int (b2i O), .int lf, .int us, .int (nI tc), .ref gT, .ref gZ, .int S.2])), (gB, .inl (cI, 5760, .inl f)), (gT, .inl (cI, 32, .inl t)), (gZ, .inl (cZ, 120, .inl S.1))] := hD
        refine lv_if_eq (tgt := 53) hx hb dX4_reachNode_20 (by decide) (fun c20 => ?_) (fun c20 => ?_)
        · skip
          have e9 : rnd f a q (z, bd) = S := by unfold rnd; rw [ifp_f (b2i_0.mp c20), ex, hz.resolve_right (b2i_0.mp c20)]; rfl
          exact ct_vret hx hb hr hlocks (by rw [e9]) hP hD hS dX4_reachNode_53
        · skip
          refine lv_aload_n hx hb dX4_reachNode_23 rfl (lv_at hl 1 rfl) ?_
          refine lv_iload_n hx hb dX4_reachNode_24 rfl (lv_at hl 2 rfl) ?_
          refine lv_iconst (v := 2) hx hb dX4_reachNode_25 (by decide) ?_
          refine lv_iload_n hx hb dX4_reachNode_26 rfl (lv_at hl 0 rfl) ?_
          refine lv_iadd hx hb dX4_reachNode_27 ?_
          refine ct_top (y := nI (2 + i)) (nI_add 2 i) ?_
          refine ct_calli (w := [(hm, .inr (4, [.int 0, .int (nI a), .ref gB, .int (nI nw), .int (nI ol), .int (b2i O), .int lf, .int us, .int (nI tc), .ref gT, .ref gZ, .int S.2])), (gB, .inl (cI, 5760, .inl f)), (gT, .inl (cI, 32, .inl t)), (gZ, .inl (cZ, 120, .inl S.1))]) (w' := [(hm, .inr (4, [.int 0, .int (nI a), .ref gB, .int (nI nw), .int (nI ol), .int (b2i O), .int lf, .int us, .int (nI tc), .ref gT, .ref gZ, .int S.2])), (gB, .inl (cI, 5760, .inl f)), (gT, .inl (cI, 32, .inl t)), (gZ, .inl (cZ, 120, .inl S.1))]) (va_runV (As := [.int (nI q), .int (nI (2 + i))]) (rest := []) ⟨hx, hb, hml, hown, hts⟩ (c_X4_at l D cI cZ hm gB gT gZ a tc nw ol f t S.1 O lf us S.2 q (2 + i) (by omega) (by omega) (by omega) (by omega) (by omega) (by omega) (by omega) _) (cwV 2 hts gX4_reachNode_X4_at rfl rfl rfl (by decide +kernel) ⟨Nat.le_of_ble_eq_true rfl, Nat.le_of_ble_eq_true rfl⟩) (ct_preV (w := [(hm, .inr (4, [.int 0, .int (nI a), .ref gB, .int (nI nw), .int (nI ol), .int (b2i O), .int lf, .int us, .int (nI tc), .ref gT, .ref gZ, .int S.2])), (gB, .inl (cI, 5760, .inl f)), (gT, .inl (cI, 32, .inl t)), (gZ, .inl (cZ, 120, .inl S.1))]) (ci := 4) (i0 := 0) hK hN hP hD [0, 1, 2, 3] (by decide) rfl rfl rfl) rfl rfl hl.1 rfl (lv_room (Nat.le_of_ble_eq_true rfl)) dX4_reachNode_28 ⟨Nat.le_of_ble_eq_true rfl, Nat.le_of_ble_eq_true rfl⟩) hP hD hS hA [0, 1, 2, 3] rfl [hm, gB, gT, gZ] rfl rfl (fun H locs hP hD hS => ?_)
          have hP : va_P D vwCl [(hm, .inr (4, [.int 0, .int (nI a), .ref gB, .int (nI nw), .int (nI ol), .int (b2i O), .int lf, .int us, .int (nI tc), .ref gT, .ref gZ, .int S.2])), (gB, .inl (cI, 5760, .inl f)), (gT, .inl (cI, 32, .inl t)), (gZ, .inl (cZ, 120, .inl S.1))] _ := hP
          have hD : va_D A [(hm, .inr (4, [.int 0, .int (nI a), .ref gB, .int (nI nw), .int (nI ol), .int (b2i O), .int lf, .int us, .int (nI tc), .ref gT, .ref gZ, .int S.2])), (gB, .inl (cI, 5760, .inl f)), (gT, .inl (cI, 32, .inl t)), (gZ, .inl (cZ, 120, .inl S.1))] := hD
          refine ct_top (y := f (q * 48 + 2 + i)) (by rw [Nat.add_assoc]) ?_
          refine lv_if_eq (tgt := 47) hx hb dX4_reachNode_31 (by decide) (fun c31 => ?_) (fun c31 => ?_)
          · skip
            refine lv_iinc (v := nI (i + 1)) (lv' := [(2, .int (nI (i + 1))), (0, .ref hm), (1, .int (nI q))]) hx hb dX4_reachNode_47 hl (k := 0) rfl (nI_add i 1) (by decide) rfl (fun ls hl => ?_)
            refine lv_goto (tgt := 8) hx hb dX4_reachNode_50 (by decide) ?_
            exact ih8 (i + 1) S (by omega) (Or.inr (b2i_n0 c20)) (by rw [rcT, ifp_t c31]; exact ex) (by omega) _ _ hP hD hS ls (lv_sub hl [0, 1, 2] rfl)
          · skip
            refine lv_aload_n hx hb dX4_reachNode_34 rfl (lv_at hl 1 rfl) ?_
            refine lv_aload_n hx hb dX4_reachNode_35 rfl (lv_at hl 1 rfl) ?_
            refine lv_iload_n hx hb dX4_reachNode_36 rfl (lv_at hl 2 rfl) ?_
            refine lv_iconst (v := 2) hx hb dX4_reachNode_37 (by decide) ?_
            refine lv_iload_n hx hb dX4_reachNode_38 rfl (lv_at hl 0 rfl) ?_
            refine lv_iadd hx hb dX4_reachNode_39 ?_
            refine ct_top (y := nI (2 + i)) (nI_add 2 i) ?_
            refine ct_calli (w := [(hm, .inr (4, [.int 0, .int (nI a), .ref gB, .int (nI nw), .int (nI ol), .int (b2i O), .int lf, .int us, .int (nI tc), .ref gT, .ref gZ, .int S.2])), (gB, .inl (cI, 5760, .inl f)), (gT, .inl (cI, 32, .inl t)), (gZ, .inl (cZ, 120, .inl S.1))]) (w' := [(hm, .inr (4, [.int 0, .int (nI a), .ref gB, .int (nI nw), .int (nI ol), .int (b2i O), .int lf, .int us, .int (nI tc), .ref gT, .ref gZ, .int S.2])), (gB, .inl (cI, 5760, .inl f)), (gT, .inl (cI, 32, .inl t)), (gZ, .inl (cZ, 120, .inl S.1))]) (va_runV (As := [.int (nI q), .int (nI (2 + i))]) (rest := [.ref hm]) ⟨hx, hb, hml, hown, hts⟩ (c_X4_at l D cI cZ hm gB gT gZ a tc nw ol f t S.1 O lf us S.2 q (2 + i) (by omega) (by omega) (by omega) (by omega) (by omega) (by omega) (by omega) _) (cwV 2 hts gX4_reachNode_X4_at rfl rfl rfl (by decide +kernel) ⟨Nat.le_of_ble_eq_true rfl, Nat.le_of_ble_eq_true rfl⟩) (ct_preV (w := [(hm, .inr (4, [.int 0, .int (nI a), .ref gB, .int (nI nw), .int (nI ol), .int (b2i O), .int lf, .int us, .int (nI tc), .ref gT, .ref gZ, .int S.2])), (gB, .inl (cI, 5760, .inl f)), (gT, .inl (cI, 32, .inl t)), (gZ, .inl (cZ, 120, .inl S.1))]) (ci := 4) (i0 := 0) hK hN hP hD [0, 1, 2, 3] (by decide) rfl rfl rfl) rfl rfl hl.1 rfl (lv_room (Nat.le_of_ble_eq_true rfl)) dX4_reachNode_40 ⟨Nat.le_of_ble_eq_true rfl, Nat.le_of_ble_eq_true rfl⟩) hP hD hS hA [0, 1, 2, 3] rfl [hm, gB, gT, gZ] rfl rfl (fun H locs hP hD hS => ?_)
            have hP : va_P D vwCl [(hm, .inr (4, [.int 0, .int (nI a), .ref gB, .int (nI nw), .int (nI ol), .int (b2i O), .int lf, .int us, .int (nI tc), .ref gT, .ref gZ, .int S.2])), (gB, .inl (cI, 5760, .inl f)), (gT, .inl (cI, 32, .inl t)), (gZ, .inl (cZ, 120, .inl S.1))] _ := hP
            have hD : va_D A [(hm, .inr (4, [.int 0, .int (nI a), .ref gB, .int (nI nw), .int (nI ol), .int (b2i O), .int lf, .int us, .int (nI tc), .ref gT, .ref gZ, .int S.2])), (gB, .inl (cI, 5760, .inl f)), (gT, .inl (cI, 32, .inl t)), (gZ, .inl (cZ, 120, .inl S.1))] := hD
            have hn1 := pg_one_nv (((b2i_n0 c20).2.2.2.1 rfl) i (by omega)) ha (by omega)
            have hn2 := hn1.2.1
            refine ct_top (y := nI (nv (f (q * 48 + 2 + i)))) (by rw [← Nat.add_assoc]; exact hn1.1) ?_
            refine lv_iconst (v := 3) hx hb dX4_reachNode_43 (by decide) ?_
            refine ct_callv (w := [(hm, .inr (4, [.int 0, .int (nI a), .ref gB, .int (nI nw), .int (nI ol), .int (b2i O), .int lf, .int us, .int (nI tc), .ref gT, .ref gZ, .int S.2])), (gB, .inl (cI, 5760, .inl f)), (gT, .inl (cI, 32, .inl t)), (gZ, .inl (cZ, 120, .inl S.1))]) (w' := [(hm, .inr (4, [.int 0, .int (nI a), .ref gB, .int (nI nw), .int (nI ol), .int (b2i O), .int lf, .int us, .int (nI tc), .ref gT, .ref gZ, .int (rc_b f a (nv (f (q * 48 + 2 + i))) 3 S.2)])), (gB, .inl (cI, 5760, .inl f)), (gT, .inl (cI, 32, .inl t)), (gZ, .inl (cZ, 120, .inl (upd S.1 (nv (f (q * 48 + 2 + i))) 1)))]) (va_runV (As := [.int (nI (nv (f (q * 48 + 2 + i)))), .int 3]) (rest := []) ⟨hx, hb, hml, hown, hts⟩ (c_X4_reach l D cI cZ hm gB gT gZ a tc nw ol f t S.1 O lf us S.2 (nv (f (q * 48 + 2 + i))) 3 (by omega) (by omega) (by omega) (by omega) (by omega) (by omega) (Or.inr (Or.inr rfl)) _) (cwV 2 hts gX4_reachNode_X4_reach rfl rfl rfl (by decide +kernel) ⟨Nat.le_of_ble_eq_true rfl, Nat.le_of_ble_eq_true rfl⟩) (ct_preV (w := [(hm, .inr (4, [.int 0, .int (nI a), .ref gB, .int (nI nw), .int (nI ol), .int (b2i O), .int lf, .int us, .int (nI tc), .ref gT, .ref gZ, .int S.2])), (gB, .inl (cI, 5760, .inl f)), (gT, .inl (cI, 32, .inl t)), (gZ, .inl (cZ, 120, .inl S.1))]) (ci := 4) (i0 := 0) hK hN hP hD [0, 1, 2, 3] (by decide) rfl rfl rfl) rfl rfl hl.1 rfl (lv_room (Nat.le_of_ble_eq_true rfl)) dX4_reachNode_44 ⟨Nat.le_of_ble_eq_true rfl, Nat.le_of_ble_eq_true rfl⟩) hP hD hS hA [0, 1, 2, 3] rfl [hm, gB, gT, gZ] rfl rfl (fun H locs hP hD hS => ?_)
            have hP : va_P D vwCl [(hm, .inr (4, [.int 0, .int (nI a), .ref gB, .int (nI nw), .int (nI ol), .int (b2i O), .int lf, .int us, .int (nI tc), .ref gT, .ref gZ, .int (rc_b f a (nv (f (q * 48 + 2 + i))) 3 S.2)])), (gB, .inl (cI, 5760, .inl f)), (gT, .inl (cI, 32, .inl t)), (gZ, .inl (cZ, 120, .inl (upd S.1 (nv (f (q * 48 + 2 + i))) 1)))] _ := hP
            have hD : va_D A [(hm, .inr (4, [.int 0, .int (nI a), .ref gB, .int (nI nw), .int (nI ol), .int (b2i O), .int lf, .int us, .int (nI tc), .ref gT, .ref gZ, .int (rc_b f a (nv (f (q * 48 + 2 + i))) 3 S.2)])), (gB, .inl (cI, 5760, .inl f)), (gT, .inl (cI, 32, .inl t)), (gZ, .inl (cZ, 120, .inl (upd S.1 (nv (f (q * 48 + 2 + i))) 1)))] := hD
            refine lv_iinc (v := nI (i + 1)) (lv' := [(2, .int (nI (i + 1))), (0, .ref hm), (1, .int (nI q))]) hx hb dX4_reachNode_47 hl (k := 0) rfl (nI_add i 1) (by decide) rfl (fun ls hl => ?_)
            refine lv_goto (tgt := 8) hx hb dX4_reachNode_50 (by decide) ?_
            exact ih8 (i + 1) (upd S.1 (nv (f (q * 48 + 2 + i))) 1, rc_b f a (nv (f (q * 48 + 2 + i))) 3 S.2) (by omega) (Or.inr (b2i_n0 c20)) (by rw [rcT, ifp_f c31, ← ex]; rfl) (by omega) _ _ hP hD hS ls (lv_sub hl [0, 1, 2] rfl)
  exact loop8 _ 0 (rc1 f a q 2 (z, bd)) (by omega) (Or.inl rfl) (rfl) (Nat.lt_succ_self _) _ _ hP hD hS ls (lv_sub hl [0, 1, 2] rfl)
set_option maxHeartbeats 4000000 in
set_option maxRecDepth 100000 in
theorem c_X4_reachAll (l : Launch) (D : va_G) (cI cZ : ClassId) (hm gB gT gZ a tc nw ol : Nat) (f t z : Nat → Int32) (O : Prop) (lf us bd : Int32) (ha : a ≤ 120) (h12 : 12 ≤ a) (htc : tc ≤ 32) (hnw : nw ≤ 1000000) (hol : ol ≤ nw + 1) : CtV l yX4_reachAll wsX4_reachAll ({ frames := 6, cells := 0, slots := 0, locals := 136 }) D vwCl (ct_T cI cZ) [.ref hm] [(hm, .inr (4, [.int 0, .int (nI a), .ref gB, .int (nI nw), .int (nI ol), .int (b2i O), .int lf, .int us, .int (nI tc), .ref gT, .ref gZ, .int bd])), (gB, .inl (cI, 5760, .inl f)), (gT, .inl (cI, 32, .inl t)), (gZ, .inl (cZ, 120, .inl z))] [(hm, .inr (4, [.int 0, .int (nI a), .ref gB, .int (nI nw), .int (nI ol), .int (b2i O), .int lf, .int us, .int (nI tc), .ref gT, .ref gZ, .int ((rall f a ol (nw + 1 - ol) z).2)])), (gB, .inl (cI, 5760, .inl f)), (gT, .inl (cI, 32, .inl t)), (gZ, .inl (cZ, 120, .inl ((rall f a ol (nw + 1 - ol) z).1)))] := by
  refine ct_of (Qf := ct_Qv D vwCl [(hm, .inr (4, [.int 0, .int (nI a), .ref gB, .int (nI nw), .int (nI ol), .int (b2i O), .int lf, .int us, .int (nI tc), .ref gT, .ref gZ, .int ((rall f a ol (nw + 1 - ol) z).2)])), (gB, .inl (cI, 5760, .inl f)), (gT, .inl (cI, 32, .inl t)), (gZ, .inl (cZ, 120, .inl ((rall f a ol (nw + 1 - ol) z).1)))]) (cc := cX4_reachAll) (maxL := 4) (ret := none) [(0, .ref hm)] (by decide) rfl (Nat.le_of_ble_eq_true rfl) rfl ?_
  intro p e s m below meth c hx hb hr hts hown hlocks hml hnm A hA hK hN hP hD hS ls hl
  have hown : s.vm.findClass RX4 = some m.cls := hown
  have hk0 := hts (.fieldLink RX4 60 "DesignPagesModel" "bad" "I") (by decide +kernel)
  have hk1 := hts (.fieldLink RX4 27 "DesignPagesModel" "pages" "I") (by decide +kernel)
  have hk2 := hts (.fieldLink RX4 13 "DesignPagesModel" "oldest" "I") (by decide +kernel)
  have hk3 := hts (.fieldLink RX4 67 "DesignPagesModel" "newest" "I") (by decide +kernel)
  have hk4 := hts (.fieldLink RX4 23 "DesignPagesModel" "reached" "[Z") (by decide +kernel)
  have hiX4 : ∀ w ∈ wsX40, w ∈ wsX4_reachAll := by decide +kernel
  refine lv_aload_n hx hb dX4_reachAll_0 rfl (lv_at hl 0 rfl) ?_
  refine lv_iconst (v := (-1)) hx hb dX4_reachAll_1 (by decide) ?_
  refine va_put (D := D) (cl := vwCl) (ci := 4) (v := .int (-1)) (ty := .int) (C := RX4) (T := TX4) (N := 12) hx hb hts hiX4 tyX4 tyX4_ok nmX4 hown hK hP hD hS 0 rfl rfl 11 (by decide) hk0 (fun _ h9 => h9) rfl (by decide +kernel) rfl rfl (Nat.le_of_ble_eq_true rfl) dX4_reachAll_2 (fun H locs hP hD hS => ?_)
  have hP : va_P D vwCl [(hm, .inr (4, [.int 0, .int (nI a), .ref gB, .int (nI nw), .int (nI ol), .int (b2i O), .int lf, .int us, .int (nI tc), .ref gT, .ref gZ, .int (-1)])), (gB, .inl (cI, 5760, .inl f)), (gT, .inl (cI, 32, .inl t)), (gZ, .inl (cZ, 120, .inl z))] _ := hP
  have hD : va_D A [(hm, .inr (4, [.int 0, .int (nI a), .ref gB, .int (nI nw), .int (nI ol), .int (b2i O), .int lf, .int us, .int (nI tc), .ref gT, .ref gZ, .int (-1)])), (gB, .inl (cI, 5760, .inl f)), (gT, .inl (cI, 32, .inl t)), (gZ, .inl (cZ, 120, .inl z))] := hD
  refine lv_iconst (v := 0) hx hb dX4_reachAll_5 (by decide) ?_
  refine lv_istore_n (lv' := [(1, .int 0), (0, .ref hm)]) hx hb dX4_reachAll_6 rfl hl (by decide) rfl (fun ls hl => ?_)
  have loop7 : ∀ (n7 : Nat) (i : Nat) (g : Nat → Int32), i ≤ a → g = clr z i → a - i < n7 → ∀ (H : Heap) (locs : List Loc), va_P D vwCl [(hm, .inr (4, [.int 0, .int (nI a), .ref gB, .int (nI nw), .int (nI ol), .int (b2i O), .int lf, .int us, .int (nI tc), .ref gT, .ref gZ, .int (-1)])), (gB, .inl (cI, 5760, .inl f)), (gT, .inl (cI, 32, .inl t)), (gZ, .inl (cZ, 120, .inl g))] H → va_D A [(hm, .inr (4, [.int 0, .int (nI a), .ref gB, .int (nI nw), .int (nI ol), .int (b2i O), .int lf, .int us, .int (nI tc), .ref gT, .ref gZ, .int (-1)])), (gB, .inl (cI, 5760, .inl f)), (gT, .inl (cI, 32, .inl t)), (gZ, .inl (cZ, 120, .inl g))] → va_S A s.heap H locs → ∀ (ls : Array Slot), lv_has ls 4 [(1, .int (nI i)), (0, .ref hm)] → W p l e ({ frames := 6, cells := 0, slots := 0, locals := 136 }) s m ([.ref hm] : List Value).toArray below meth c H locs 0 0 (MQ below (ct_Qv D vwCl [(hm, .inr (4, [.int 0, .int (nI a), .ref gB, .int (nI nw), .int (nI ol), .int (b2i O), .int lf, .int us, .int (nI tc), .ref gT, .ref gZ, .int ((rall f a ol (nw + 1 - ol) z).2)])), (gB, .inl (cI, 5760, .inl f)), (gT, .inl (cI, 32, .inl t)), (gZ, .inl (cZ, 120, .inl ((rall f a ol (nw + 1 - ol) z).1)))] A) ([.ref hm] : List Value).toArray s 0 0 A) (F0 m 7 ls []) := by
    intro n7
    induction n7 with
    | zero =>
      intro i g _ _ hm
      exact absurd hm (Nat.not_lt_zero _)
    | succ n7 ih7 =>
      intro i g hi ex hm7 H locs hP hD hS ls hl
      refine lv_iload_n hx hb dX4_reachAll_7 rfl (lv_at hl 0 rfl) ?_
      refine lv_aload_n hx hb dX4_reachAll_8 rfl (lv_at hl 1 rfl) ?_
      refine va_get (D := D) (cl := vwCl) (ci := 4) (v := .int (nI a)) (C := RX4) (T := TX4) (N := 12) hx hb hts hiX4 hown hK hP 0 rfl rfl 1 (by decide) hk1 (fun _ h9 => h9) rfl dX4_reachAll_9 ?_
      refine lv_icmp_ge (tgt := 28) hx hb dX4_reachAll_12 (by decide) (fun c12 => ?_) (fun c12 => ?_)
      · skip
        have c12 : a ≤ i := (nI_leI (a := a) (b := i) (by omega) (by omega)).mp c12
        refine lv_aload_n hx hb dX4_reachAll_28 rfl (lv_at hl 1 rfl) ?_
        refine va_get (D := D) (cl := vwCl) (ci := 4) (v := .int (nI ol)) (C := RX4) (T := TX4) (N := 12) hx hb hts hiX4 hown hK hP 0 rfl rfl 4 (by decide) hk2 (fun _ h9 => h9) rfl dX4_reachAll_29 ?_
        refine lv_istore_n (lv' := [(1, .int (nI ol)), (0, .ref hm)]) hx hb dX4_reachAll_32 rfl hl (by decide) rfl (fun ls hl => ?_)
        have loop33 : ∀ (n33 : Nat) (j : Nat) (S : RS), ol + j ≤ nw + 1 → S = rcA f a ol (clr z a, -1) j → nw + 1 - j < n33 → ∀ (H : Heap) (locs : List Loc), va_P D vwCl [(hm, .inr (4, [.int 0, .int (nI a), .ref gB, .int (nI nw), .int (nI ol), .int (b2i O), .int lf, .int us, .int (nI tc), .ref gT, .ref gZ, .int S.2])), (gB, .inl (cI, 5760, .inl f)), (gT, .inl (cI, 32, .inl t)), (gZ, .inl (cZ, 120, .inl S.1))] H → va_D A [(hm, .inr (4, [.int 0, .int (nI a), .ref gB, .int (nI nw), .int (nI ol), .int (b2i O), .int lf, .int us, .int (nI tc), .ref gT, .ref gZ, .int S.2])), (gB, .inl (cI, 5760, .inl f)), (gT, .inl (cI, 32, .inl t)), (gZ, .inl (cZ, 120, .inl S.1))] → va_S A s.heap H locs → ∀ (ls : Array Slot), lv_has ls 4 [(1, .int (nI (ol + j))), (0, .ref hm)] → W p l e ({ frames := 6, cells := 0, slots := 0, locals := 136 }) s m ([.ref hm] : List Value).toArray below meth c H locs 0 0 (MQ below (ct_Qv D vwCl [(hm, .inr (4, [.int 0, .int (nI a), .ref gB, .int (nI nw), .int (nI ol), .int (b2i O), .int lf, .int us, .int (nI tc), .ref gT, .ref gZ, .int ((rall f a ol (nw + 1 - ol) z).2)])), (gB, .inl (cI, 5760, .inl f)), (gT, .inl (cI, 32, .inl t)), (gZ, .inl (cZ, 120, .inl ((rall f a ol (nw + 1 - ol) z).1)))] A) ([.ref hm] : List Value).toArray s 0 0 A) (F0 m 33 ls []) := by
          intro n33
          induction n33 with
          | zero =>
            intro j S _ _ hm
            exact absurd hm (Nat.not_lt_zero _)
          | succ n33 ih33 =>
            intro j S hj ex2 hm33 H locs hP hD hS ls hl
            refine lv_iload_n hx hb dX4_reachAll_33 rfl (lv_at hl 0 rfl) ?_
            refine lv_aload_n hx hb dX4_reachAll_34 rfl (lv_at hl 1 rfl) ?_
            refine va_get (D := D) (cl := vwCl) (ci := 4) (v := .int (nI nw)) (C := RX4) (T := TX4) (N := 12) hx hb hts hiX4 hown hK hP 0 rfl rfl 3 (by decide) hk3 (fun _ h9 => h9) rfl dX4_reachAll_35 ?_
            refine lv_icmp_gt (tgt := 106) hx hb dX4_reachAll_38 (by decide) (fun c38 => ?_) (fun c38 => ?_)
            · skip
              have c38 : nw < (ol + j) := (nI_ltI (a := nw) (b := (ol + j)) (by omega) (by omega)).mp c38
              have e9 : rall f a ol (nw + 1 - ol) z = S := by unfold rall; rw [show nw + 1 - ol = j by omega, ex2]
              exact ct_vret hx hb hr hlocks (by rw [e9]) hP hD hS dX4_reachAll_106
            · skip
              have c38 : ¬ nw < (ol + j) := fun h => c38 ((nI_ltI (a := nw) (b := (ol + j)) (by omega) (by omega)).mpr h)
              refine lv_iload_n hx hb dX4_reachAll_41 rfl (lv_at hl 0 rfl) ?_
              refine lv_bipush (v := 8) hx hb dX4_reachAll_42 (by decide) ?_
              refine lv_irem hx hb dX4_reachAll_44 (by decide) ?_
              refine ct_top (y := nI ((ol + j) % 8)) (pk_rem (by omega) (by decide) (by decide)) ?_
              refine lv_istore_n (lv' := [(2, .int (nI ((ol + j) % 8))), (1, .int (nI (ol + j))), (0, .ref hm)]) hx hb dX4_reachAll_45 rfl hl (by decide) rfl (fun ls hl => ?_)
              refine lv_aload_n hx hb dX4_reachAll_46 rfl (lv_at hl 2 rfl) ?_
              refine lv_iload_n hx hb dX4_reachAll_47 rfl (lv_at hl 0 rfl) ?_
              refine lv_iconst (v := 1) hx hb dX4_reachAll_48 (by decide) ?_
              refine ct_callv (w := [(hm, .inr (4, [.int 0, .int (nI a), .ref gB, .int (nI nw), .int (nI ol), .int (b2i O), .int lf, .int us, .int (nI tc), .ref gT, .ref gZ, .int S.2])), (gB, .inl (cI, 5760, .inl f)), (gT, .inl (cI, 32, .inl t)), (gZ, .inl (cZ, 120, .inl S.1))]) (w' := [(hm, .inr (4, [.int 0, .int (nI a), .ref gB, .int (nI nw), .int (nI ol), .int (b2i O), .int lf, .int us, .int (nI tc), .ref gT, .ref gZ, .int (rc_b f a ((ol + j) % 8) 1 S.2)])), (gB, .inl (cI, 5760, .inl f)), (gT, .inl (cI, 32, .inl t)), (gZ, .inl (cZ, 120, .inl (upd S.1 ((ol + j) % 8) 1)))]) (va_runV (As := [.int (nI ((ol + j) % 8)), .int 1]) (rest := []) ⟨hx, hb, hml, hown, hts⟩ (c_X4_reach l D cI cZ hm gB gT gZ a tc nw ol f t S.1 O lf us S.2 ((ol + j) % 8) 1 (by omega) (by omega) (by omega) (by omega) (by omega) (by omega) (Or.inl rfl) _) (cwV 2 hts gX4_reachAll_X4_reach rfl rfl rfl (by decide +kernel) ⟨Nat.le_of_ble_eq_true rfl, Nat.le_of_ble_eq_true rfl⟩) (ct_preV (w := [(hm, .inr (4, [.int 0, .int (nI a), .ref gB, .int (nI nw), .int (nI ol), .int (b2i O), .int lf, .int us, .int (nI tc), .ref gT, .ref gZ, .int S.2])), (gB, .inl (cI, 5760, .inl f)), (gT, .inl (cI, 32, .inl t)), (gZ, .inl (cZ, 120, .inl S.1))]) (ci := 4) (i0 := 0) hK hN hP hD [0, 1, 2, 3] (by decide) rfl rfl rfl) rfl rfl hl.1 rfl (lv_room (Nat.le_of_ble_eq_true rfl)) dX4_reachAll_49 ⟨Nat.le_of_ble_eq_true rfl, Nat.le_of_ble_eq_true rfl⟩) hP hD hS hA [0, 1, 2, 3] rfl [hm, gB, gT, gZ] rfl rfl (fun H locs hP hD hS => ?_)
              have hP : va_P D vwCl [(hm, .inr (4, [.int 0, .int (nI a), .ref gB, .int (nI nw), .int (nI ol), .int (b2i O), .int lf, .int us, .int (nI tc), .ref gT, .ref gZ, .int (rc_b f a ((ol + j) % 8) 1 S.2)])), (gB, .inl (cI, 5760, .inl f)), (gT, .inl (cI, 32, .inl t)), (gZ, .inl (cZ, 120, .inl (upd S.1 ((ol + j) % 8) 1)))] _ := hP
              have hD : va_D A [(hm, .inr (4, [.int 0, .int (nI a), .ref gB, .int (nI nw), .int (nI ol), .int (b2i O), .int lf, .int us, .int (nI tc), .ref gT, .ref gZ, .int (rc_b f a ((ol + j) % 8) 1 S.2)])), (gB, .inl (cI, 5760, .inl f)), (gT, .inl (cI, 32, .inl t)), (gZ, .inl (cZ, 120, .inl (upd S.1 ((ol + j) % 8) 1)))] := hD
              refine lv_iconst (v := 0) hx hb dX4_reachAll_52 (by decide) ?_
              refine lv_istore_n (lv' := [(3, .int 0), (2, .int (nI ((ol + j) % 8))), (1, .int (nI (ol + j))), (0, .ref hm)]) hx hb dX4_reachAll_53 rfl hl (by decide) rfl (fun ls hl => ?_)
              have loop54 : ∀ (n54 : Nat) (k : Nat) (S2 : RS), k ≤ 32 → k = 0 ∨ pg_right f a ((ol + j) % 8) 1 → S2 = rcN f a ((ol + j) % 8 * 48 + 9) (rc1 f a ((ol + j) % 8) 1 S) k → 32 - k < n54 → ∀ (H : Heap) (locs : List Loc), va_P D vwCl [(hm, .inr (4, [.int 0, .int (nI a), .ref gB, .int (nI nw), .int (nI ol), .int (b2i O), .int lf, .int us, .int (nI tc), .ref gT, .ref gZ, .int S2.2])), (gB, .inl (cI, 5760, .inl f)), (gT, .inl (cI, 32, .inl t)), (gZ, .inl (cZ, 120, .inl S2.1))] H → va_D A [(hm, .inr (4, [.int 0, .int (nI a), .ref gB, .int (nI nw), .int (nI ol), .int (b2i O), .int lf, .int us, .int (nI tc), .ref gT, .ref gZ, .int S2.2])), (gB, .inl (cI, 5760, .inl f)), (gT, .inl (cI, 32, .inl t)), (gZ, .inl (cZ, 120, .inl S2.1))] → va_S A s.heap H locs → ∀ (ls : Array Slot), lv_has ls 4 [(3, .int (nI k)), (2, .int (nI ((ol + j) % 8))), (1, .int (nI (ol + j))), (0, .ref hm)] → W p l e ({ frames := 6, cells := 0, slots := 0, locals := 136 }) s m ([.ref hm] : List Value).toArray below meth c H locs 0 0 (MQ below (ct_Qv D vwCl [(hm, .inr (4, [.int 0, .int (nI a), .ref gB, .int (nI nw), .int (nI ol), .int (b2i O), .int lf, .int us, .int (nI tc), .ref gT, .ref gZ, .int ((rall f a ol (nw + 1 - ol) z).2)])), (gB, .inl (cI, 5760, .inl f)), (gT, .inl (cI, 32, .inl t)), (gZ, .inl (cZ, 120, .inl ((rall f a ol (nw + 1 - ol) z).1)))] A) ([.ref hm] : List Value).toArray s 0 0 A) (F0 m 54 ls []) := by
                intro n54
                induction n54 with
                | zero =>
                  intro k S2 _ _ _ hm
                  exact absurd hm (Nat.not_lt_zero _)
                | succ n54 ih54 =>
                  intro k S2 hk hz ex3 hm54 H locs hP hD hS ls hl
                  refine lv_iload_n hx hb dX4_reachAll_54 rfl (lv_at hl 0 rfl) ?_
                  refine lv_bipush (v := 32) hx hb dX4_reachAll_55 (by decide) ?_
                  refine lv_icmp_ge (tgt := 100) hx hb dX4_reachAll_57 (by decide) (fun c57 => ?_) (fun c57 => ?_)
                  · skip
                    have c57 : 32 ≤ k := (nI_leI (a := 32) (b := k) (by omega) (by omega)).mp c57
                    refine lv_iinc (v := nI ((ol + j) + 1)) (lv' := [(1, .int (nI ((ol + j) + 1))), (3, .int (nI k)), (2, .int (nI ((ol + j) % 8))), (0, .ref hm)]) hx hb dX4_reachAll_100 hl (k := 2) rfl (nI_add (ol + j) 1) (by decide) rfl (fun ls hl => ?_)
                    refine lv_goto (tgt := 33) hx hb dX4_reachAll_103 (by decide) ?_
                    exact ih33 (j + 1) S2 (by omega) (by show S2 = rro f a ((ol + j) % 8) (rcA f a ol (clr z a, -1) j); rw [← ex2]; unfold rro; rw [ifp_t (hz.resolve_left (by omega)), ex3, show k = 32 by omega]) (by omega) _ _ hP hD hS ls (lv_sub hl [0, 3] rfl)
                  · skip
                    have c57 : ¬ 32 ≤ k := fun h => c57 ((nI_leI (a := 32) (b := k) (by omega) (by omega)).mpr h)
                    refine lv_aload_n hx hb dX4_reachAll_60 rfl (lv_at hl 3 rfl) ?_
                    refine lv_iload_n hx hb dX4_reachAll_61 rfl (lv_at hl 1 rfl) ?_
                    refine lv_iconst (v := 1) hx hb dX4_reachAll_62 (by decide) ?_
                    refine ct_calli (w := [(hm, .inr (4, [.int 0, .int (nI a), .ref gB, .int (nI nw), .int (nI ol), .int (b2i O), .int lf, .int us, .int (nI tc), .ref gT, .ref gZ, .int S2.2])), (gB, .inl (cI, 5760, .inl f)), (gT, .inl (cI, 32, .inl t)), (gZ, .inl (cZ, 120, .inl S2.1))]) (w' := [(hm, .inr (4, [.int 0, .int (nI a), .ref gB, .int (nI nw), .int (nI ol), .int (b2i O), .int lf, .int us, .int (nI tc), .ref gT, .ref gZ, .int S2.2])), (gB, .inl (cI, 5760, .inl f)), (gT, .inl (cI, 32, .inl t)), (gZ, .inl (cZ, 120, .inl S2.1))]) (va_runV (As := [.int (nI ((ol + j) % 8)), .int 1]) (rest := []) ⟨hx, hb, hml, hown, hts⟩ (c_X4_isRight l D cI cZ hm gB gT gZ a tc nw ol f t S2.1 O lf us S2.2 ((ol + j) % 8) 1 (by omega) (by omega) (by omega) (by omega) (by omega) (by omega) (Or.inl rfl) _) (cwV 2 hts gX4_reachAll_X4_isRight rfl rfl rfl (by decide +kernel) ⟨Nat.le_of_ble_eq_true rfl, Nat.le_of_ble_eq_true rfl⟩) (ct_preV (w := [(hm, .inr (4, [.int 0, .int (nI a), .ref gB, .int (nI nw), .int (nI ol), .int (b2i O), .int lf, .int us, .int (nI tc), .ref gT, .ref gZ, .int S2.2])), (gB, .inl (cI, 5760, .inl f)), (gT, .inl (cI, 32, .inl t)), (gZ, .inl (cZ, 120, .inl S2.1))]) (ci := 4) (i0 := 0) hK hN hP hD [0, 1, 2, 3] (by decide) rfl rfl rfl) rfl rfl hl.1 rfl (lv_room (Nat.le_of_ble_eq_true rfl)) dX4_reachAll_63 ⟨Nat.le_of_ble_eq_true rfl, Nat.le_of_ble_eq_true rfl⟩) hP hD hS hA [0, 1, 2, 3] rfl [hm, gB, gT, gZ] rfl rfl (fun H locs hP hD hS => ?_)
                    have hP : va_P D vwCl [(hm, .inr (4, [.int 0, .int (nI a), .ref gB, .int (nI nw), .int (nI ol), .int (b2i O), .int lf, .int us, .int (nI tc), .ref gT, .ref gZ, .int S2.2])), (gB, .inl (cI, 5760, .inl f)), (gT, .inl (cI, 32, .inl t)), (gZ, .inl (cZ, 120, .inl S2.1))] _ := hP
                    have hD : va_D A [(hm, .inr (4, [.int 0, .int (nI a), .ref gB, .int (nI nw), .int (nI ol), .int (b2i O), .int lf, .int us, .int (nI tc), .ref gT, .ref gZ, .int S2.2])), (gB, .inl (cI, 5760, .inl f)), (gT, .inl (cI, 32, .inl t)), (gZ, .inl (cZ, 120, .inl S2.1))] := hD
                    refine lv_if_eq (tgt := 100) hx hb dX4_reachAll_66 (by decide) (fun c66 => ?_) (fun c66 => ?_)
                    · skip
                      refine lv_iinc (v := nI ((ol + j) + 1)) (lv' := [(1, .int (nI ((ol + j) + 1))), (3, .int (nI k)), (2, .int (nI ((ol + j) % 8))), (0, .ref hm)]) hx hb dX4_reachAll_100 hl (k := 2) rfl (nI_add (ol + j) 1) (by decide) rfl (fun ls hl => ?_)
                      refine lv_goto (tgt := 33) hx hb dX4_reachAll_103 (by decide) ?_
                      exact ih33 (j + 1) S2 (by omega) (by show S2 = rro f a ((ol + j) % 8) (rcA f a ol (clr z a, -1) j); rw [← ex2]; unfold rro; rw [ifp_f (b2i_0.mp c66), ex3, hz.resolve_right (b2i_0.mp c66)]; rfl) (by omega) _ _ hP hD hS ls (lv_sub hl [0, 3] rfl)
                    · skip
                      refine lv_aload_n hx hb dX4_reachAll_69 rfl (lv_at hl 3 rfl) ?_
                      refine lv_iload_n hx hb dX4_reachAll_70 rfl (lv_at hl 1 rfl) ?_
                      refine lv_bipush (v := 9) hx hb dX4_reachAll_71 (by decide) ?_
                      refine lv_iload_n hx hb dX4_reachAll_73 rfl (lv_at hl 0 rfl) ?_
                      refine lv_iadd hx hb dX4_reachAll_74 ?_
                      refine ct_top (y := nI (9 + k)) (nI_add 9 k) ?_
                      refine ct_calli (w := [(hm, .inr (4, [.int 0, .int (nI a), .ref gB, .int (nI nw), .int (nI ol), .int (b2i O), .int lf, .int us, .int (nI tc), .ref gT, .ref gZ, .int S2.2])), (gB, .inl (cI, 5760, .inl f)), (gT, .inl (cI, 32, .inl t)), (gZ, .inl (cZ, 120, .inl S2.1))]) (w' := [(hm, .inr (4, [.int 0, .int (nI a), .ref gB, .int (nI nw), .int (nI ol), .int (b2i O), .int lf, .int us, .int (nI tc), .ref gT, .ref gZ, .int S2.2])), (gB, .inl (cI, 5760, .inl f)), (gT, .inl (cI, 32, .inl t)), (gZ, .inl (cZ, 120, .inl S2.1))]) (va_runV (As := [.int (nI ((ol + j) % 8)), .int (nI (9 + k))]) (rest := []) ⟨hx, hb, hml, hown, hts⟩ (c_X4_at l D cI cZ hm gB gT gZ a tc nw ol f t S2.1 O lf us S2.2 ((ol + j) % 8) (9 + k) (by omega) (by omega) (by omega) (by omega) (by omega) (by omega) (by omega) _) (cwV 2 hts gX4_reachAll_X4_at rfl rfl rfl (by decide +kernel) ⟨Nat.le_of_ble_eq_true rfl, Nat.le_of_ble_eq_true rfl⟩) (ct_preV (w := [(hm, .inr (4, [.int 0, .int (nI a), .ref gB, .int (nI nw), .int (nI ol), .int (b2i O), .int lf, .int us, .int (nI tc), .ref gT, .ref gZ, .int S2.2])), (gB, .inl (cI, 5760, .inl f)), (gT, .inl (cI, 32, .inl t)), (gZ, .inl (cZ, 120, .inl S2.1))]) (ci := 4) (i0 := 0) hK hN hP hD [0, 1, 2, 3] (by decide) rfl rfl rfl) rfl rfl hl.1 rfl (lv_room (Nat.le_of_ble_eq_true rfl)) dX4_reachAll_75 ⟨Nat.le_of_ble_eq_true rfl, Nat.le_of_ble_eq_true rfl⟩) hP hD hS hA [0, 1, 2, 3] rfl [hm, gB, gT, gZ] rfl rfl (fun H locs hP hD hS => ?_)
                      have hP : va_P D vwCl [(hm, .inr (4, [.int 0, .int (nI a), .ref gB, .int (nI nw), .int (nI ol), .int (b2i O), .int lf, .int us, .int (nI tc), .ref gT, .ref gZ, .int S2.2])), (gB, .inl (cI, 5760, .inl f)), (gT, .inl (cI, 32, .inl t)), (gZ, .inl (cZ, 120, .inl S2.1))] _ := hP
                      have hD : va_D A [(hm, .inr (4, [.int 0, .int (nI a), .ref gB, .int (nI nw), .int (nI ol), .int (b2i O), .int lf, .int us, .int (nI tc), .ref gT, .ref gZ, .int S2.2])), (gB, .inl (cI, 5760, .inl f)), (gT, .inl (cI, 32, .inl t)), (gZ, .inl (cZ, 120, .inl S2.1))] := hD
                      refine ct_top (y := f ((ol + j) % 8 * 48 + 9 + k)) (by rw [Nat.add_assoc]) ?_
                      refine lv_if_eq (tgt := 94) hx hb dX4_reachAll_78 (by decide) (fun c78 => ?_) (fun c78 => ?_)
                      · skip
                        refine lv_iinc (v := nI (k + 1)) (lv' := [(3, .int (nI (k + 1))), (2, .int (nI ((ol + j) % 8))), (1, .int (nI (ol + j))), (0, .ref hm)]) hx hb dX4_reachAll_94 hl (k := 0) rfl (nI_add k 1) (by decide) rfl (fun ls hl => ?_)
                        refine lv_goto (tgt := 54) hx hb dX4_reachAll_97 (by decide) ?_
                        exact ih54 (k + 1) S2 (by omega) (Or.inr (b2i_n0 c66)) (by rw [rcN, ifp_t c78]; exact ex3) (by omega) _ _ hP hD hS ls (lv_sub hl [0, 1, 2, 3] rfl)
                      · skip
                        refine lv_aload_n hx hb dX4_reachAll_81 rfl (lv_at hl 3 rfl) ?_
                        refine lv_aload_n hx hb dX4_reachAll_82 rfl (lv_at hl 3 rfl) ?_
                        refine lv_iload_n hx hb dX4_reachAll_83 rfl (lv_at hl 1 rfl) ?_
                        refine lv_bipush (v := 9) hx hb dX4_reachAll_84 (by decide) ?_
                        refine lv_iload_n hx hb dX4_reachAll_86 rfl (lv_at hl 0 rfl) ?_
                        refine lv_iadd hx hb dX4_reachAll_87 ?_
                        refine ct_top (y := nI (9 + k)) (nI_add 9 k) ?_
                        refine ct_calli (w := [(hm, .inr (4, [.int 0, .int (nI a), .ref gB, .int (nI nw), .int (nI ol), .int (b2i O), .int lf, .int us, .int (nI tc), .ref gT, .ref gZ, .int S2.2])), (gB, .inl (cI, 5760, .inl f)), (gT, .inl (cI, 32, .inl t)), (gZ, .inl (cZ, 120, .inl S2.1))]) (w' := [(hm, .inr (4, [.int 0, .int (nI a), .ref gB, .int (nI nw), .int (nI ol), .int (b2i O), .int lf, .int us, .int (nI tc), .ref gT, .ref gZ, .int S2.2])), (gB, .inl (cI, 5760, .inl f)), (gT, .inl (cI, 32, .inl t)), (gZ, .inl (cZ, 120, .inl S2.1))]) (va_runV (As := [.int (nI ((ol + j) % 8)), .int (nI (9 + k))]) (rest := [.ref hm]) ⟨hx, hb, hml, hown, hts⟩ (c_X4_at l D cI cZ hm gB gT gZ a tc nw ol f t S2.1 O lf us S2.2 ((ol + j) % 8) (9 + k) (by omega) (by omega) (by omega) (by omega) (by omega) (by omega) (by omega) _) (cwV 2 hts gX4_reachAll_X4_at rfl rfl rfl (by decide +kernel) ⟨Nat.le_of_ble_eq_true rfl, Nat.le_of_ble_eq_true rfl⟩) (ct_preV (w := [(hm, .inr (4, [.int 0, .int (nI a), .ref gB, .int (nI nw), .int (nI ol), .int (b2i O), .int lf, .int us, .int (nI tc), .ref gT, .ref gZ, .int S2.2])), (gB, .inl (cI, 5760, .inl f)), (gT, .inl (cI, 32, .inl t)), (gZ, .inl (cZ, 120, .inl S2.1))]) (ci := 4) (i0 := 0) hK hN hP hD [0, 1, 2, 3] (by decide) rfl rfl rfl) rfl rfl hl.1 rfl (lv_room (Nat.le_of_ble_eq_true rfl)) dX4_reachAll_88 ⟨Nat.le_of_ble_eq_true rfl, Nat.le_of_ble_eq_true rfl⟩) hP hD hS hA [0, 1, 2, 3] rfl [hm, gB, gT, gZ] rfl rfl (fun H locs hP hD hS => ?_)
                        have hP : va_P D vwCl [(hm, .inr (4, [.int 0, .int (nI a), .ref gB, .int (nI nw), .int (nI ol), .int (b2i O), .int lf, .int us, .int (nI tc), .ref gT, .ref gZ, .int S2.2])), (gB, .inl (cI, 5760, .inl f)), (gT, .inl (cI, 32, .inl t)), (gZ, .inl (cZ, 120, .inl S2.1))] _ := hP
                        have hD : va_D A [(hm, .inr (4, [.int 0, .int (nI a), .ref gB, .int (nI nw), .int (nI ol), .int (b2i O), .int lf, .int us, .int (nI tc), .ref gT, .ref gZ, .int S2.2])), (gB, .inl (cI, 5760, .inl f)), (gT, .inl (cI, 32, .inl t)), (gZ, .inl (cZ, 120, .inl S2.1))] := hD
                        have hn1 := pg_one_nv (((b2i_n0 c66).2.2.1 rfl).2 k (by omega)) ha (by omega)
                        have hn2 := hn1.2.1
                        refine ct_top (y := nI (nv (f ((ol + j) % 8 * 48 + 9 + k)))) (by rw [← Nat.add_assoc]; exact hn1.1) ?_
                        refine ct_callv (w := [(hm, .inr (4, [.int 0, .int (nI a), .ref gB, .int (nI nw), .int (nI ol), .int (b2i O), .int lf, .int us, .int (nI tc), .ref gT, .ref gZ, .int S2.2])), (gB, .inl (cI, 5760, .inl f)), (gT, .inl (cI, 32, .inl t)), (gZ, .inl (cZ, 120, .inl S2.1))]) (w' := [(hm, .inr (4, [.int 0, .int (nI a), .ref gB, .int (nI nw), .int (nI ol), .int (b2i O), .int lf, .int us, .int (nI tc), .ref gT, .ref gZ, .int ((rnd f a (nv (f ((ol + j) % 8 * 48 + 9 + k))) (S2.1, S2.2)).2)])), (gB, .inl (cI, 5760, .inl f)), (gT, .inl (cI, 32, .inl t)), (gZ, .inl (cZ, 120, .inl ((rnd f a (nv (f ((ol + j) % 8 * 48 + 9 + k))) (S2.1, S2.2)).1)))]) (va_runV (As := [.int (nI (nv (f ((ol + j) % 8 * 48 + 9 + k))))]) (rest := []) ⟨hx, hb, hml, hown, hts⟩ (c_X4_reachNode l D cI cZ hm gB gT gZ a tc nw ol f t S2.1 O lf us S2.2 (nv (f ((ol + j) % 8 * 48 + 9 + k))) (by omega) (by omega) (by omega) (by omega) (by omega) (by omega) _) (cwV 1 hts gX4_reachAll_X4_reachNode rfl rfl rfl (by decide +kernel) ⟨Nat.le_of_ble_eq_true rfl, Nat.le_of_ble_eq_true rfl⟩) (ct_preV (w := [(hm, .inr (4, [.int 0, .int (nI a), .ref gB, .int (nI nw), .int (nI ol), .int (b2i O), .int lf, .int us, .int (nI tc), .ref gT, .ref gZ, .int S2.2])), (gB, .inl (cI, 5760, .inl f)), (gT, .inl (cI, 32, .inl t)), (gZ, .inl (cZ, 120, .inl S2.1))]) (ci := 4) (i0 := 0) hK hN hP hD [0, 1, 2, 3] (by decide) rfl rfl rfl) rfl rfl hl.1 rfl (lv_room (Nat.le_of_ble_eq_true rfl)) dX4_reachAll_91 ⟨Nat.le_of_ble_eq_true rfl, Nat.le_of_ble_eq_true rfl⟩) hP hD hS hA [0, 1, 2, 3] rfl [hm, gB, gT, gZ] rfl rfl (fun H locs hP hD hS => ?_)
                        have hP : va_P D vwCl [(hm, .inr (4, [.int 0, .int (nI a), .ref gB, .int (nI nw), .int (nI ol), .int (b2i O), .int lf, .int us, .int (nI tc), .ref gT, .ref gZ, .int ((rnd f a (nv (f ((ol + j) % 8 * 48 + 9 + k))) (S2.1, S2.2)).2)])), (gB, .inl (cI, 5760, .inl f)), (gT, .inl (cI, 32, .inl t)), (gZ, .inl (cZ, 120, .inl ((rnd f a (nv (f ((ol + j) % 8 * 48 + 9 + k))) (S2.1, S2.2)).1)))] _ := hP
                        have hD : va_D A [(hm, .inr (4, [.int 0, .int (nI a), .ref gB, .int (nI nw), .int (nI ol), .int (b2i O), .int lf, .int us, .int (nI tc), .ref gT, .ref gZ, .int ((rnd f a (nv (f ((ol + j) % 8 * 48 + 9 + k))) (S2.1, S2.2)).2)])), (gB, .inl (cI, 5760, .inl f)), (gT, .inl (cI, 32, .inl t)), (gZ, .inl (cZ, 120, .inl ((rnd f a (nv (f ((ol + j) % 8 * 48 + 9 + k))) (S2.1, S2.2)).1)))] := hD
                        refine lv_iinc (v := nI (k + 1)) (lv' := [(3, .int (nI (k + 1))), (2, .int (nI ((ol + j) % 8))), (1, .int (nI (ol + j))), (0, .ref hm)]) hx hb dX4_reachAll_94 hl (k := 0) rfl (nI_add k 1) (by decide) rfl (fun ls hl => ?_)
                        refine lv_goto (tgt := 54) hx hb dX4_reachAll_97 (by decide) ?_
                        exact ih54 (k + 1) (rnd f a (nv (f ((ol + j) % 8 * 48 + 9 + k))) S2) (by omega) (Or.inr (b2i_n0 c66)) (by rw [rcN, ifp_f c78, ← ex3]) (by omega) _ _ hP hD hS ls (lv_sub hl [0, 1, 2, 3] rfl)
              exact loop54 _ 0 (rc1 f a ((ol + j) % 8) 1 S) (by omega) (Or.inl rfl) (rfl) (Nat.lt_succ_self _) _ _ hP hD hS ls (lv_sub hl [0, 1, 2, 3] rfl)
        exact loop33 _ 0 (g, (-1)) (by omega) (by rw [ex, show i = a by omega]; rfl) (Nat.lt_succ_self _) _ _ hP hD hS ls (lv_sub hl [0, 1] rfl)
      · skip
        have c12 : ¬ a ≤ i := fun h => c12 ((nI_leI (a := a) (b := i) (by omega) (by omega)).mpr h)
        refine lv_aload_n hx hb dX4_reachAll_15 rfl (lv_at hl 1 rfl) ?_
        refine va_get (D := D) (cl := vwCl) (ci := 4) (v := .ref gZ) (C := RX4) (T := TX4) (N := 12) hx hb hts hiX4 hown hK hP 0 rfl rfl 10 (by decide) hk4 (fun _ h9 => h9) rfl dX4_reachAll_16 ?_
        refine lv_iload_n hx hb dX4_reachAll_19 rfl (lv_at hl 0 rfl) ?_
        refine lv_iconst (v := 0) hx hb dX4_reachAll_20 (by decide) ?_
        refine ct_zast hx hb hK hP hD hS 3 1 (k := i) (x := 0) rfl rfl (by omega) (by omega) (by decide) dX4_reachAll_21 (fun H locs hP hD hS => ?_)
        have hP : va_P D vwCl [(hm, .inr (4, [.int 0, .int (nI a), .ref gB, .int (nI nw), .int (nI ol), .int (b2i O), .int lf, .int us, .int (nI tc), .ref gT, .ref gZ, .int (-1)])), (gB, .inl (cI, 5760, .inl f)), (gT, .inl (cI, 32, .inl t)), (gZ, .inl (cZ, 120, .inl (upd g i 0)))] _ := hP
        have hD : va_D A [(hm, .inr (4, [.int 0, .int (nI a), .ref gB, .int (nI nw), .int (nI ol), .int (b2i O), .int lf, .int us, .int (nI tc), .ref gT, .ref gZ, .int (-1)])), (gB, .inl (cI, 5760, .inl f)), (gT, .inl (cI, 32, .inl t)), (gZ, .inl (cZ, 120, .inl (upd g i 0)))] := hD
        refine lv_iinc (v := nI (i + 1)) (lv' := [(1, .int (nI (i + 1))), (0, .ref hm)]) hx hb dX4_reachAll_22 hl (k := 0) rfl (nI_add i 1) (by decide) rfl (fun ls hl => ?_)
        refine lv_goto (tgt := 7) hx hb dX4_reachAll_25 (by decide) ?_
        exact ih7 (i + 1) (upd g i 0) (by omega) (by rw [ex]; exact clr_s z i) (by omega) _ _ hP hD hS ls (lv_sub hl [0, 1] rfl)
  exact loop7 _ 0 z (Nat.zero_le _) (clr_0 z) (Nat.lt_succ_self _) _ _ hP hD hS ls (lv_sub hl [0, 1] rfl)
set_option maxHeartbeats 4000000 in
set_option maxRecDepth 100000 in
theorem c_X4_free (l : Launch) (D : va_G) (cI cZ : ClassId) (hm gB gT gZ a tc nw ol : Nat) (f t z : Nat → Int32) (O : Prop) (lf us bd : Int32) (n : Nat) (ha : a ≤ 120) (h12 : 12 ≤ a) (htc : tc ≤ 32) (hnw : nw ≤ 1000000) (hol : ol ≤ nw + 1) (hn : n < 2 ^ 31) : CtI l yX4_free wsX4_free ({ frames := 0, cells := 0, slots := 0, locals := 0 }) D vwCl (ct_T cI cZ) [.ref hm, .int (nI n)] [(hm, .inr (4, [.int 0, .int (nI a), .ref gB, .int (nI nw), .int (nI ol), .int (b2i O), .int lf, .int us, .int (nI tc), .ref gT, .ref gZ, .int bd])), (gB, .inl (cI, 5760, .inl f)), (gT, .inl (cI, 32, .inl t)), (gZ, .inl (cZ, 120, .inl z))] [(hm, .inr (4, [.int 0, .int (nI a), .ref gB, .int (nI nw), .int (nI ol), .int (b2i O), .int lf, .int us, .int (nI tc), .ref gT, .ref gZ, .int bd])), (gB, .inl (cI, 5760, .inl f)), (gT, .inl (cI, 32, .inl t)), (gZ, .inl (cZ, 120, .inl z))] (fd (fun p => z p = 0 ∧ n < p) (a - 8) 8) := by
  refine ct_of (Qf := ct_Qi D vwCl [(hm, .inr (4, [.int 0, .int (nI a), .ref gB, .int (nI nw), .int (nI ol), .int (b2i O), .int lf, .int us, .int (nI tc), .ref gT, .ref gZ, .int bd])), (gB, .inl (cI, 5760, .inl f)), (gT, .inl (cI, 32, .inl t)), (gZ, .inl (cZ, 120, .inl z))] (fd (fun p => z p = 0 ∧ n < p) (a - 8) 8)) (cc := cX4_free) (maxL := 3) (ret := (some .int)) [(0, .ref hm), (1, .int (nI n))] (by decide) rfl (Nat.le_of_ble_eq_true rfl) rfl ?_
  intro p e s m below meth c hx hb hr hts hown hlocks hml hnm A hA hK hN hP hD hS ls hl
  have hown : s.vm.findClass RX4 = some m.cls := hown
  have hk0 := hts (.fieldLink RX4 27 "DesignPagesModel" "pages" "I") (by decide +kernel)
  have hk1 := hts (.fieldLink RX4 23 "DesignPagesModel" "reached" "[Z") (by decide +kernel)
  have hiX4 : ∀ w ∈ wsX40, w ∈ wsX4_free := by decide +kernel
  refine lv_bipush (v := 8) hx hb dX4_free_0 (by decide) ?_
  refine lv_istore_n (lv' := [(2, .int 8), (0, .ref hm), (1, .int (nI n))]) hx hb dX4_free_2 rfl hl (by decide) rfl (fun ls hl => ?_)
  have loop3 : ∀ (n3 : Nat) (i : Nat), i ≤ a → fd (fun p => z p = 0 ∧ n < p) (a - 8) 8 = fd (fun p => z p = 0 ∧ n < p) (a - i) i → a - i < n3 → ∀ (H : Heap) (locs : List Loc), va_P D vwCl [(hm, .inr (4, [.int 0, .int (nI a), .ref gB, .int (nI nw), .int (nI ol), .int (b2i O), .int lf, .int us, .int (nI tc), .ref gT, .ref gZ, .int bd])), (gB, .inl (cI, 5760, .inl f)), (gT, .inl (cI, 32, .inl t)), (gZ, .inl (cZ, 120, .inl z))] H → va_D A [(hm, .inr (4, [.int 0, .int (nI a), .ref gB, .int (nI nw), .int (nI ol), .int (b2i O), .int lf, .int us, .int (nI tc), .ref gT, .ref gZ, .int bd])), (gB, .inl (cI, 5760, .inl f)), (gT, .inl (cI, 32, .inl t)), (gZ, .inl (cZ, 120, .inl z))] → va_S A s.heap H locs → ∀ (ls : Array Slot), lv_has ls 3 [(2, .int (nI i)), (0, .ref hm), (1, .int (nI n))] → W p l e ({ frames := 0, cells := 0, slots := 0, locals := 0 }) s m ([.ref hm, .int (nI n)] : List Value).toArray below meth c H locs 0 0 (MQ below (ct_Qi D vwCl [(hm, .inr (4, [.int 0, .int (nI a), .ref gB, .int (nI nw), .int (nI ol), .int (b2i O), .int lf, .int us, .int (nI tc), .ref gT, .ref gZ, .int bd])), (gB, .inl (cI, 5760, .inl f)), (gT, .inl (cI, 32, .inl t)), (gZ, .inl (cZ, 120, .inl z))] (fd (fun p => z p = 0 ∧ n < p) (a - 8) 8) A) ([.ref hm, .int (nI n)] : List Value).toArray s 0 0 A) (F0 m 3 ls []) := by
    intro n3
    induction n3 with
    | zero =>
      intro i _ _ hm
      exact absurd hm (Nat.not_lt_zero _)
    | succ n3 ih3 =>
      intro i hi ex hm3 H locs hP hD hS ls hl
      refine lv_iload_n hx hb dX4_free_3 rfl (lv_at hl 0 rfl) ?_
      refine lv_aload_n hx hb dX4_free_4 rfl (lv_at hl 1 rfl) ?_
      refine va_get (D := D) (cl := vwCl) (ci := 4) (v := .int (nI a)) (C := RX4) (T := TX4) (N := 12) hx hb hts hiX4 hown hK hP 0 rfl rfl 1 (by decide) hk0 (fun _ h9 => h9) rfl dX4_free_5 ?_
      refine lv_icmp_ge (tgt := 33) hx hb dX4_free_8 (by decide) (fun c8 => ?_) (fun c8 => ?_)
      · skip
        have c8 : a ≤ i := (nI_leI (a := a) (b := i) (by omega) (by omega)).mp c8
        refine lv_iconst (v := (-1)) hx hb dX4_free_33 (by decide) ?_
        exact ct_iret hx hb hr hlocks (by rw [ex]; exact (fd_0' (by omega)).symm) (rfl) hP hD hS dX4_free_34
      · skip
        have c8 : ¬ a ≤ i := fun h => c8 ((nI_leI (a := a) (b := i) (by omega) (by omega)).mpr h)
        refine lv_aload_n hx hb dX4_free_11 rfl (lv_at hl 1 rfl) ?_
        refine va_get (D := D) (cl := vwCl) (ci := 4) (v := .ref gZ) (C := RX4) (T := TX4) (N := 12) hx hb hts hiX4 hown hK hP 0 rfl rfl 10 (by decide) hk1 (fun _ h9 => h9) rfl dX4_free_12 ?_
        refine lv_iload_n hx hb dX4_free_15 rfl (lv_at hl 0 rfl) ?_
        refine ct_zald hx hb hK hP 3 1 (k := i) rfl rfl (by omega) (by omega) dX4_free_16 ?_
        refine lv_if_ne (tgt := 27) hx hb dX4_free_17 (by decide) (fun c17 => ?_) (fun c17 => ?_)
        · skip
          refine lv_iinc (v := nI (i + 1)) (lv' := [(2, .int (nI (i + 1))), (0, .ref hm), (1, .int (nI n))]) hx hb dX4_free_27 hl (k := 0) rfl (nI_add i 1) (by decide) rfl (fun ls hl => ?_)
          refine lv_goto (tgt := 3) hx hb dX4_free_30 (by decide) ?_
          exact ih3 (i + 1) (by omega) (by rw [ex]; exact fd_n' (P := fun p => z p = 0 ∧ n < p) (fun h => c17 h.1) (by omega)) (by omega) _ _ hP hD hS ls (lv_sub hl [0, 1, 2] rfl)
        · skip
          refine lv_iload_n hx hb dX4_free_20 rfl (lv_at hl 0 rfl) ?_
          refine lv_iload_n hx hb dX4_free_21 rfl (lv_at hl 2 rfl) ?_
          refine lv_icmp_le (tgt := 27) hx hb dX4_free_22 (by decide) (fun c22 => ?_) (fun c22 => ?_)
          · skip
            have c22 : i ≤ n := (nI_leI (a := i) (b := n) (by omega) (by omega)).mp c22
            refine lv_iinc (v := nI (i + 1)) (lv' := [(2, .int (nI (i + 1))), (0, .ref hm), (1, .int (nI n))]) hx hb dX4_free_27 hl (k := 0) rfl (nI_add i 1) (by decide) rfl (fun ls hl => ?_)
            refine lv_goto (tgt := 3) hx hb dX4_free_30 (by decide) ?_
            exact ih3 (i + 1) (by omega) (by rw [ex]; exact fd_n' (P := fun p => z p = 0 ∧ n < p) (fun h => absurd h.2 (Nat.not_lt.mpr c22)) (by omega)) (by omega) _ _ hP hD hS ls (lv_sub hl [0, 1, 2] rfl)
          · skip
            have c22 : ¬ i ≤ n := fun h => c22 ((nI_leI (a := i) (b := n) (by omega) (by omega)).mpr h)
            refine lv_iload_n hx hb dX4_free_25 rfl (lv_at hl 0 rfl) ?_
            exact ct_iret hx hb hr hlocks (by rw [ex]; exact (fd_t' (P := fun p => z p = 0 ∧ n < p) ⟨c17, Nat.lt_of_not_le c22⟩ (by omega)).symm) (rfl) hP hD hS dX4_free_26
  exact loop3 _ 8 (by omega) (rfl) (Nat.lt_succ_self _) _ _ hP hD hS ls (lv_sub hl [0, 1, 2] rfl)
set_option maxHeartbeats 4000000 in
set_option maxRecDepth 100000 in
theorem c_X4_empty (l : Launch) (D : va_G) (cI cZ : ClassId) (hm gB gT gZ a tc nw ol : Nat) (f t z : Nat → Int32) (O : Prop) (lf us bd : Int32) (q : Nat) (k : Int32) (ha : a ≤ 120) (h12 : 12 ≤ a) (htc : tc ≤ 32) (hnw : nw ≤ 1000000) (hol : ol ≤ nw + 1) (h1 : q < a) (hk : k &&& 255 = k) : CtV l yX4_empty wsX4_empty ({ frames := 1, cells := 0, slots := 0, locals := 23 }) D vwCl (ct_T cI cZ) [.ref hm, .int (nI q), .int k] [(hm, .inr (4, [.int 0, .int (nI a), .ref gB, .int (nI nw), .int (nI ol), .int (b2i O), .int lf, .int us, .int (nI tc), .ref gT, .ref gZ, .int bd])), (gB, .inl (cI, 5760, .inl f)), (gT, .inl (cI, 32, .inl t)), (gZ, .inl (cZ, 120, .inl z))] [(hm, .inr (4, [.int 0, .int (nI a), .ref gB, .int (nI nw), .int (nI ol), .int (b2i O), .int lf, .int us, .int (nI tc), .ref gT, .ref gZ, .int bd])), (gB, .inl (cI, 5760, .inl (pg_begin f q k))), (gT, .inl (cI, 32, .inl t)), (gZ, .inl (cZ, 120, .inl z))] := by
  refine ct_of (Qf := ct_Qv D vwCl [(hm, .inr (4, [.int 0, .int (nI a), .ref gB, .int (nI nw), .int (nI ol), .int (b2i O), .int lf, .int us, .int (nI tc), .ref gT, .ref gZ, .int bd])), (gB, .inl (cI, 5760, .inl (pg_begin f q k))), (gT, .inl (cI, 32, .inl t)), (gZ, .inl (cZ, 120, .inl z))]) (cc := cX4_empty) (maxL := 4) (ret := none) [(0, .ref hm), (1, .int (nI q)), (2, .int k)] (by decide) rfl (Nat.le_of_ble_eq_true rfl) rfl ?_
  intro p e s m below meth c hx hb hr hts hown hlocks hml hnm A hA hK hN hP hD hS ls hl
  have hown : s.vm.findClass RX4 = some m.cls := hown
  refine lv_iconst (v := 0) hx hb dX4_empty_0 (by decide) ?_
  refine lv_istore_n (lv' := [(3, .int 0), (0, .ref hm), (1, .int (nI q)), (2, .int k)]) hx hb dX4_empty_1 rfl hl (by decide) rfl (fun ls hl => ?_)
  have loop2 : ∀ (n2 : Nat) (i : Nat) (g : Nat → Int32), i ≤ 48 → g = pg_fill f (q * 48) (q * 48 + i) 0 → 48 - i < n2 → ∀ (H : Heap) (locs : List Loc), va_P D vwCl [(hm, .inr (4, [.int 0, .int (nI a), .ref gB, .int (nI nw), .int (nI ol), .int (b2i O), .int lf, .int us, .int (nI tc), .ref gT, .ref gZ, .int bd])), (gB, .inl (cI, 5760, .inl g)), (gT, .inl (cI, 32, .inl t)), (gZ, .inl (cZ, 120, .inl z))] H → va_D A [(hm, .inr (4, [.int 0, .int (nI a), .ref gB, .int (nI nw), .int (nI ol), .int (b2i O), .int lf, .int us, .int (nI tc), .ref gT, .ref gZ, .int bd])), (gB, .inl (cI, 5760, .inl g)), (gT, .inl (cI, 32, .inl t)), (gZ, .inl (cZ, 120, .inl z))] → va_S A s.heap H locs → ∀ (ls : Array Slot), lv_has ls 4 [(3, .int (nI i)), (0, .ref hm), (1, .int (nI q)), (2, .int k)] → W p l e ({ frames := 1, cells := 0, slots := 0, locals := 23 }) s m ([.ref hm, .int (nI q), .int k] : List Value).toArray below meth c H locs 0 0 (MQ below (ct_Qv D vwCl [(hm, .inr (4, [.int 0, .int (nI a), .ref gB, .int (nI nw), .int (nI ol), .int (b2i O), .int lf, .int us, .int (nI tc), .ref gT, .ref gZ, .int bd])), (gB, .inl (cI, 5760, .inl (pg_begin f q k))), (gT, .inl (cI, 32, .inl t)), (gZ, .inl (cZ, 120, .inl z))] A) ([.ref hm, .int (nI q), .int k] : List Value).toArray s 0 0 A) (F0 m 2 ls []) := by
    intro n2
    induction n2 with
    | zero =>
      intro i g _ _ hm
      exact absurd hm (Nat.not_lt_zero _)
    | succ n2 ih2 =>
      intro i g hi ex hm2 H locs hP hD hS ls hl
      refine lv_iload_n hx hb dX4_empty_2 rfl (lv_at hl 0 rfl) ?_
      refine lv_bipush (v := 48) hx hb dX4_empty_3 (by decide) ?_
      refine lv_icmp_ge (tgt := 21) hx hb dX4_empty_5 (by decide) (fun c5 => ?_) (fun c5 => ?_)
      · skip
        have c5 : 48 ≤ i := (nI_leI (a := 48) (b := i) (by omega) (by omega)).mp c5
        refine lv_aload_n hx hb dX4_empty_21 rfl (lv_at hl 1 rfl) ?_
        refine lv_iload_n hx hb dX4_empty_22 rfl (lv_at hl 2 rfl) ?_
        refine lv_iconst (v := 0) hx hb dX4_empty_23 (by decide) ?_
        refine lv_iload_n hx hb dX4_empty_24 rfl (lv_at hl 3 rfl) ?_
        refine ct_callv (w := [(hm, .inr (4, [.int 0, .int (nI a), .ref gB, .int (nI nw), .int (nI ol), .int (b2i O), .int lf, .int us, .int (nI tc), .ref gT, .ref gZ, .int bd])), (gB, .inl (cI, 5760, .inl g)), (gT, .inl (cI, 32, .inl t)), (gZ, .inl (cZ, 120, .inl z))]) (w' := [(hm, .inr (4, [.int 0, .int (nI a), .ref gB, .int (nI nw), .int (nI ol), .int (b2i O), .int lf, .int us, .int (nI tc), .ref gT, .ref gZ, .int bd])), (gB, .inl (cI, 5760, .inl (upd g (q * 48 + 0) (k &&& 255)))), (gT, .inl (cI, 32, .inl t)), (gZ, .inl (cZ, 120, .inl z))]) (va_runV (As := [.int (nI q), .int 0, .int k]) (rest := []) ⟨hx, hb, hml, hown, hts⟩ (c_X4_lay l D cI cZ hm gB gT gZ a tc nw ol g t z O lf us bd q 0 k (by omega) (by omega) (by omega) (by omega) (by omega) (by omega) (by omega) _) (cwV 3 hts gX4_empty_X4_lay rfl rfl rfl (by decide +kernel) ⟨Nat.le_of_ble_eq_true rfl, Nat.le_of_ble_eq_true rfl⟩) (ct_preV (w := [(hm, .inr (4, [.int 0, .int (nI a), .ref gB, .int (nI nw), .int (nI ol), .int (b2i O), .int lf, .int us, .int (nI tc), .ref gT, .ref gZ, .int bd])), (gB, .inl (cI, 5760, .inl g)), (gT, .inl (cI, 32, .inl t)), (gZ, .inl (cZ, 120, .inl z))]) (ci := 4) (i0 := 0) hK hN hP hD [0, 1, 2, 3] (by decide) rfl rfl rfl) rfl rfl hl.1 rfl (lv_room (Nat.le_of_ble_eq_true rfl)) dX4_empty_25 ⟨Nat.le_of_ble_eq_true rfl, Nat.le_of_ble_eq_true rfl⟩) hP hD hS hA [0, 1, 2, 3] rfl [hm, gB, gT, gZ] rfl rfl (fun H locs hP hD hS => ?_)
        have hP : va_P D vwCl [(hm, .inr (4, [.int 0, .int (nI a), .ref gB, .int (nI nw), .int (nI ol), .int (b2i O), .int lf, .int us, .int (nI tc), .ref gT, .ref gZ, .int bd])), (gB, .inl (cI, 5760, .inl (upd g (q * 48 + 0) (k &&& 255)))), (gT, .inl (cI, 32, .inl t)), (gZ, .inl (cZ, 120, .inl z))] _ := hP
        have hD : va_D A [(hm, .inr (4, [.int 0, .int (nI a), .ref gB, .int (nI nw), .int (nI ol), .int (b2i O), .int lf, .int us, .int (nI tc), .ref gT, .ref gZ, .int bd])), (gB, .inl (cI, 5760, .inl (upd g (q * 48 + 0) (k &&& 255)))), (gT, .inl (cI, 32, .inl t)), (gZ, .inl (cZ, 120, .inl z))] := hD
        exact ct_vret hx hb hr hlocks (by rw [ex, show i = 48 by omega, hk]; rfl) hP hD hS dX4_empty_28
      · skip
        have c5 : ¬ 48 ≤ i := fun h => c5 ((nI_leI (a := 48) (b := i) (by omega) (by omega)).mpr h)
        refine lv_aload_n hx hb dX4_empty_8 rfl (lv_at hl 1 rfl) ?_
        refine lv_iload_n hx hb dX4_empty_9 rfl (lv_at hl 2 rfl) ?_
        refine lv_iload_n hx hb dX4_empty_10 rfl (lv_at hl 0 rfl) ?_
        refine lv_iconst (v := 0) hx hb dX4_empty_11 (by decide) ?_
        refine ct_callv (w := [(hm, .inr (4, [.int 0, .int (nI a), .ref gB, .int (nI nw), .int (nI ol), .int (b2i O), .int lf, .int us, .int (nI tc), .ref gT, .ref gZ, .int bd])), (gB, .inl (cI, 5760, .inl g)), (gT, .inl (cI, 32, .inl t)), (gZ, .inl (cZ, 120, .inl z))]) (w' := [(hm, .inr (4, [.int 0, .int (nI a), .ref gB, .int (nI nw), .int (nI ol), .int (b2i O), .int lf, .int us, .int (nI tc), .ref gT, .ref gZ, .int bd])), (gB, .inl (cI, 5760, .inl (upd g (q * 48 + i) (0 &&& 255)))), (gT, .inl (cI, 32, .inl t)), (gZ, .inl (cZ, 120, .inl z))]) (va_runV (As := [.int (nI q), .int (nI i), .int 0]) (rest := []) ⟨hx, hb, hml, hown, hts⟩ (c_X4_lay l D cI cZ hm gB gT gZ a tc nw ol g t z O lf us bd q i 0 (by omega) (by omega) (by omega) (by omega) (by omega) (by omega) (by omega) _) (cwV 3 hts gX4_empty_X4_lay rfl rfl rfl (by decide +kernel) ⟨Nat.le_of_ble_eq_true rfl, Nat.le_of_ble_eq_true rfl⟩) (ct_preV (w := [(hm, .inr (4, [.int 0, .int (nI a), .ref gB, .int (nI nw), .int (nI ol), .int (b2i O), .int lf, .int us, .int (nI tc), .ref gT, .ref gZ, .int bd])), (gB, .inl (cI, 5760, .inl g)), (gT, .inl (cI, 32, .inl t)), (gZ, .inl (cZ, 120, .inl z))]) (ci := 4) (i0 := 0) hK hN hP hD [0, 1, 2, 3] (by decide) rfl rfl rfl) rfl rfl hl.1 rfl (lv_room (Nat.le_of_ble_eq_true rfl)) dX4_empty_12 ⟨Nat.le_of_ble_eq_true rfl, Nat.le_of_ble_eq_true rfl⟩) hP hD hS hA [0, 1, 2, 3] rfl [hm, gB, gT, gZ] rfl rfl (fun H locs hP hD hS => ?_)
        have hP : va_P D vwCl [(hm, .inr (4, [.int 0, .int (nI a), .ref gB, .int (nI nw), .int (nI ol), .int (b2i O), .int lf, .int us, .int (nI tc), .ref gT, .ref gZ, .int bd])), (gB, .inl (cI, 5760, .inl (upd g (q * 48 + i) (0 &&& 255)))), (gT, .inl (cI, 32, .inl t)), (gZ, .inl (cZ, 120, .inl z))] _ := hP
        have hD : va_D A [(hm, .inr (4, [.int 0, .int (nI a), .ref gB, .int (nI nw), .int (nI ol), .int (b2i O), .int lf, .int us, .int (nI tc), .ref gT, .ref gZ, .int bd])), (gB, .inl (cI, 5760, .inl (upd g (q * 48 + i) (0 &&& 255)))), (gT, .inl (cI, 32, .inl t)), (gZ, .inl (cZ, 120, .inl z))] := hD
        refine lv_iinc (v := nI (i + 1)) (lv' := [(3, .int (nI (i + 1))), (0, .ref hm), (1, .int (nI q)), (2, .int k)]) hx hb dX4_empty_15 hl (k := 0) rfl (nI_add i 1) (by decide) rfl (fun ls hl => ?_)
        refine lv_goto (tgt := 2) hx hb dX4_empty_18 (by decide) ?_
        exact ih2 (i + 1) (upd g (q * 48 + i) (0 &&& 255)) (by omega) (by rw [ex, show ((0 : Int32) &&& 255) = 0 from by decide]; exact pg_fill_s f 0 (Nat.le_add_right _ _)) (by omega) _ _ hP hD hS ls (lv_sub hl [0, 1, 2, 3] rfl)
  exact loop2 _ 0 f (by omega) (pg_fill_0 f (q * 48) 0) (Nat.lt_succ_self _) _ _ hP hD hS ls (lv_sub hl [0, 1, 2, 3] rfl)
set_option maxHeartbeats 4000000 in
set_option maxRecDepth 100000 in
theorem c_X4_copy (l : Launch) (D : va_G) (cI cZ : ClassId) (hm gB gT gZ a tc nw ol : Nat) (f t z : Nat → Int32) (O : Prop) (lf us bd : Int32) (q r : Nat) (ha : a ≤ 120) (h12 : 12 ≤ a) (htc : tc ≤ 32) (hnw : nw ≤ 1000000) (hol : ol ≤ nw + 1) (h1 : q < a) (h2 : r < a) (hqr : q ≠ r) (hby : ∀ j, j < 48 → f (q * 48 + j) &&& 255 = f (q * 48 + j)) : CtV l yX4_copy wsX4_copy ({ frames := 1, cells := 0, slots := 0, locals := 23 }) D vwCl (ct_T cI cZ) [.ref hm, .int (nI q), .int (nI r)] [(hm, .inr (4, [.int 0, .int (nI a), .ref gB, .int (nI nw), .int (nI ol), .int (b2i O), .int lf, .int us, .int (nI tc), .ref gT, .ref gZ, .int bd])), (gB, .inl (cI, 5760, .inl f)), (gT, .inl (cI, 32, .inl t)), (gZ, .inl (cZ, 120, .inl z))] [(hm, .inr (4, [.int 0, .int (nI a), .ref gB, .int (nI nw), .int (nI ol), .int (b2i O), .int lf, .int us, .int (nI tc), .ref gT, .ref gZ, .int bd])), (gB, .inl (cI, 5760, .inl (va_cpy f f (q * 48) (r * 48) 48))), (gT, .inl (cI, 32, .inl t)), (gZ, .inl (cZ, 120, .inl z))] := by
  refine ct_of (Qf := ct_Qv D vwCl [(hm, .inr (4, [.int 0, .int (nI a), .ref gB, .int (nI nw), .int (nI ol), .int (b2i O), .int lf, .int us, .int (nI tc), .ref gT, .ref gZ, .int bd])), (gB, .inl (cI, 5760, .inl (va_cpy f f (q * 48) (r * 48) 48))), (gT, .inl (cI, 32, .inl t)), (gZ, .inl (cZ, 120, .inl z))]) (cc := cX4_copy) (maxL := 4) (ret := none) [(0, .ref hm), (1, .int (nI q)), (2, .int (nI r))] (by decide) rfl (Nat.le_of_ble_eq_true rfl) rfl ?_
  intro p e s m below meth c hx hb hr hts hown hlocks hml hnm A hA hK hN hP hD hS ls hl
  have hown : s.vm.findClass RX4 = some m.cls := hown
  refine lv_iconst (v := 0) hx hb dX4_copy_0 (by decide) ?_
  refine lv_istore_n (lv' := [(3, .int 0), (0, .ref hm), (1, .int (nI q)), (2, .int (nI r))]) hx hb dX4_copy_1 rfl hl (by decide) rfl (fun ls hl => ?_)
  have loop2 : ∀ (n2 : Nat) (i : Nat) (g : Nat → Int32), i ≤ 48 → g = va_cpy f f (q * 48) (r * 48) i → 48 - i < n2 → ∀ (H : Heap) (locs : List Loc), va_P D vwCl [(hm, .inr (4, [.int 0, .int (nI a), .ref gB, .int (nI nw), .int (nI ol), .int (b2i O), .int lf, .int us, .int (nI tc), .ref gT, .ref gZ, .int bd])), (gB, .inl (cI, 5760, .inl g)), (gT, .inl (cI, 32, .inl t)), (gZ, .inl (cZ, 120, .inl z))] H → va_D A [(hm, .inr (4, [.int 0, .int (nI a), .ref gB, .int (nI nw), .int (nI ol), .int (b2i O), .int lf, .int us, .int (nI tc), .ref gT, .ref gZ, .int bd])), (gB, .inl (cI, 5760, .inl g)), (gT, .inl (cI, 32, .inl t)), (gZ, .inl (cZ, 120, .inl z))] → va_S A s.heap H locs → ∀ (ls : Array Slot), lv_has ls 4 [(3, .int (nI i)), (0, .ref hm), (1, .int (nI q)), (2, .int (nI r))] → W p l e ({ frames := 1, cells := 0, slots := 0, locals := 23 }) s m ([.ref hm, .int (nI q), .int (nI r)] : List Value).toArray below meth c H locs 0 0 (MQ below (ct_Qv D vwCl [(hm, .inr (4, [.int 0, .int (nI a), .ref gB, .int (nI nw), .int (nI ol), .int (b2i O), .int lf, .int us, .int (nI tc), .ref gT, .ref gZ, .int bd])), (gB, .inl (cI, 5760, .inl (va_cpy f f (q * 48) (r * 48) 48))), (gT, .inl (cI, 32, .inl t)), (gZ, .inl (cZ, 120, .inl z))] A) ([.ref hm, .int (nI q), .int (nI r)] : List Value).toArray s 0 0 A) (F0 m 2 ls []) := by
    intro n2
    induction n2 with
    | zero =>
      intro i g _ _ hm
      exact absurd hm (Nat.not_lt_zero _)
    | succ n2 ih2 =>
      intro i g hi ex hm2 H locs hP hD hS ls hl
      refine lv_iload_n hx hb dX4_copy_2 rfl (lv_at hl 0 rfl) ?_
      refine lv_bipush (v := 48) hx hb dX4_copy_3 (by decide) ?_
      refine lv_icmp_ge (tgt := 26) hx hb dX4_copy_5 (by decide) (fun c5 => ?_) (fun c5 => ?_)
      · skip
        have c5 : 48 ≤ i := (nI_leI (a := 48) (b := i) (by omega) (by omega)).mp c5
        exact ct_vret hx hb hr hlocks (by rw [ex, show i = 48 by omega]) hP hD hS dX4_copy_26
      · skip
        have c5 : ¬ 48 ≤ i := fun h => c5 ((nI_leI (a := 48) (b := i) (by omega) (by omega)).mpr h)
        refine lv_aload_n hx hb dX4_copy_8 rfl (lv_at hl 1 rfl) ?_
        refine lv_iload_n hx hb dX4_copy_9 rfl (lv_at hl 3 rfl) ?_
        refine lv_iload_n hx hb dX4_copy_10 rfl (lv_at hl 0 rfl) ?_
        refine lv_aload_n hx hb dX4_copy_11 rfl (lv_at hl 1 rfl) ?_
        refine lv_iload_n hx hb dX4_copy_12 rfl (lv_at hl 2 rfl) ?_
        refine lv_iload_n hx hb dX4_copy_13 rfl (lv_at hl 0 rfl) ?_
        refine ct_calli (w := [(hm, .inr (4, [.int 0, .int (nI a), .ref gB, .int (nI nw), .int (nI ol), .int (b2i O), .int lf, .int us, .int (nI tc), .ref gT, .ref gZ, .int bd])), (gB, .inl (cI, 5760, .inl g)), (gT, .inl (cI, 32, .inl t)), (gZ, .inl (cZ, 120, .inl z))]) (w' := [(hm, .inr (4, [.int 0, .int (nI a), .ref gB, .int (nI nw), .int (nI ol), .int (b2i O), .int lf, .int us, .int (nI tc), .ref gT, .ref gZ, .int bd])), (gB, .inl (cI, 5760, .inl g)), (gT, .inl (cI, 32, .inl t)), (gZ, .inl (cZ, 120, .inl z))]) (va_runV (As := [.int (nI q), .int (nI i)]) (rest := [.int (nI i), .int (nI r), .ref hm]) ⟨hx, hb, hml, hown, hts⟩ (c_X4_at l D cI cZ hm gB gT gZ a tc nw ol g t z O lf us bd q i (by omega) (by omega) (by omega) (by omega) (by omega) (by omega) (by omega) _) (cwV 2 hts gX4_copy_X4_at rfl rfl rfl (by decide +kernel) ⟨Nat.le_of_ble_eq_true rfl, Nat.le_of_ble_eq_true rfl⟩) (ct_preV (w := [(hm, .inr (4, [.int 0, .int (nI a), .ref gB, .int (nI nw), .int (nI ol), .int (b2i O), .int lf, .int us, .int (nI tc), .ref gT, .ref gZ, .int bd])), (gB, .inl (cI, 5760, .inl g)), (gT, .inl (cI, 32, .inl t)), (gZ, .inl (cZ, 120, .inl z))]) (ci := 4) (i0 := 0) hK hN hP hD [0, 1, 2, 3] (by decide) rfl rfl rfl) rfl rfl hl.1 rfl (lv_room (Nat.le_of_ble_eq_true rfl)) dX4_copy_14 ⟨Nat.le_of_ble_eq_true rfl, Nat.le_of_ble_eq_true rfl⟩) hP hD hS hA [0, 1, 2, 3] rfl [hm, gB, gT, gZ] rfl rfl (fun H locs hP hD hS => ?_)
        have hP : va_P D vwCl [(hm, .inr (4, [.int 0, .int (nI a), .ref gB, .int (nI nw), .int (nI ol), .int (b2i O), .int lf, .int us, .int (nI tc), .ref gT, .ref gZ, .int bd])), (gB, .inl (cI, 5760, .inl g)), (gT, .inl (cI, 32, .inl t)), (gZ, .inl (cZ, 120, .inl z))] _ := hP
        have hD : va_D A [(hm, .inr (4, [.int 0, .int (nI a), .ref gB, .int (nI nw), .int (nI ol), .int (b2i O), .int lf, .int us, .int (nI tc), .ref gT, .ref gZ, .int bd])), (gB, .inl (cI, 5760, .inl g)), (gT, .inl (cI, 32, .inl t)), (gZ, .inl (cZ, 120, .inl z))] := hD
        refine ct_callv (w := [(hm, .inr (4, [.int 0, .int (nI a), .ref gB, .int (nI nw), .int (nI ol), .int (b2i O), .int lf, .int us, .int (nI tc), .ref gT, .ref gZ, .int bd])), (gB, .inl (cI, 5760, .inl g)), (gT, .inl (cI, 32, .inl t)), (gZ, .inl (cZ, 120, .inl z))]) (w' := [(hm, .inr (4, [.int 0, .int (nI a), .ref gB, .int (nI nw), .int (nI ol), .int (b2i O), .int lf, .int us, .int (nI tc), .ref gT, .ref gZ, .int bd])), (gB, .inl (cI, 5760, .inl (upd g (r * 48 + i) ((g (q * 48 + i)) &&& 255)))), (gT, .inl (cI, 32, .inl t)), (gZ, .inl (cZ, 120, .inl z))]) (va_runV (As := [.int (nI r), .int (nI i), .int (g (q * 48 + i))]) (rest := []) ⟨hx, hb, hml, hown, hts⟩ (c_X4_lay l D cI cZ hm gB gT gZ a tc nw ol g t z O lf us bd r i (g (q * 48 + i)) (by omega) (by omega) (by omega) (by omega) (by omega) (by omega) (by omega) _) (cwV 3 hts gX4_copy_X4_lay rfl rfl rfl (by decide +kernel) ⟨Nat.le_of_ble_eq_true rfl, Nat.le_of_ble_eq_true rfl⟩) (ct_preV (w := [(hm, .inr (4, [.int 0, .int (nI a), .ref gB, .int (nI nw), .int (nI ol), .int (b2i O), .int lf, .int us, .int (nI tc), .ref gT, .ref gZ, .int bd])), (gB, .inl (cI, 5760, .inl g)), (gT, .inl (cI, 32, .inl t)), (gZ, .inl (cZ, 120, .inl z))]) (ci := 4) (i0 := 0) hK hN hP hD [0, 1, 2, 3] (by decide) rfl rfl rfl) rfl rfl hl.1 rfl (lv_room (Nat.le_of_ble_eq_true rfl)) dX4_copy_17 ⟨Nat.le_of_ble_eq_true rfl, Nat.le_of_ble_eq_true rfl⟩) hP hD hS hA [0, 1, 2, 3] rfl [hm, gB, gT, gZ] rfl rfl (fun H locs hP hD hS => ?_)
        have hP : va_P D vwCl [(hm, .inr (4, [.int 0, .int (nI a), .ref gB, .int (nI nw), .int (nI ol), .int (b2i O), .int lf, .int us, .int (nI tc), .ref gT, .ref gZ, .int bd])), (gB, .inl (cI, 5760, .inl (upd g (r * 48 + i) ((g (q * 48 + i)) &&& 255)))), (gT, .inl (cI, 32, .inl t)), (gZ, .inl (cZ, 120, .inl z))] _ := hP
        have hD : va_D A [(hm, .inr (4, [.int 0, .int (nI a), .ref gB, .int (nI nw), .int (nI ol), .int (b2i O), .int lf, .int us, .int (nI tc), .ref gT, .ref gZ, .int bd])), (gB, .inl (cI, 5760, .inl (upd g (r * 48 + i) ((g (q * 48 + i)) &&& 255)))), (gT, .inl (cI, 32, .inl t)), (gZ, .inl (cZ, 120, .inl z))] := hD
        refine lv_iinc (v := nI (i + 1)) (lv' := [(3, .int (nI (i + 1))), (0, .ref hm), (1, .int (nI q)), (2, .int (nI r))]) hx hb dX4_copy_20 hl (k := 0) rfl (nI_add i 1) (by decide) rfl (fun ls hl => ?_)
        refine lv_goto (tgt := 2) hx hb dX4_copy_23 (by decide) ?_
        exact ih2 (i + 1) (upd g (r * 48 + i) ((g (q * 48 + i)) &&& 255)) (by omega) (by rw [ex, cpy_o (by omega), hby i (by omega)]; exact cpy_s f (q * 48) (r * 48) i) (by omega) _ _ hP hD hS ls (lv_sub hl [0, 1, 2, 3] rfl)
  exact loop2 _ 0 f (by omega) (cpy_0 f _ _) (Nat.lt_succ_self _) _ _ hP hD hS ls (lv_sub hl [0, 1, 2, 3] rfl)
set_option maxHeartbeats 4000000 in
set_option maxRecDepth 100000 in
theorem c_X4_fail (l : Launch) (D : va_G) (cI cZ : ClassId) (hm gB gT gZ a tc nw ol : Nat) (f t z : Nat → Int32) (O : Prop) (lf us bd : Int32) (ha : a ≤ 120) (h12 : 12 ≤ a) (htc : tc ≤ 32) (hnw : nw ≤ 1000000) (hol : ol ≤ nw + 1) : CtV l yX4_fail wsX4_fail ({ frames := 0, cells := 0, slots := 0, locals := 0 }) D vwCl (ct_T cI cZ) [.ref hm] [(hm, .inr (4, [.int 0, .int (nI a), .ref gB, .int (nI nw), .int (nI ol), .int (b2i O), .int lf, .int us, .int (nI tc), .ref gT, .ref gZ, .int bd])), (gB, .inl (cI, 5760, .inl f)), (gT, .inl (cI, 32, .inl t)), (gZ, .inl (cZ, 120, .inl z))] [(hm, .inr (4, [.int 0, .int (nI a), .ref gB, .int (nI nw), .int (nI ol), .int (b2i True), .int (-1), .int us, .int (nI 0), .ref gT, .ref gZ, .int bd])), (gB, .inl (cI, 5760, .inl f)), (gT, .inl (cI, 32, .inl t)), (gZ, .inl (cZ, 120, .inl z))] := by
  refine ct_of (Qf := ct_Qv D vwCl [(hm, .inr (4, [.int 0, .int (nI a), .ref gB, .int (nI nw), .int (nI ol), .int (b2i True), .int (-1), .int us, .int (nI 0), .ref gT, .ref gZ, .int bd])), (gB, .inl (cI, 5760, .inl f)), (gT, .inl (cI, 32, .inl t)), (gZ, .inl (cZ, 120, .inl z))]) (cc := cX4_fail) (maxL := 1) (ret := none) [(0, .ref hm)] (by decide) rfl (Nat.le_of_ble_eq_true rfl) rfl ?_
  intro p e s m below meth c hx hb hr hts hown hlocks hml hnm A hA hK hN hP hD hS ls hl
  have hown : s.vm.findClass RX4 = some m.cls := hown
  have hk0 := hts (.fieldLink RX4 83 "DesignPagesModel" "down" "Z") (by decide +kernel)
  have hk1 := hts (.fieldLink RX4 17 "DesignPagesModel" "left" "I") (by decide +kernel)
  have hk2 := hts (.fieldLink RX4 87 "DesignPagesModel" "typed" "I") (by decide +kernel)
  have hiX4 : ∀ w ∈ wsX40, w ∈ wsX4_fail := by decide +kernel
  refine lv_aload_n hx hb dX4_fail_0 rfl (lv_at hl 0 rfl) ?_
  refine lv_iconst (v := 1) hx hb dX4_fail_1 (by decide) ?_
  refine va_put (D := D) (cl := vwCl) (ci := 4) (v := .int 1) (ty := .boolean) (C := RX4) (T := TX4) (N := 12) hx hb hts hiX4 tyX4 tyX4_ok nmX4 hown hK hP hD hS 0 rfl rfl 5 (by decide) hk0 (fun _ h9 => h9) rfl (by decide +kernel) rfl rfl (Nat.le_of_ble_eq_true rfl) dX4_fail_2 (fun H locs hP hD hS => ?_)
  have hP : va_P D vwCl [(hm, .inr (4, [.int 0, .int (nI a), .ref gB, .int (nI nw), .int (nI ol), .int 1, .int lf, .int us, .int (nI tc), .ref gT, .ref gZ, .int bd])), (gB, .inl (cI, 5760, .inl f)), (gT, .inl (cI, 32, .inl t)), (gZ, .inl (cZ, 120, .inl z))] _ := hP
  have hD : va_D A [(hm, .inr (4, [.int 0, .int (nI a), .ref gB, .int (nI nw), .int (nI ol), .int 1, .int lf, .int us, .int (nI tc), .ref gT, .ref gZ, .int bd])), (gB, .inl (cI, 5760, .inl f)), (gT, .inl (cI, 32, .inl t)), (gZ, .inl (cZ, 120, .inl z))] := hD
  refine lv_aload_n hx hb dX4_fail_5 rfl (lv_at hl 0 rfl) ?_
  refine lv_iconst (v := (-1)) hx hb dX4_fail_6 (by decide) ?_
  refine va_put (D := D) (cl := vwCl) (ci := 4) (v := .int (-1)) (ty := .int) (C := RX4) (T := TX4) (N := 12) hx hb hts hiX4 tyX4 tyX4_ok nmX4 hown hK hP hD hS 0 rfl rfl 6 (by decide) hk1 (fun _ h9 => h9) rfl (by decide +kernel) rfl rfl (Nat.le_of_ble_eq_true rfl) dX4_fail_7 (fun H locs hP hD hS => ?_)
  have hP : va_P D vwCl [(hm, .inr (4, [.int 0, .int (nI a), .ref gB, .int (nI nw), .int (nI ol), .int 1, .int (-1), .int us, .int (nI tc), .ref gT, .ref gZ, .int bd])), (gB, .inl (cI, 5760, .inl f)), (gT, .inl (cI, 32, .inl t)), (gZ, .inl (cZ, 120, .inl z))] _ := hP
  have hD : va_D A [(hm, .inr (4, [.int 0, .int (nI a), .ref gB, .int (nI nw), .int (nI ol), .int 1, .int (-1), .int us, .int (nI tc), .ref gT, .ref gZ, .int bd])), (gB, .inl (cI, 5760, .inl f)), (gT, .inl (cI, 32, .inl t)), (gZ, .inl (cZ, 120, .inl z))] := hD
  refine lv_aload_n hx hb dX4_fail_10 rfl (lv_at hl 0 rfl) ?_
  refine lv_iconst (v := 0) hx hb dX4_fail_11 (by decide) ?_
  refine va_put (D := D) (cl := vwCl) (ci := 4) (v := .int 0) (ty := .int) (C := RX4) (T := TX4) (N := 12) hx hb hts hiX4 tyX4 tyX4_ok nmX4 hown hK hP hD hS 0 rfl rfl 8 (by decide) hk2 (fun _ h9 => h9) rfl (by decide +kernel) rfl rfl (Nat.le_of_ble_eq_true rfl) dX4_fail_12 (fun H locs hP hD hS => ?_)
  have hP : va_P D vwCl [(hm, .inr (4, [.int 0, .int (nI a), .ref gB, .int (nI nw), .int (nI ol), .int 1, .int (-1), .int us, .int 0, .ref gT, .ref gZ, .int bd])), (gB, .inl (cI, 5760, .inl f)), (gT, .inl (cI, 32, .inl t)), (gZ, .inl (cZ, 120, .inl z))] _ := hP
  have hD : va_D A [(hm, .inr (4, [.int 0, .int (nI a), .ref gB, .int (nI nw), .int (nI ol), .int 1, .int (-1), .int us, .int 0, .ref gT, .ref gZ, .int bd])), (gB, .inl (cI, 5760, .inl f)), (gT, .inl (cI, 32, .inl t)), (gZ, .inl (cZ, 120, .inl z))] := hD
  exact ct_vret hx hb hr hlocks (by rw [b2i_t trivial]; rfl) hP hD hS dX4_fail_15
set_option maxHeartbeats 4000000 in
set_option maxRecDepth 100000 in
theorem c_X4_done (l : Launch) (D : va_G) (cI cZ : ClassId) (hm gB gT gZ a tc nw ol : Nat) (f t z : Nat → Int32) (O : Prop) (lf us bd : Int32) (q : Nat) (ha : a ≤ 120) (h12 : 12 ≤ a) (htc : tc ≤ 32) (hnw : nw ≤ 1000000) (hol : ol ≤ nw + 1) (h1 : q < a) : CtI l yX4_done wsX4_done ({ frames := 2, cells := 0, slots := 0, locals := 47 }) D vwCl (ct_T cI cZ) [.ref hm, .int (nI q)] [(hm, .inr (4, [.int 0, .int (nI a), .ref gB, .int (nI nw), .int (nI ol), .int (b2i O), .int lf, .int us, .int (nI tc), .ref gT, .ref gZ, .int bd])), (gB, .inl (cI, 5760, .inl f)), (gT, .inl (cI, 32, .inl t)), (gZ, .inl (cZ, 120, .inl z))] [(hm, .inr (4, [.int 0, .int (nI a), .ref gB, .int (nI nw), .int (nI ol), .int (b2i (dn_O O lf)), .int (dn_lf lf), .int (us + 1), .int (nI (dn_tc lf tc)), .ref gT, .ref gZ, .int bd])), (gB, .inl (cI, 5760, .inl (pg_seal f q))), (gT, .inl (cI, 32, .inl t)), (gZ, .inl (cZ, 120, .inl z))] (b2i (¬ dn_O O lf)) := by
  refine ct_of (Qf := ct_Qi D vwCl [(hm, .inr (4, [.int 0, .int (nI a), .ref gB, .int (nI nw), .int (nI ol), .int (b2i (dn_O O lf)), .int (dn_lf lf), .int (us + 1), .int (nI (dn_tc lf tc)), .ref gT, .ref gZ, .int bd])), (gB, .inl (cI, 5760, .inl (pg_seal f q))), (gT, .inl (cI, 32, .inl t)), (gZ, .inl (cZ, 120, .inl z))] (b2i (¬ dn_O O lf))) (cc := cX4_done) (maxL := 2) (ret := (some .boolean)) [(0, .ref hm), (1, .int (nI q))] (by decide) rfl (Nat.le_of_ble_eq_true rfl) rfl ?_
  intro p e s m below meth c hx hb hr hts hown hlocks hml hnm A hA hK hN hP hD hS ls hl
  have hown : s.vm.findClass RX4 = some m.cls := hown
  have hk0 := hts (.fieldLink RX4 77 "DesignPagesModel" "written" "I") (by decide +kernel)
  have hk1 := hts (.fieldLink RX4 17 "DesignPagesModel" "left" "I") (by decide +kernel)
  have hk2 := hts (.fieldLink RX4 83 "DesignPagesModel" "down" "Z") (by decide +kernel)
  have hiX4 : ∀ w ∈ wsX40, w ∈ wsX4_done := by decide +kernel
  refine lv_aload_n hx hb dX4_done_0 rfl (lv_at hl 0 rfl) ?_
  refine lv_iload_n hx hb dX4_done_1 rfl (lv_at hl 1 rfl) ?_
  refine lv_bipush (v := 44) hx hb dX4_done_2 (by decide) ?_
  refine lv_aload_n hx hb dX4_done_4 rfl (lv_at hl 0 rfl) ?_
  refine lv_iload_n hx hb dX4_done_5 rfl (lv_at hl 1 rfl) ?_
  refine ct_calli (w := [(hm, .inr (4, [.int 0, .int (nI a), .ref gB, .int (nI nw), .int (nI ol), .int (b2i O), .int lf, .int us, .int (nI tc), .ref gT, .ref gZ, .int bd])), (gB, .inl (cI, 5760, .inl f)), (gT, .inl (cI, 32, .inl t)), (gZ, .inl (cZ, 120, .inl z))]) (w' := [(hm, .inr (4, [.int 0, .int (nI a), .ref gB, .int (nI nw), .int (nI ol), .int (b2i O), .int lf, .int us, .int (nI tc), .ref gT, .ref gZ, .int bd])), (gB, .inl (cI, 5760, .inl f)), (gT, .inl (cI, 32, .inl t)), (gZ, .inl (cZ, 120, .inl z))]) (va_runV (As := [.int (nI q)]) (rest := [.int 44, .int (nI q), .ref hm]) ⟨hx, hb, hml, hown, hts⟩ (c_X4_sum l D cI cZ hm gB gT gZ a tc nw ol f t z O lf us bd q (by omega) (by omega) (by omega) (by omega) (by omega) (by omega) _) (cwV 1 hts gX4_done_X4_sum rfl rfl rfl (by decide +kernel) ⟨Nat.le_of_ble_eq_true rfl, Nat.le_of_ble_eq_true rfl⟩) (ct_preV (w := [(hm, .inr (4, [.int 0, .int (nI a), .ref gB, .int (nI nw), .int (nI ol), .int (b2i O), .int lf, .int us, .int (nI tc), .ref gT, .ref gZ, .int bd])), (gB, .inl (cI, 5760, .inl f)), (gT, .inl (cI, 32, .inl t)), (gZ, .inl (cZ, 120, .inl z))]) (ci := 4) (i0 := 0) hK hN hP hD [0, 1, 2, 3] (by decide) rfl rfl rfl) rfl rfl hl.1 rfl (lv_room (Nat.le_of_ble_eq_true rfl)) dX4_done_6 ⟨Nat.le_of_ble_eq_true rfl, Nat.le_of_ble_eq_true rfl⟩) hP hD hS hA [0, 1, 2, 3] rfl [hm, gB, gT, gZ] rfl rfl (fun H locs hP hD hS => ?_)
  have hP : va_P D vwCl [(hm, .inr (4, [.int 0, .int (nI a), .ref gB, .int (nI nw), .int (nI ol), .int (b2i O), .int lf, .int us, .int (nI tc), .ref gT, .ref gZ, .int bd])), (gB, .inl (cI, 5760, .inl f)), (gT, .inl (cI, 32, .inl t)), (gZ, .inl (cZ, 120, .inl z))] _ := hP
  have hD : va_D A [(hm, .inr (4, [.int 0, .int (nI a), .ref gB, .int (nI nw), .int (nI ol), .int (b2i O), .int lf, .int us, .int (nI tc), .ref gT, .ref gZ, .int bd])), (gB, .inl (cI, 5760, .inl f)), (gT, .inl (cI, 32, .inl t)), (gZ, .inl (cZ, 120, .inl z))] := hD
  refine ct_callv (w := [(hm, .inr (4, [.int 0, .int (nI a), .ref gB, .int (nI nw), .int (nI ol), .int (b2i O), .int lf, .int us, .int (nI tc), .ref gT, .ref gZ, .int bd])), (gB, .inl (cI, 5760, .inl f)), (gT, .inl (cI, 32, .inl t)), (gZ, .inl (cZ, 120, .inl z))]) (w' := [(hm, .inr (4, [.int 0, .int (nI a), .ref gB, .int (nI nw), .int (nI ol), .int (b2i O), .int lf, .int us, .int (nI tc), .ref gT, .ref gZ, .int bd])), (gB, .inl (cI, 5760, .inl (pg_setn f (q * 48 + 44) (pg_sum f (q * 48) 44)))), (gT, .inl (cI, 32, .inl t)), (gZ, .inl (cZ, 120, .inl z))]) (va_runV (As := [.int (nI q), .int 44, .int (pg_sum f (q * 48) 44)]) (rest := []) ⟨hx, hb, hml, hown, hts⟩ (c_X4_putNumber l D cI cZ hm gB gT gZ a tc nw ol f t z O lf us bd q 44 (pg_sum f (q * 48) 44) (by omega) (by omega) (by omega) (by omega) (by omega) (by omega) (by omega) _) (cwV 3 hts gX4_done_X4_putNumber rfl rfl rfl (by decide +kernel) ⟨Nat.le_of_ble_eq_true rfl, Nat.le_of_ble_eq_true rfl⟩) (ct_preV (w := [(hm, .inr (4, [.int 0, .int (nI a), .ref gB, .int (nI nw), .int (nI ol), .int (b2i O), .int lf, .int us, .int (nI tc), .ref gT, .ref gZ, .int bd])), (gB, .inl (cI, 5760, .inl f)), (gT, .inl (cI, 32, .inl t)), (gZ, .inl (cZ, 120, .inl z))]) (ci := 4) (i0 := 0) hK hN hP hD [0, 1, 2, 3] (by decide) rfl rfl rfl) rfl rfl hl.1 rfl (lv_room (Nat.le_of_ble_eq_true rfl)) dX4_done_9 ⟨Nat.le_of_ble_eq_true rfl, Nat.le_of_ble_eq_true rfl⟩) hP hD hS hA [0, 1, 2, 3] rfl [hm, gB, gT, gZ] rfl rfl (fun H locs hP hD hS => ?_)
  have hP : va_P D vwCl [(hm, .inr (4, [.int 0, .int (nI a), .ref gB, .int (nI nw), .int (nI ol), .int (b2i O), .int lf, .int us, .int (nI tc), .ref gT, .ref gZ, .int bd])), (gB, .inl (cI, 5760, .inl (pg_setn f (q * 48 + 44) (pg_sum f (q * 48) 44)))), (gT, .inl (cI, 32, .inl t)), (gZ, .inl (cZ, 120, .inl z))] _ := hP
  have hD : va_D A [(hm, .inr (4, [.int 0, .int (nI a), .ref gB, .int (nI nw), .int (nI ol), .int (b2i O), .int lf, .int us, .int (nI tc), .ref gT, .ref gZ, .int bd])), (gB, .inl (cI, 5760, .inl (pg_setn f (q * 48 + 44) (pg_sum f (q * 48) 44)))), (gT, .inl (cI, 32, .inl t)), (gZ, .inl (cZ, 120, .inl z))] := hD
  refine lv_aload_n hx hb dX4_done_12 rfl (lv_at hl 0 rfl) ?_
  refine lv_dup hx hb dX4_done_13 rfl ?_
  refine va_get (D := D) (cl := vwCl) (ci := 4) (v := .int us) (C := RX4) (T := TX4) (N := 12) hx hb hts hiX4 hown hK hP 0 rfl rfl 7 (by decide) hk0 (fun _ h9 => h9) rfl dX4_done_14 ?_
  refine lv_iconst (v := 1) hx hb dX4_done_17 (by decide) ?_
  refine lv_iadd hx hb dX4_done_18 ?_
  refine va_put (D := D) (cl := vwCl) (ci := 4) (v := .int (us + 1)) (ty := .int) (C := RX4) (T := TX4) (N := 12) hx hb hts hiX4 tyX4 tyX4_ok nmX4 hown hK hP hD hS 0 rfl rfl 7 (by decide) hk0 (fun _ h9 => h9) rfl (by decide +kernel) rfl rfl (Nat.le_of_ble_eq_true rfl) dX4_done_19 (fun H locs hP hD hS => ?_)
  have hP : va_P D vwCl [(hm, .inr (4, [.int 0, .int (nI a), .ref gB, .int (nI nw), .int (nI ol), .int (b2i O), .int lf, .int (us + 1), .int (nI tc), .ref gT, .ref gZ, .int bd])), (gB, .inl (cI, 5760, .inl (pg_setn f (q * 48 + 44) (pg_sum f (q * 48) 44)))), (gT, .inl (cI, 32, .inl t)), (gZ, .inl (cZ, 120, .inl z))] _ := hP
  have hD : va_D A [(hm, .inr (4, [.int 0, .int (nI a), .ref gB, .int (nI nw), .int (nI ol), .int (b2i O), .int lf, .int (us + 1), .int (nI tc), .ref gT, .ref gZ, .int bd])), (gB, .inl (cI, 5760, .inl (pg_setn f (q * 48 + 44) (pg_sum f (q * 48) 44)))), (gT, .inl (cI, 32, .inl t)), (gZ, .inl (cZ, 120, .inl z))] := hD
  refine lv_aload_n hx hb dX4_done_22 rfl (lv_at hl 0 rfl) ?_
  refine lv_aload_n hx hb dX4_done_23 rfl (lv_at hl 0 rfl) ?_
  refine va_get (D := D) (cl := vwCl) (ci := 4) (v := .int lf) (C := RX4) (T := TX4) (N := 12) hx hb hts hiX4 hown hK hP 0 rfl rfl 6 (by decide) hk1 (fun _ h9 => h9) rfl dX4_done_24 ?_
  refine lv_if_le (tgt := 39) hx hb dX4_done_27 (by decide) (fun c27 => ?_) (fun c27 => ?_)
  · skip
    refine lv_aload_n hx hb dX4_done_39 rfl (lv_at hl 0 rfl) ?_
    refine va_get (D := D) (cl := vwCl) (ci := 4) (v := .int lf) (C := RX4) (T := TX4) (N := 12) hx hb hts hiX4 hown hK hP 0 rfl rfl 6 (by decide) hk1 (fun _ h9 => h9) rfl dX4_done_40 ?_
    refine va_put (D := D) (cl := vwCl) (ci := 4) (v := .int lf) (ty := .int) (C := RX4) (T := TX4) (N := 12) hx hb hts hiX4 tyX4 tyX4_ok nmX4 hown hK hP hD hS 0 rfl rfl 6 (by decide) hk1 (fun _ h9 => h9) rfl (by decide +kernel) rfl rfl (Nat.le_of_ble_eq_true rfl) dX4_done_43 (fun H locs hP hD hS => ?_)
    have hP : va_P D vwCl [(hm, .inr (4, [.int 0, .int (nI a), .ref gB, .int (nI nw), .int (nI ol), .int (b2i O), .int lf, .int (us + 1), .int (nI tc), .ref gT, .ref gZ, .int bd])), (gB, .inl (cI, 5760, .inl (pg_setn f (q * 48 + 44) (pg_sum f (q * 48) 44)))), (gT, .inl (cI, 32, .inl t)), (gZ, .inl (cZ, 120, .inl z))] _ := hP
    have hD : va_D A [(hm, .inr (4, [.int 0, .int (nI a), .ref gB, .int (nI nw), .int (nI ol), .int (b2i O), .int lf, .int (us + 1), .int (nI tc), .ref gT, .ref gZ, .int bd])), (gB, .inl (cI, 5760, .inl (pg_setn f (q * 48 + 44) (pg_sum f (q * 48) 44)))), (gT, .inl (cI, 32, .inl t)), (gZ, .inl (cZ, 120, .inl z))] := hD
    refine lv_aload_n hx hb dX4_done_46 rfl (lv_at hl 0 rfl) ?_
    refine va_get (D := D) (cl := vwCl) (ci := 4) (v := .int lf) (C := RX4) (T := TX4) (N := 12) hx hb hts hiX4 hown hK hP 0 rfl rfl 6 (by decide) hk1 (fun _ h9 => h9) rfl dX4_done_47 ?_
    refine lv_if_ne (tgt := 57) hx hb dX4_done_50 (by decide) (fun c50 => ?_) (fun c50 => ?_)
    · skip
      refine lv_aload_n hx hb dX4_done_57 rfl (lv_at hl 0 rfl) ?_
      refine va_get (D := D) (cl := vwCl) (ci := 4) (v := .int (b2i O)) (C := RX4) (T := TX4) (N := 12) hx hb hts hiX4 hown hK hP 0 rfl rfl 5 (by decide) hk2 (fun _ h9 => h9) rfl dX4_done_58 ?_
      refine lv_if_ne (tgt := 68) hx hb dX4_done_61 (by decide) (fun c61 => ?_) (fun c61 => ?_)
      · skip
        refine lv_iconst (v := 0) hx hb dX4_done_68 (by decide) ?_
        have el : pw_left lf = lf := if_neg (Int32.not_lt.mpr c27)
        have en : ¬ pw_left lf = 0 := by rw [el]; exact c50
        have e1 : dn_lf lf = pw_left lf := ifp_f en
        have e2 : dn_tc lf tc = tc := ifp_f en
        have e3 : dn_O O lf ↔ O := ⟨fun h => h.resolve_left en, Or.inr⟩
        exact ct_zret hx hb hr hlocks (rfl) (by rw [propext e3]; exact (b2i_f (fun h => h (b2i_n0 c61))).symm) (by rw [e1, e2, propext e3, el]; rfl) hP hD hS dX4_done_69
      · skip
        refine lv_iconst (v := 1) hx hb dX4_done_64 (by decide) ?_
        refine lv_goto (tgt := 69) hx hb dX4_done_65 (by decide) ?_
        have el : pw_left lf = lf := if_neg (Int32.not_lt.mpr c27)
        have en : ¬ pw_left lf = 0 := by rw [el]; exact c50
        have e1 : dn_lf lf = pw_left lf := ifp_f en
        have e2 : dn_tc lf tc = tc := ifp_f en
        have e3 : dn_O O lf ↔ O := ⟨fun h => h.resolve_left en, Or.inr⟩
        exact ct_zret hx hb hr hlocks (rfl) (by rw [propext e3]; exact (b2i_t (b2i_0.mp c61)).symm) (by rw [e1, e2, propext e3, el]; rfl) hP hD hS dX4_done_69
    · skip
      refine lv_aload_n hx hb dX4_done_53 rfl (lv_at hl 0 rfl) ?_
      refine ct_callv (w := [(hm, .inr (4, [.int 0, .int (nI a), .ref gB, .int (nI nw), .int (nI ol), .int (b2i O), .int lf, .int (us + 1), .int (nI tc), .ref gT, .ref gZ, .int bd])), (gB, .inl (cI, 5760, .inl (pg_setn f (q * 48 + 44) (pg_sum f (q * 48) 44)))), (gT, .inl (cI, 32, .inl t)), (gZ, .inl (cZ, 120, .inl z))]) (w' := [(hm, .inr (4, [.int 0, .int (nI a), .ref gB, .int (nI nw), .int (nI ol), .int (b2i True), .int (-1), .int (us + 1), .int (nI 0), .ref gT, .ref gZ, .int bd])), (gB, .inl (cI, 5760, .inl (pg_setn f (q * 48 + 44) (pg_sum f (q * 48) 44)))), (gT, .inl (cI, 32, .inl t)), (gZ, .inl (cZ, 120, .inl z))]) (va_runV (As := []) (rest := []) ⟨hx, hb, hml, hown, hts⟩ (c_X4_fail l D cI cZ hm gB gT gZ a tc nw ol (pg_setn f (q * 48 + 44) (pg_sum f (q * 48) 44)) t z O lf (us + 1) bd  (by omega) (by omega) (by omega) (by omega) (by omega)  _) (cwV 0 hts gX4_done_X4_fail rfl rfl rfl (by decide +kernel) ⟨Nat.le_of_ble_eq_true rfl, Nat.le_of_ble_eq_true rfl⟩) (ct_preV (w := [(hm, .inr (4, [.int 0, .int (nI a), .ref gB, .int (nI nw), .int (nI ol), .int (b2i O), .int lf, .int (us + 1), .int (nI tc), .ref gT, .ref gZ, .int bd])), (gB, .inl (cI, 5760, .inl (pg_setn f (q * 48 + 44) (pg_sum f (q * 48) 44)))), (gT, .inl (cI, 32, .inl t)), (gZ, .inl (cZ, 120, .inl z))]) (ci := 4) (i0 := 0) hK hN hP hD [0, 1, 2, 3] (by decide) rfl rfl rfl) rfl rfl hl.1 rfl (lv_room (Nat.le_of_ble_eq_true rfl)) dX4_done_54 ⟨Nat.le_of_ble_eq_true rfl, Nat.le_of_ble_eq_true rfl⟩) hP hD hS hA [0, 1, 2, 3] rfl [hm, gB, gT, gZ] rfl rfl (fun H locs hP hD hS => ?_)
      have hP : va_P D vwCl [(hm, .inr (4, [.int 0, .int (nI a), .ref gB, .int (nI nw), .int (nI ol), .int (b2i True), .int (-1), .int (us + 1), .int (nI 0), .ref gT, .ref gZ, .int bd])), (gB, .inl (cI, 5760, .inl (pg_setn f (q * 48 + 44) (pg_sum f (q * 48) 44)))), (gT, .inl (cI, 32, .inl t)), (gZ, .inl (cZ, 120, .inl z))] _ := hP
      have hD : va_D A [(hm, .inr (4, [.int 0, .int (nI a), .ref gB, .int (nI nw), .int (nI ol), .int (b2i True), .int (-1), .int (us + 1), .int (nI 0), .ref gT, .ref gZ, .int bd])), (gB, .inl (cI, 5760, .inl (pg_setn f (q * 48 + 44) (pg_sum f (q * 48) 44)))), (gT, .inl (cI, 32, .inl t)), (gZ, .inl (cZ, 120, .inl z))] := hD
      refine lv_aload_n hx hb dX4_done_57 rfl (lv_at hl 0 rfl) ?_
      refine va_get (D := D) (cl := vwCl) (ci := 4) (v := .int (b2i True)) (C := RX4) (T := TX4) (N := 12) hx hb hts hiX4 hown hK hP 0 rfl rfl 5 (by decide) hk2 (fun _ h9 => h9) rfl dX4_done_58 ?_
      refine lv_if_ne (tgt := 68) hx hb dX4_done_61 (by decide) (fun c61 => ?_) (fun c61 => ?_)
      · skip
        refine lv_iconst (v := 0) hx hb dX4_done_68 (by decide) ?_
        have el : pw_left lf = lf := if_neg (Int32.not_lt.mpr c27)
        have en : pw_left lf = 0 := by rw [el]; exact c50
        have e1 : dn_lf lf = -1 := ifp_t en
        have e2 : dn_tc lf tc = 0 := ifp_t en
        have e3 : dn_O O lf ↔ True := ⟨fun _ => trivial, fun _ => Or.inl en⟩
        exact ct_zret hx hb hr hlocks (rfl) (by rw [propext e3]; exact (b2i_f (fun h => h (b2i_n0 c61))).symm) (by rw [e1, e2, propext e3]; rfl) hP hD hS dX4_done_69
      · skip
        refine lv_iconst (v := 1) hx hb dX4_done_64 (by decide) ?_
        refine lv_goto (tgt := 69) hx hb dX4_done_65 (by decide) ?_
        have el : pw_left lf = lf := if_neg (Int32.not_lt.mpr c27)
        have en : pw_left lf = 0 := by rw [el]; exact c50
        have e1 : dn_lf lf = -1 := ifp_t en
        have e2 : dn_tc lf tc = 0 := ifp_t en
        have e3 : dn_O O lf ↔ True := ⟨fun _ => trivial, fun _ => Or.inl en⟩
        exact ct_zret hx hb hr hlocks (rfl) (by rw [propext e3]; exact (b2i_t (b2i_0.mp c61)).symm) (by rw [e1, e2, propext e3]; rfl) hP hD hS dX4_done_69
  · skip
    refine lv_aload_n hx hb dX4_done_30 rfl (lv_at hl 0 rfl) ?_
    refine va_get (D := D) (cl := vwCl) (ci := 4) (v := .int lf) (C := RX4) (T := TX4) (N := 12) hx hb hts hiX4 hown hK hP 0 rfl rfl 6 (by decide) hk1 (fun _ h9 => h9) rfl dX4_done_31 ?_
    refine lv_iconst (v := 1) hx hb dX4_done_34 (by decide) ?_
    refine lv_isub hx hb dX4_done_35 ?_
    refine lv_goto (tgt := 43) hx hb dX4_done_36 (by decide) ?_
    refine va_put (D := D) (cl := vwCl) (ci := 4) (v := .int (lf - 1)) (ty := .int) (C := RX4) (T := TX4) (N := 12) hx hb hts hiX4 tyX4 tyX4_ok nmX4 hown hK hP hD hS 0 rfl rfl 6 (by decide) hk1 (fun _ h9 => h9) rfl (by decide +kernel) rfl rfl (Nat.le_of_ble_eq_true rfl) dX4_done_43 (fun H locs hP hD hS => ?_)
    have hP : va_P D vwCl [(hm, .inr (4, [.int 0, .int (nI a), .ref gB, .int (nI nw), .int (nI ol), .int (b2i O), .int (lf - 1), .int (us + 1), .int (nI tc), .ref gT, .ref gZ, .int bd])), (gB, .inl (cI, 5760, .inl (pg_setn f (q * 48 + 44) (pg_sum f (q * 48) 44)))), (gT, .inl (cI, 32, .inl t)), (gZ, .inl (cZ, 120, .inl z))] _ := hP
    have hD : va_D A [(hm, .inr (4, [.int 0, .int (nI a), .ref gB, .int (nI nw), .int (nI ol), .int (b2i O), .int (lf - 1), .int (us + 1), .int (nI tc), .ref gT, .ref gZ, .int bd])), (gB, .inl (cI, 5760, .inl (pg_setn f (q * 48 + 44) (pg_sum f (q * 48) 44)))), (gT, .inl (cI, 32, .inl t)), (gZ, .inl (cZ, 120, .inl z))] := hD
    refine lv_aload_n hx hb dX4_done_46 rfl (lv_at hl 0 rfl) ?_
    refine va_get (D := D) (cl := vwCl) (ci := 4) (v := .int (lf - 1)) (C := RX4) (T := TX4) (N := 12) hx hb hts hiX4 hown hK hP 0 rfl rfl 6 (by decide) hk1 (fun _ h9 => h9) rfl dX4_done_47 ?_
    refine lv_if_ne (tgt := 57) hx hb dX4_done_50 (by decide) (fun c50 => ?_) (fun c50 => ?_)
    · skip
      refine lv_aload_n hx hb dX4_done_57 rfl (lv_at hl 0 rfl) ?_
      refine va_get (D := D) (cl := vwCl) (ci := 4) (v := .int (b2i O)) (C := RX4) (T := TX4) (N := 12) hx hb hts hiX4 hown hK hP 0 rfl rfl 5 (by decide) hk2 (fun _ h9 => h9) rfl dX4_done_58 ?_
      refine lv_if_ne (tgt := 68) hx hb dX4_done_61 (by decide) (fun c61 => ?_) (fun c61 => ?_)
      · skip
        refine lv_iconst (v := 0) hx hb dX4_done_68 (by decide) ?_
        have el : pw_left lf = lf - 1 := if_pos (Int32.not_le.mp c27)
        have en : ¬ pw_left lf = 0 := by rw [el]; exact c50
        have e1 : dn_lf lf = pw_left lf := ifp_f en
        have e2 : dn_tc lf tc = tc := ifp_f en
        have e3 : dn_O O lf ↔ O := ⟨fun h => h.resolve_left en, Or.inr⟩
        exact ct_zret hx hb hr hlocks (rfl) (by rw [propext e3]; exact (b2i_f (fun h => h (b2i_n0 c61))).symm) (by rw [e1, e2, propext e3, el]; rfl) hP hD hS dX4_done_69
      · skip
        refine lv_iconst (v := 1) hx hb dX4_done_64 (by decide) ?_
        refine lv_goto (tgt := 69) hx hb dX4_done_65 (by decide) ?_
        have el : pw_left lf = lf - 1 := if_pos (Int32.not_le.mp c27)
        have en : ¬ pw_left lf = 0 := by rw [el]; exact c50
        have e1 : dn_lf lf = pw_left lf := ifp_f en
        have e2 : dn_tc lf tc = tc := ifp_f en
        have e3 : dn_O O lf ↔ O := ⟨fun h => h.resolve_left en, Or.inr⟩
        exact ct_zret hx hb hr hlocks (rfl) (by rw [propext e3]; exact (b2i_t (b2i_0.mp c61)).symm) (by rw [e1, e2, propext e3, el]; rfl) hP hD hS dX4_done_69
    · skip
      refine lv_aload_n hx hb dX4_done_53 rfl (lv_at hl 0 rfl) ?_
      refine ct_callv (w := [(hm, .inr (4, [.int 0, .int (nI a), .ref gB, .int (nI nw), .int (nI ol), .int (b2i O), .int (lf - 1), .int (us + 1), .int (nI tc), .ref gT, .ref gZ, .int bd])), (gB, .inl (cI, 5760, .inl (pg_setn f (q * 48 + 44) (pg_sum f (q * 48) 44)))), (gT, .inl (cI, 32, .inl t)), (gZ, .inl (cZ, 120, .inl z))]) (w' := [(hm, .inr (4, [.int 0, .int (nI a), .ref gB, .int (nI nw), .int (nI ol), .int (b2i True), .int (-1), .int (us + 1), .int (nI 0), .ref gT, .ref gZ, .int bd])), (gB, .inl (cI, 5760, .inl (pg_setn f (q * 48 + 44) (pg_sum f (q * 48) 44)))), (gT, .inl (cI, 32, .inl t)), (gZ, .inl (cZ, 120, .inl z))]) (va_runV (As := []) (rest := []) ⟨hx, hb, hml, hown, hts⟩ (c_X4_fail l D cI cZ hm gB gT gZ a tc nw ol (pg_setn f (q * 48 + 44) (pg_sum f (q * 48) 44)) t z O (lf - 1) (us + 1) bd  (by omega) (by omega) (by omega) (by omega) (by omega)  _) (cwV 0 hts gX4_done_X4_fail rfl rfl rfl (by decide +kernel) ⟨Nat.le_of_ble_eq_true rfl, Nat.le_of_ble_eq_true rfl⟩) (ct_preV (w := [(hm, .inr (4, [.int 0, .int (nI a), .ref gB, .int (nI nw), .int (nI ol), .int (b2i O), .int (lf - 1), .int (us + 1), .int (nI tc), .ref gT, .ref gZ, .int bd])), (gB, .inl (cI, 5760, .inl (pg_setn f (q * 48 + 44) (pg_sum f (q * 48) 44)))), (gT, .inl (cI, 32, .inl t)), (gZ, .inl (cZ, 120, .inl z))]) (ci := 4) (i0 := 0) hK hN hP hD [0, 1, 2, 3] (by decide) rfl rfl rfl) rfl rfl hl.1 rfl (lv_room (Nat.le_of_ble_eq_true rfl)) dX4_done_54 ⟨Nat.le_of_ble_eq_true rfl, Nat.le_of_ble_eq_true rfl⟩) hP hD hS hA [0, 1, 2, 3] rfl [hm, gB, gT, gZ] rfl rfl (fun H locs hP hD hS => ?_)
      have hP : va_P D vwCl [(hm, .inr (4, [.int 0, .int (nI a), .ref gB, .int (nI nw), .int (nI ol), .int (b2i True), .int (-1), .int (us + 1), .int (nI 0), .ref gT, .ref gZ, .int bd])), (gB, .inl (cI, 5760, .inl (pg_setn f (q * 48 + 44) (pg_sum f (q * 48) 44)))), (gT, .inl (cI, 32, .inl t)), (gZ, .inl (cZ, 120, .inl z))] _ := hP
      have hD : va_D A [(hm, .inr (4, [.int 0, .int (nI a), .ref gB, .int (nI nw), .int (nI ol), .int (b2i True), .int (-1), .int (us + 1), .int (nI 0), .ref gT, .ref gZ, .int bd])), (gB, .inl (cI, 5760, .inl (pg_setn f (q * 48 + 44) (pg_sum f (q * 48) 44)))), (gT, .inl (cI, 32, .inl t)), (gZ, .inl (cZ, 120, .inl z))] := hD
      refine lv_aload_n hx hb dX4_done_57 rfl (lv_at hl 0 rfl) ?_
      refine va_get (D := D) (cl := vwCl) (ci := 4) (v := .int (b2i True)) (C := RX4) (T := TX4) (N := 12) hx hb hts hiX4 hown hK hP 0 rfl rfl 5 (by decide) hk2 (fun _ h9 => h9) rfl dX4_done_58 ?_
      refine lv_if_ne (tgt := 68) hx hb dX4_done_61 (by decide) (fun c61 => ?_) (fun c61 => ?_)
      · skip
        refine lv_iconst (v := 0) hx hb dX4_done_68 (by decide) ?_
        have el : pw_left lf = lf - 1 := if_pos (Int32.not_le.mp c27)
        have en : pw_left lf = 0 := by rw [el]; exact c50
        have e1 : dn_lf lf = -1 := ifp_t en
        have e2 : dn_tc lf tc = 0 := ifp_t en
        have e3 : dn_O O lf ↔ True := ⟨fun _ => trivial, fun _ => Or.inl en⟩
        exact ct_zret hx hb hr hlocks (rfl) (by rw [propext e3]; exact (b2i_f (fun h => h (b2i_n0 c61))).symm) (by rw [e1, e2, propext e3]; rfl) hP hD hS dX4_done_69
      · skip
        refine lv_iconst (v := 1) hx hb dX4_done_64 (by decide) ?_
        refine lv_goto (tgt := 69) hx hb dX4_done_65 (by decide) ?_
        have el : pw_left lf = lf - 1 := if_pos (Int32.not_le.mp c27)
        have en : pw_left lf = 0 := by rw [el]; exact c50
        have e1 : dn_lf lf = -1 := ifp_t en
        have e2 : dn_tc lf tc = 0 := ifp_t en
        have e3 : dn_O O lf ↔ True := ⟨fun _ => trivial, fun _ => Or.inl en⟩
        exact ct_zret hx hb hr hlocks (rfl) (by rw [propext e3]; exact (b2i_t (b2i_0.mp c61)).symm) (by rw [e1, e2, propext e3]; rfl) hP hD hS dX4_done_69
set_option maxHeartbeats 4000000 in
set_option maxRecDepth 100000 in
theorem c_X4_hasVersion (l : Launch) (D : va_G) (cI cZ : ClassId) (hm gB gT gZ a tc nw ol : Nat) (f t z : Nat → Int32) (O : Prop) (lf us bd : Int32) (ha : a ≤ 120) (h12 : 12 ≤ a) (htc : tc ≤ 32) (hnw : nw ≤ 1000000) (hol : ol ≤ nw + 1) : CtI l yX4_hasVersion wsX4_hasVersion ({ frames := 0, cells := 0, slots := 0, locals := 0 }) D vwCl (ct_T cI cZ) [.ref hm] [(hm, .inr (4, [.int 0, .int (nI a), .ref gB, .int (nI nw), .int (nI ol), .int (b2i O), .int lf, .int us, .int (nI tc), .ref gT, .ref gZ, .int bd])), (gB, .inl (cI, 5760, .inl f)), (gT, .inl (cI, 32, .inl t)), (gZ, .inl (cZ, 120, .inl z))] [(hm, .inr (4, [.int 0, .int (nI a), .ref gB, .int (nI nw), .int (nI ol), .int (b2i O), .int lf, .int us, .int (nI tc), .ref gT, .ref gZ, .int bd])), (gB, .inl (cI, 5760, .inl f)), (gT, .inl (cI, 32, .inl t)), (gZ, .inl (cZ, 120, .inl z))] (b2i (ol ≤ nw)) := by
  refine ct_of (Qf := ct_Qi D vwCl [(hm, .inr (4, [.int 0, .int (nI a), .ref gB, .int (nI nw), .int (nI ol), .int (b2i O), .int lf, .int us, .int (nI tc), .ref gT, .ref gZ, .int bd])), (gB, .inl (cI, 5760, .inl f)), (gT, .inl (cI, 32, .inl t)), (gZ, .inl (cZ, 120, .inl z))] (b2i (ol ≤ nw))) (cc := cX4_hasVersion) (maxL := 1) (ret := (some .boolean)) [(0, .ref hm)] (by decide) rfl (Nat.le_of_ble_eq_true rfl) rfl ?_
  intro p e s m below meth c hx hb hr hts hown hlocks hml hnm A hA hK hN hP hD hS ls hl
  have hown : s.vm.findClass RX4 = some m.cls := hown
  have hk0 := hts (.fieldLink RX4 67 "DesignPagesModel" "newest" "I") (by decide +kernel)
  have hk1 := hts (.fieldLink RX4 13 "DesignPagesModel" "oldest" "I") (by decide +kernel)
  have hiX4 : ∀ w ∈ wsX40, w ∈ wsX4_hasVersion := by decide +kernel
  refine lv_aload_n hx hb dX4_hasVersion_0 rfl (lv_at hl 0 rfl) ?_
  refine va_get (D := D) (cl := vwCl) (ci := 4) (v := .int (nI nw)) (C := RX4) (T := TX4) (N := 12) hx hb hts hiX4 hown hK hP 0 rfl rfl 3 (by decide) hk0 (fun _ h9 => h9) rfl dX4_hasVersion_1 ?_
  refine lv_aload_n hx hb dX4_hasVersion_4 rfl (lv_at hl 0 rfl) ?_
  refine va_get (D := D) (cl := vwCl) (ci := 4) (v := .int (nI ol)) (C := RX4) (T := TX4) (N := 12) hx hb hts hiX4 hown hK hP 0 rfl rfl 4 (by decide) hk1 (fun _ h9 => h9) rfl dX4_hasVersion_5 ?_
  refine lv_icmp_lt (tgt := 15) hx hb dX4_hasVersion_8 (by decide) (fun c8 => ?_) (fun c8 => ?_)
  · skip
    have c8 : nw < ol := (nI_ltI (a := nw) (b := ol) (by omega) (by omega)).mp c8
    refine lv_iconst (v := 0) hx hb dX4_hasVersion_15 (by decide) ?_
    exact ct_zret hx hb hr hlocks (rfl) ((b2i_f (Nat.not_le.mpr c8)).symm) (rfl) hP hD hS dX4_hasVersion_16
  · skip
    have c8 : ¬ nw < ol := fun h => c8 ((nI_ltI (a := nw) (b := ol) (by omega) (by omega)).mpr h)
    refine lv_iconst (v := 1) hx hb dX4_hasVersion_11 (by decide) ?_
    refine lv_goto (tgt := 16) hx hb dX4_hasVersion_12 (by decide) ?_
    exact ct_zret hx hb hr hlocks (rfl) ((b2i_t (Nat.le_of_not_lt c8)).symm) (rfl) hP hD hS dX4_hasVersion_16
set_option maxHeartbeats 4000000 in
set_option maxRecDepth 100000 in
theorem c_X4_nodeOf (l : Launch) (D : va_G) (cI cZ : ClassId) (hm gB gT gZ a tc nw ol : Nat) (f t z : Nat → Int32) (O : Prop) (lf us bd : Int32) (v n : Nat) (ha : a ≤ 120) (h12 : 12 ≤ a) (htc : tc ≤ 32) (hnw : nw ≤ 1000000) (hol : ol ≤ nw + 1) (hv : v < 2 ^ 31) (hn : n < 32) : CtI l yX4_nodeOf wsX4_nodeOf ({ frames := 1, cells := 0, slots := 0, locals := 22 }) D vwCl (ct_T cI cZ) [.ref hm, .int (nI v), .int (nI n)] [(hm, .inr (4, [.int 0, .int (nI a), .ref gB, .int (nI nw), .int (nI ol), .int (b2i O), .int lf, .int us, .int (nI tc), .ref gT, .ref gZ, .int bd])), (gB, .inl (cI, 5760, .inl f)), (gT, .inl (cI, 32, .inl t)), (gZ, .inl (cZ, 120, .inl z))] [(hm, .inr (4, [.int 0, .int (nI a), .ref gB, .int (nI nw), .int (nI ol), .int (b2i O), .int lf, .int us, .int (nI tc), .ref gT, .ref gZ, .int bd])), (gB, .inl (cI, 5760, .inl f)), (gT, .inl (cI, 32, .inl t)), (gZ, .inl (cZ, 120, .inl z))] (f (v % 8 * 48 + (9 + n))) := by
  refine ct_of (Qf := ct_Qi D vwCl [(hm, .inr (4, [.int 0, .int (nI a), .ref gB, .int (nI nw), .int (nI ol), .int (b2i O), .int lf, .int us, .int (nI tc), .ref gT, .ref gZ, .int bd])), (gB, .inl (cI, 5760, .inl f)), (gT, .inl (cI, 32, .inl t)), (gZ, .inl (cZ, 120, .inl z))] (f (v % 8 * 48 + (9 + n)))) (cc := cX4_nodeOf) (maxL := 3) (ret := (some .int)) [(0, .ref hm), (1, .int (nI v)), (2, .int (nI n))] (by decide) rfl (Nat.le_of_ble_eq_true rfl) rfl ?_
  intro p e s m below meth c hx hb hr hts hown hlocks hml hnm A hA hK hN hP hD hS ls hl
  have hown : s.vm.findClass RX4 = some m.cls := hown
  refine lv_aload_n hx hb dX4_nodeOf_0 rfl (lv_at hl 0 rfl) ?_
  refine lv_iload_n hx hb dX4_nodeOf_1 rfl (lv_at hl 1 rfl) ?_
  refine lv_bipush (v := 8) hx hb dX4_nodeOf_2 (by decide) ?_
  refine lv_irem hx hb dX4_nodeOf_4 (by decide) ?_
  refine ct_top (y := nI (v % 8)) (pk_rem (by omega) (by decide) (by decide)) ?_
  refine lv_bipush (v := 9) hx hb dX4_nodeOf_5 (by decide) ?_
  refine lv_iload_n hx hb dX4_nodeOf_7 rfl (lv_at hl 2 rfl) ?_
  refine lv_iadd hx hb dX4_nodeOf_8 ?_
  refine ct_top (y := nI (9 + n)) (nI_add 9 n) ?_
  refine ct_calli (w := [(hm, .inr (4, [.int 0, .int (nI a), .ref gB, .int (nI nw), .int (nI ol), .int (b2i O), .int lf, .int us, .int (nI tc), .ref gT, .ref gZ, .int bd])), (gB, .inl (cI, 5760, .inl f)), (gT, .inl (cI, 32, .inl t)), (gZ, .inl (cZ, 120, .inl z))]) (w' := [(hm, .inr (4, [.int 0, .int (nI a), .ref gB, .int (nI nw), .int (nI ol), .int (b2i O), .int lf, .int us, .int (nI tc), .ref gT, .ref gZ, .int bd])), (gB, .inl (cI, 5760, .inl f)), (gT, .inl (cI, 32, .inl t)), (gZ, .inl (cZ, 120, .inl z))]) (va_runV (As := [.int (nI (v % 8)), .int (nI (9 + n))]) (rest := []) ⟨hx, hb, hml, hown, hts⟩ (c_X4_at l D cI cZ hm gB gT gZ a tc nw ol f t z O lf us bd (v % 8) (9 + n) (by omega) (by omega) (by omega) (by omega) (by omega) (by omega) (by omega) _) (cwV 2 hts gX4_nodeOf_X4_at rfl rfl rfl (by decide +kernel) ⟨Nat.le_of_ble_eq_true rfl, Nat.le_of_ble_eq_true rfl⟩) (ct_preV (w := [(hm, .inr (4, [.int 0, .int (nI a), .ref gB, .int (nI nw), .int (nI ol), .int (b2i O), .int lf, .int us, .int (nI tc), .ref gT, .ref gZ, .int bd])), (gB, .inl (cI, 5760, .inl f)), (gT, .inl (cI, 32, .inl t)), (gZ, .inl (cZ, 120, .inl z))]) (ci := 4) (i0 := 0) hK hN hP hD [0, 1, 2, 3] (by decide) rfl rfl rfl) rfl rfl hl.1 rfl (lv_room (Nat.le_of_ble_eq_true rfl)) dX4_nodeOf_9 ⟨Nat.le_of_ble_eq_true rfl, Nat.le_of_ble_eq_true rfl⟩) hP hD hS hA [0, 1, 2, 3] rfl [hm, gB, gT, gZ] rfl rfl (fun H locs hP hD hS => ?_)
  have hP : va_P D vwCl [(hm, .inr (4, [.int 0, .int (nI a), .ref gB, .int (nI nw), .int (nI ol), .int (b2i O), .int lf, .int us, .int (nI tc), .ref gT, .ref gZ, .int bd])), (gB, .inl (cI, 5760, .inl f)), (gT, .inl (cI, 32, .inl t)), (gZ, .inl (cZ, 120, .inl z))] _ := hP
  have hD : va_D A [(hm, .inr (4, [.int 0, .int (nI a), .ref gB, .int (nI nw), .int (nI ol), .int (b2i O), .int lf, .int us, .int (nI tc), .ref gT, .ref gZ, .int bd])), (gB, .inl (cI, 5760, .inl f)), (gT, .inl (cI, 32, .inl t)), (gZ, .inl (cZ, 120, .inl z))] := hD
  exact ct_iret hx hb hr hlocks (rfl) (rfl) hP hD hS dX4_nodeOf_12
