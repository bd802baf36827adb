set_option maxHeartbeats 4000000 in
set_option maxRecDepth 100000 in
theorem c_X2_markOf (l : Launch) (D : va_G) (cI cZ : ClassId) (x : Int32)  : CtI l yX2_markOf wsX2_markOf ({ frames := 0, cells := 0, slots := 0, locals := 0 }) D vwCl (ct_T cI cZ) [.int x] [] [] (mk_bit x) := by
  refine ct_of (Qf := ct_Qi D vwCl [] (mk_bit x)) (cc := cX2_markOf) (maxL := 1) (ret := (some .int)) [(0, .int x)] (by decide) rfl (Nat.le_of_ble_eq_true rfl) rfl ?_
  intro p e s m below meth c hx hb hr hts hown hlocks hml hnm A hA hK hN hP hD hS ls hl
  have hown : s.vm.findClass RX2 = some m.cls := hown
  refine lv_iconst (v := 1) hx hb dX2_markOf_0 (by decide) ?_
  refine lv_iload_n hx hb dX2_markOf_1 rfl (lv_at hl 0 rfl) ?_
  refine lv_ishl hx hb dX2_markOf_2 ?_
  exact ct_iret hx hb hr hlocks (rfl) (rfl) hP hD hS dX2_markOf_3
set_option maxHeartbeats 4000000 in
set_option maxRecDepth 100000 in
theorem c_X2_leastBad (l : Launch) (D : va_G) (cI cZ : ClassId) (hR hM a : Nat) (M : Nat → Int32) (ha : a ≤ 120) : CtI l yX2_leastBad wsX2_leastBad ({ frames := 0, cells := 0, slots := 0, locals := 0 }) D vwCl (ct_T cI cZ) [.ref hR] [(hR, .inr (2, [.ref hM])), (hM, .inl (cI, a, .inl M))] [(hR, .inr (2, [.ref hM])), (hM, .inl (cI, a, .inl M))] (fd (fun p => ¬ M p &&& 1 = 0) a 0) := by
  refine ct_of (Qf := ct_Qi D vwCl [(hR, .inr (2, [.ref hM])), (hM, .inl (cI, a, .inl M))] (fd (fun p => ¬ M p &&& 1 = 0) a 0)) (cc := cX2_leastBad) (maxL := 2) (ret := (some .int)) [(0, .ref hR)] (by decide) rfl (Nat.le_of_ble_eq_true rfl) rfl ?_
  intro p e s m below meth c hx hb hr hts hown hlocks hml hnm A hA hK hN hP hD hS ls hl
  have hown : s.vm.findClass RX2 = some m.cls := hown
  have hk0 := hts (.fieldLink RX2 9 "DesignPages$Reach" "marks" "[I") (by decide +kernel)
  have hiX2 : ∀ w ∈ wsX20, w ∈ wsX2_leastBad := by decide +kernel
  refine lv_iconst (v := 0) hx hb dX2_leastBad_0 (by decide) ?_
  refine lv_istore_n (lv' := [(1, .int 0), (0, .ref hR)]) hx hb dX2_leastBad_1 rfl hl (by decide) rfl (fun ls hl => ?_)
  have loop2 : ∀ (n2 : Nat) (i : Nat), i ≤ a → fd (fun p => ¬ M p &&& 1 = 0) a 0 = fd (fun p => ¬ M p &&& 1 = 0) (a - i) i → a - i < n2 → ∀ (H : Heap) (locs : List Loc), va_P D vwCl [(hR, .inr (2, [.ref hM])), (hM, .inl (cI, a, .inl M))] H → va_D A [(hR, .inr (2, [.ref hM])), (hM, .inl (cI, a, .inl M))] → va_S A s.heap H locs → ∀ (ls : Array Slot), lv_has ls 2 [(1, .int (nI i)), (0, .ref hR)] → W p l e ({ frames := 0, cells := 0, slots := 0, locals := 0 }) s m ([.ref hR] : List Value).toArray below meth c H locs 0 0 (MQ below (ct_Qi D vwCl [(hR, .inr (2, [.ref hM])), (hM, .inl (cI, a, .inl M))] (fd (fun p => ¬ M p &&& 1 = 0) a 0) A) ([.ref hR] : List Value).toArray s 0 0 A) (F0 m 2 ls []) := by
    intro n2
    induction n2 with
    | zero =>
      intro i _ _ hm
      exact absurd hm (Nat.not_lt_zero _)
    | succ n2 ih2 =>
      intro i hi ex hm2 H locs hP hD hS ls hl
      refine lv_iload_n hx hb dX2_leastBad_2 rfl (lv_at hl 0 rfl) ?_
      refine lv_aload_n hx hb dX2_leastBad_3 rfl (lv_at hl 1 rfl) ?_
      refine va_get (D := D) (cl := vwCl) (ci := 2) (v := .ref hM) (C := RX2) (T := TX2) (N := 1) hx hb hts hiX2 hown hK hP 0 rfl rfl 0 (by decide) hk0 (fun _ h9 => h9) rfl dX2_leastBad_4 ?_
      refine va_alen (v := nI a) hx hb hK hP 1 0 rfl rfl rfl dX2_leastBad_7 ?_
      refine lv_icmp_ge (tgt := 30) hx hb dX2_leastBad_8 (by decide) (fun c8 => ?_) (fun c8 => ?_)
      · skip
        have c8 : a ≤ i := (nI_leI (a := a) (b := i) (by omega) (by omega)).mp c8
        refine lv_iconst (v := (-1)) hx hb dX2_leastBad_30 (by decide) ?_
        exact ct_iret hx hb hr hlocks (by rw [ex]; exact (fd_0' (by omega)).symm) (rfl) hP hD hS dX2_leastBad_31
      · skip
        have c8 : ¬ a ≤ i := fun h => c8 ((nI_leI (a := a) (b := i) (by omega) (by omega)).mpr h)
        refine lv_aload_n hx hb dX2_leastBad_11 rfl (lv_at hl 1 rfl) ?_
        refine va_get (D := D) (cl := vwCl) (ci := 2) (v := .ref hM) (C := RX2) (T := TX2) (N := 1) hx hb hts hiX2 hown hK hP 0 rfl rfl 0 (by decide) hk0 (fun _ h9 => h9) rfl dX2_leastBad_12 ?_
        refine lv_iload_n hx hb dX2_leastBad_15 rfl (lv_at hl 0 rfl) ?_
        refine ct_iald hx hb hK hP 1 0 (k := i) rfl rfl (by omega) (by omega) dX2_leastBad_16 ?_
        refine lv_iconst (v := 1) hx hb dX2_leastBad_17 (by decide) ?_
        refine lv_iand hx hb dX2_leastBad_18 ?_
        refine lv_if_eq (tgt := 24) hx hb dX2_leastBad_19 (by decide) (fun c19 => ?_) (fun c19 => ?_)
        · skip
          refine lv_iinc (v := nI (i + 1)) (lv' := [(1, .int (nI (i + 1))), (0, .ref hR)]) hx hb dX2_leastBad_24 hl (k := 0) rfl (nI_add i 1) (by decide) rfl (fun ls hl => ?_)
          refine lv_goto (tgt := 2) hx hb dX2_leastBad_27 (by decide) ?_
          exact ih2 (i + 1) (by omega) (by rw [ex]; exact fd_n' (P := fun p => ¬ M p &&& 1 = 0) (fun h => h c19) (by omega)) (by omega) _ _ hP hD hS ls (lv_sub hl [0, 1] rfl)
        · skip
          refine lv_iload_n hx hb dX2_leastBad_22 rfl (lv_at hl 0 rfl) ?_
          exact ct_iret hx hb hr hlocks (by rw [ex]; exact (fd_t' (P := fun p => ¬ M p &&& 1 = 0) c19 (by omega)).symm) (rfl) hP hD hS dX2_leastBad_23
  exact loop2 _ 0 (Nat.zero_le _) (rfl) (Nat.lt_succ_self _) _ _ hP hD hS ls (lv_sub hl [0, 1] rfl)
set_option maxHeartbeats 4000000 in
set_option maxRecDepth 100000 in
theorem c_X2_freePages (l : Launch) (D : va_G) (cI cZ : ClassId) (hR hM a : Nat) (M : Nat → Int32) (ha : a ≤ 120) (h8 : 8 ≤ a) : CtI l yX2_freePages wsX2_freePages ({ frames := 0, cells := 0, slots := 0, locals := 0 }) D vwCl (ct_T cI cZ) [.ref hR] [(hR, .inr (2, [.ref hM])), (hM, .inl (cI, a, .inl M))] [(hR, .inr (2, [.ref hM])), (hM, .inl (cI, a, .inl M))] (nI (ct_of_P (fun p => M p = 0) 8 (a - 8))) := by
  refine ct_of (Qf := ct_Qi D vwCl [(hR, .inr (2, [.ref hM])), (hM, .inl (cI, a, .inl M))] (nI (ct_of_P (fun p => M p = 0) 8 (a - 8)))) (cc := cX2_freePages) (maxL := 3) (ret := (some .int)) [(0, .ref hR)] (by decide) rfl (Nat.le_of_ble_eq_true rfl) rfl ?_
  intro p e s m below meth c hx hb hr hts hown hlocks hml hnm A hA hK hN hP hD hS ls hl
  have hown : s.vm.findClass RX2 = some m.cls := hown
  have hk0 := hts (.fieldLink RX2 9 "DesignPages$Reach" "marks" "[I") (by decide +kernel)
  have hiX2 : ∀ w ∈ wsX20, w ∈ wsX2_freePages := by decide +kernel
  have hkb : ∀ j : Nat, ct_of_P (fun p => M p = 0) 8 j ≤ 8 + j := fun j => Nat.le_trans (ct_P_le _ _ j) (by omega)
  refine lv_iconst (v := 0) hx hb dX2_freePages_0 (by decide) ?_
  refine lv_istore_n (lv' := [(1, .int 0), (0, .ref hR)]) hx hb dX2_freePages_1 rfl hl (by decide) rfl (fun ls hl => ?_)
  refine lv_bipush (v := 8) hx hb dX2_freePages_2 (by decide) ?_
  refine lv_istore_n (lv' := [(2, .int 8), (1, .int 0), (0, .ref hR)]) hx hb dX2_freePages_4 rfl hl (by decide) rfl (fun ls hl => ?_)
  have loop5 : ∀ (n5 : Nat) (i k : Nat), 8 + i ≤ a → k = ct_of_P (fun p => M p = 0) 8 i → a - i < n5 → ∀ (H : Heap) (locs : List Loc), va_P D vwCl [(hR, .inr (2, [.ref hM])), (hM, .inl (cI, a, .inl M))] H → va_D A [(hR, .inr (2, [.ref hM])), (hM, .inl (cI, a, .inl M))] → va_S A s.heap H locs → ∀ (ls : Array Slot), lv_has ls 3 [(2, .int (nI (8 + i))), (1, .int (nI k)), (0, .ref hR)] → W p l e ({ frames := 0, cells := 0, slots := 0, locals := 0 }) s m ([.ref hR] : List Value).toArray below meth c H locs 0 0 (MQ below (ct_Qi D vwCl [(hR, .inr (2, [.ref hM])), (hM, .inl (cI, a, .inl M))] (nI (ct_of_P (fun p => M p = 0) 8 (a - 8))) A) ([.ref hR] : List Value).toArray s 0 0 A) (F0 m 5 ls []) := by
    intro n5
    induction n5 with
    | zero =>
      intro i k _ _ hm
      exact absurd hm (Nat.not_lt_zero _)
    | succ n5 ih5 =>
      intro i k hi ex hm5 H locs hP hD hS ls hl
      refine lv_iload_n hx hb dX2_freePages_5 rfl (lv_at hl 0 rfl) ?_
      refine lv_aload_n hx hb dX2_freePages_6 rfl (lv_at hl 2 rfl) ?_
      refine va_get (D := D) (cl := vwCl) (ci := 2) (v := .ref hM) (C := RX2) (T := TX2) (N := 1) hx hb hts hiX2 hown hK hP 0 rfl rfl 0 (by decide) hk0 (fun _ h9 => h9) rfl dX2_freePages_7 ?_
      refine va_alen (v := nI a) hx hb hK hP 1 0 rfl rfl rfl dX2_freePages_10 ?_
      have hk8 : ct_of_P (fun p => M p = 0) 8 i ≤ 8 + i := hkb i
      refine lv_icmp_ge (tgt := 32) hx hb dX2_freePages_11 (by decide) (fun c11 => ?_) (fun c11 => ?_)
      · skip
        have c11 : a ≤ (8 + i) := (nI_leI (a := a) (b := (8 + i)) (by omega) (by omega)).mp c11
        refine lv_iload_n hx hb dX2_freePages_32 rfl (lv_at hl 1 rfl) ?_
        exact ct_iret hx hb hr hlocks (by have e1 : a - 8 = i := (by omega); rw [e1, ex]) (rfl) hP hD hS dX2_freePages_33
      · skip
        have c11 : ¬ a ≤ (8 + i) := fun h => c11 ((nI_leI (a := a) (b := (8 + i)) (by omega) (by omega)).mpr h)
        refine lv_aload_n hx hb dX2_freePages_14 rfl (lv_at hl 2 rfl) ?_
        refine va_get (D := D) (cl := vwCl) (ci := 2) (v := .ref hM) (C := RX2) (T := TX2) (N := 1) hx hb hts hiX2 hown hK hP 0 rfl rfl 0 (by decide) hk0 (fun _ h9 => h9) rfl dX2_freePages_15 ?_
        refine lv_iload_n hx hb dX2_freePages_18 rfl (lv_at hl 0 rfl) ?_
        refine ct_iald hx hb hK hP 1 0 (k := (8 + i)) rfl rfl (by omega) (by omega) dX2_freePages_19 ?_
        refine lv_if_ne (tgt := 26) hx hb dX2_freePages_20 (by decide) (fun c20 => ?_) (fun c20 => ?_)
        · skip
          refine lv_iinc (v := nI ((8 + i) + 1)) (lv' := [(2, .int (nI ((8 + i) + 1))), (1, .int (nI k)), (0, .ref hR)]) hx hb dX2_freePages_26 hl (k := 0) rfl (nI_add (8 + i) 1) (by decide) rfl (fun ls hl => ?_)
          refine lv_goto (tgt := 5) hx hb dX2_freePages_29 (by decide) ?_
          exact ih5 (i + 1) k (by omega) (by rw [ct_P0 (P := fun p => M p = 0) c20]; exact ex) (by omega) _ _ hP hD hS ls (lv_sub hl [0, 1, 2] rfl)
        · skip
          refine lv_iinc (v := nI (k + 1)) (lv' := [(1, .int (nI (k + 1))), (2, .int (nI (8 + i))), (0, .ref hR)]) hx hb dX2_freePages_23 hl (k := 1) rfl (nI_add k 1) (by decide) rfl (fun ls hl => ?_)
          refine lv_iinc (v := nI ((8 + i) + 1)) (lv' := [(2, .int (nI ((8 + i) + 1))), (1, .int (nI (k + 1))), (0, .ref hR)]) hx hb dX2_freePages_26 hl (k := 1) rfl (nI_add (8 + i) 1) (by decide) rfl (fun ls hl => ?_)
          refine lv_goto (tgt := 5) hx hb dX2_freePages_29 (by decide) ?_
          exact ih5 (i + 1) (k + 1) (by omega) (by rw [ct_P1 (P := fun p => M p = 0) c20, ← ex]) (by omega) _ _ hP hD hS ls (lv_sub hl [0, 1, 2] rfl)
  exact loop5 _ 0 0 (by omega) (rfl) (Nat.lt_succ_self _) _ _ hP hD hS ls (lv_sub hl [0, 1, 2] rfl)
set_option maxHeartbeats 4000000 in
set_option maxRecDepth 100000 in
theorem c_X2_freeFrom (l : Launch) (D : va_G) (cI cZ : ClassId) (hR hM a : Nat) (M : Nat → Int32) (n : Nat) (ha : a ≤ 120) (hn : n < 2 ^ 30) : CtI l yX2_freeFrom wsX2_freeFrom ({ frames := 0, cells := 0, slots := 0, locals := 0 }) D vwCl (ct_T cI cZ) [.ref hR, .int (nI n)] [(hR, .inr (2, [.ref hM])), (hM, .inl (cI, a, .inl M))] [(hR, .inr (2, [.ref hM])), (hM, .inl (cI, a, .inl M))] (fd (fun p => M p = 0) (a - n) n) := by
  refine ct_of (Qf := ct_Qi D vwCl [(hR, .inr (2, [.ref hM])), (hM, .inl (cI, a, .inl M))] (fd (fun p => M p = 0) (a - n) n)) (cc := cX2_freeFrom) (maxL := 3) (ret := (some .int)) [(0, .ref hR), (1, .int (nI n))] (by decide) rfl (Nat.le_of_ble_eq_true rfl) rfl ?_
  intro p e s m below meth c hx hb hr hts hown hlocks hml hnm A hA hK hN hP hD hS ls hl
  have hown : s.vm.findClass RX2 = some m.cls := hown
  have hk0 := hts (.fieldLink RX2 9 "DesignPages$Reach" "marks" "[I") (by decide +kernel)
  have hiX2 : ∀ w ∈ wsX20, w ∈ wsX2_freeFrom := by decide +kernel
  refine lv_iload_n hx hb dX2_freeFrom_0 rfl (lv_at hl 1 rfl) ?_
  refine lv_istore_n (lv' := [(2, .int (nI n)), (0, .ref hR), (1, .int (nI n))]) hx hb dX2_freeFrom_1 rfl hl (by decide) rfl (fun ls hl => ?_)
  have loop2 : ∀ (n2 : Nat) (i : Nat), i < 2 ^ 31 → fd (fun p => M p = 0) (a - n) n = fd (fun p => M p = 0) (a - i) i → a - i < n2 → ∀ (H : Heap) (locs : List Loc), va_P D vwCl [(hR, .inr (2, [.ref hM])), (hM, .inl (cI, a, .inl M))] H → va_D A [(hR, .inr (2, [.ref hM])), (hM, .inl (cI, a, .inl M))] → va_S A s.heap H locs → ∀ (ls : Array Slot), lv_has ls 3 [(2, .int (nI i)), (0, .ref hR), (1, .int (nI n))] → W p l e ({ frames := 0, cells := 0, slots := 0, locals := 0 }) s m ([.ref hR, .int (nI n)] : List Value).toArray below meth c H locs 0 0 (MQ below (ct_Qi D vwCl [(hR, .inr (2, [.ref hM])), (hM, .inl (cI, a, .inl M))] (fd (fun p => M p = 0) (a - n) n) A) ([.ref hR, .int (nI n)] : List Value).toArray s 0 0 A) (F0 m 2 ls []) := by
    intro n2
    induction n2 with
    | zero =>
      intro i _ _ hm
      exact absurd hm (Nat.not_lt_zero _)
    | succ n2 ih2 =>
      intro i hi ex hm2 H locs hP hD hS ls hl
      refine lv_iload_n hx hb dX2_freeFrom_2 rfl (lv_at hl 0 rfl) ?_
      refine lv_aload_n hx hb dX2_freeFrom_3 rfl (lv_at hl 1 rfl) ?_
      refine va_get (D := D) (cl := vwCl) (ci := 2) (v := .ref hM) (C := RX2) (T := TX2) (N := 1) hx hb hts hiX2 hown hK hP 0 rfl rfl 0 (by decide) hk0 (fun _ h9 => h9) rfl dX2_freeFrom_4 ?_
      refine va_alen (v := nI a) hx hb hK hP 1 0 rfl rfl rfl dX2_freeFrom_7 ?_
      refine lv_icmp_ge (tgt := 28) hx hb dX2_freeFrom_8 (by decide) (fun c8 => ?_) (fun c8 => ?_)
      · skip
        have c8 : a ≤ i := (nI_leI (a := a) (b := i) (by omega) (by omega)).mp c8
        refine lv_iconst (v := (-1)) hx hb dX2_freeFrom_28 (by decide) ?_
        exact ct_iret hx hb hr hlocks (by rw [ex]; exact (fd_0' (by omega)).symm) (rfl) hP hD hS dX2_freeFrom_29
      · skip
        have c8 : ¬ a ≤ i := fun h => c8 ((nI_leI (a := a) (b := i) (by omega) (by omega)).mpr h)
        refine lv_aload_n hx hb dX2_freeFrom_11 rfl (lv_at hl 1 rfl) ?_
        refine va_get (D := D) (cl := vwCl) (ci := 2) (v := .ref hM) (C := RX2) (T := TX2) (N := 1) hx hb hts hiX2 hown hK hP 0 rfl rfl 0 (by decide) hk0 (fun _ h9 => h9) rfl dX2_freeFrom_12 ?_
        refine lv_iload_n hx hb dX2_freeFrom_15 rfl (lv_at hl 0 rfl) ?_
        refine ct_iald hx hb hK hP 1 0 (k := i) rfl rfl (by omega) (by omega) dX2_freeFrom_16 ?_
        refine lv_if_ne (tgt := 22) hx hb dX2_freeFrom_17 (by decide) (fun c17 => ?_) (fun c17 => ?_)
        · skip
          refine lv_iinc (v := nI (i + 1)) (lv' := [(2, .int (nI (i + 1))), (0, .ref hR), (1, .int (nI n))]) hx hb dX2_freeFrom_22 hl (k := 0) rfl (nI_add i 1) (by decide) rfl (fun ls hl => ?_)
          refine lv_goto (tgt := 2) hx hb dX2_freeFrom_25 (by decide) ?_
          exact ih2 (i + 1) (by omega) (by rw [ex]; exact fd_n' (P := fun p => M p = 0) c17 (by omega)) (by omega) _ _ hP hD hS ls (lv_sub hl [0, 1, 2] rfl)
        · skip
          refine lv_iload_n hx hb dX2_freeFrom_20 rfl (lv_at hl 0 rfl) ?_
          exact ct_iret hx hb hr hlocks (by rw [ex]; exact (fd_t' (P := fun p => M p = 0) c17 (by omega)).symm) (rfl) hP hD hS dX2_freeFrom_21
  exact loop2 _ n (by omega) (rfl) (Nat.lt_succ_self _) _ _ hP hD hS ls (lv_sub hl [0, 1, 2] rfl)
set_option maxHeartbeats 4000000 in
set_option maxRecDepth 100000 in
theorem c_X2_markTold (l : Launch) (D : va_G) (cI cZ : ClassId) (hR hM hd hB a q st n : Nat) (k : Int32) (M f : Nat → Int32) (h1 : q < a) (h2 : st + n ≤ 48) (ha : a ≤ 120) (hok : pg_ok f a (q * 48 + st) n) : CtV l yX2_markTold wsX2_markTold ({ frames := 1, cells := 0, slots := 0, locals := 22 }) D vwCl (ct_T cI cZ) [.ref hR, .ref hd, .int (nI q), .int (nI st), .int (nI n), .int k] [(hR, .inr (2, [.ref hM])), (hM, .inl (cI, a, .inl M)), (hd, .inr (0, [.int (nI a), .ref hB])), (hB, .inl (cI, a * 48, .inl f))] [(hR, .inr (2, [.ref hM])), (hM, .inl (cI, a, .inl (mt_fold f (q * 48 + st) (mk_bit k) M n))), (hd, .inr (0, [.int (nI a), .ref hB])), (hB, .inl (cI, a * 48, .inl f))] := by
  refine ct_of (Qf := ct_Qv D vwCl [(hR, .inr (2, [.ref hM])), (hM, .inl (cI, a, .inl (mt_fold f (q * 48 + st) (mk_bit k) M n))), (hd, .inr (0, [.int (nI a), .ref hB])), (hB, .inl (cI, a * 48, .inl f))]) (cc := cX2_markTold) (maxL := 8) (ret := none) [(0, .ref hR), (1, .ref hd), (2, .int (nI q)), (3, .int (nI st)), (4, .int (nI n)), (5, .int k)] (by decide) rfl (Nat.le_of_ble_eq_true rfl) rfl ?_
  intro p e s m below meth c hx hb hr hts hown hlocks hml hnm A hA hK hN hP hD hS ls hl
  have hown : s.vm.findClass RX2 = some m.cls := hown
  have hk0 := hts (.fieldLink RX2 9 "DesignPages$Reach" "marks" "[I") (by decide +kernel)
  have hiX2 : ∀ w ∈ wsX20, w ∈ wsX2_markTold := by decide +kernel
  refine lv_iconst (v := 0) hx hb dX2_markTold_0 (by decide) ?_
  refine lv_istore (lv' := [(6, .int 0), (0, .ref hR), (1, .ref hd), (2, .int (nI q)), (3, .int (nI st)), (4, .int (nI n)), (5, .int k)]) hx hb dX2_markTold_1 hl (by decide) rfl (fun ls hl => ?_)
  have loop3 : ∀ (n3 : Nat) (i : Nat) (G : Nat → Int32), i ≤ n → G = mt_fold f (q * 48 + st) (mk_bit k) M i → n - i < n3 → ∀ (H : Heap) (locs : List Loc), va_P D vwCl [(hR, .inr (2, [.ref hM])), (hM, .inl (cI, a, .inl G)), (hd, .inr (0, [.int (nI a), .ref hB])), (hB, .inl (cI, a * 48, .inl f))] H → va_D A [(hR, .inr (2, [.ref hM])), (hM, .inl (cI, a, .inl G)), (hd, .inr (0, [.int (nI a), .ref hB])), (hB, .inl (cI, a * 48, .inl f))] → va_S A s.heap H locs → ∀ (ls : Array Slot), lv_has ls 8 [(6, .int (nI i)), (0, .ref hR), (1, .ref hd), (2, .int (nI q)), (3, .int (nI st)), (4, .int (nI n)), (5, .int k)] → W p l e ({ frames := 1, cells := 0, slots := 0, locals := 22 }) s m ([.ref hR, .ref hd, .int (nI q), .int (nI st), .int (nI n), .int k] : List Value).toArray below meth c H locs 0 0 (MQ below (ct_Qv D vwCl [(hR, .inr (2, [.ref hM])), (hM, .inl (cI, a, .inl (mt_fold f (q * 48 + st) (mk_bit k) M n))), (hd, .inr (0, [.int (nI a), .ref hB])), (hB, .inl (cI, a * 48, .inl f))] A) ([.ref hR, .ref hd, .int (nI q), .int (nI st), .int (nI n), .int k] : List Value).toArray s 0 0 A) (F0 m 3 ls []) := by
    intro n3
    induction n3 with
    | zero =>
      intro i G _ _ hm
      exact absurd hm (Nat.not_lt_zero _)
    | succ n3 ih3 =>
      intro i G hi ex hm3 H locs hP hD hS ls hl
      refine lv_iload hx hb dX2_markTold_3 (lv_at hl 0 rfl) ?_
      refine lv_iload hx hb dX2_markTold_5 (lv_at hl 5 rfl) ?_
      refine lv_icmp_ge (tgt := 47) hx hb dX2_markTold_7 (by decide) (fun c7 => ?_) (fun c7 => ?_)
      · skip
        have c7 : n ≤ i := (nI_leI (a := n) (b := i) (by omega) (by omega)).mp c7
        exact ct_vret hx hb hr hlocks (by have e1 : i = n := (by omega); rw [ex, e1]) hP hD hS dX2_markTold_47
      · skip
        have c7 : ¬ n ≤ i := fun h => c7 ((nI_leI (a := n) (b := i) (by omega) (by omega)).mpr h)
        refine lv_aload_n hx hb dX2_markTold_10 rfl (lv_at hl 2 rfl) ?_
        refine lv_iload_n hx hb dX2_markTold_11 rfl (lv_at hl 3 rfl) ?_
        refine lv_iload_n hx hb dX2_markTold_12 rfl (lv_at hl 4 rfl) ?_
        refine lv_iload hx hb dX2_markTold_13 (lv_at hl 0 rfl) ?_
        refine lv_iadd hx hb dX2_markTold_15 ?_
        refine ct_top (y := nI (st + i)) (nI_add st i) ?_
        refine ct_calli (w := [(hd, .inr (0, [.int (nI a), .ref hB])), (hB, .inl (cI, a * 48, .inl f))]) (w' := [(hd, .inr (0, [.int (nI a), .ref hB])), (hB, .inl (cI, a * 48, .inl f))]) (va_runV (As := [.int (nI q), .int (nI (st + i))]) (rest := []) ⟨hx, hb, hml, hown, hts⟩ (c_X0_at l D cI cZ hd hB a q (st + i) f (by omega) (by omega) (by omega) _) (cwV 2 hts gX2_markTold_X0_at rfl rfl rfl (by decide +kernel) ⟨Nat.le_of_ble_eq_true rfl, Nat.le_of_ble_eq_true rfl⟩) (ct_preV (w := [(hd, .inr (0, [.int (nI a), .ref hB])), (hB, .inl (cI, a * 48, .inl f))]) (ci := 0) (i0 := 2) hK hN hP hD [2, 3] (by decide) rfl rfl rfl) rfl rfl hl.1 rfl (lv_room (Nat.le_of_ble_eq_true rfl)) dX2_markTold_16 ⟨Nat.le_of_ble_eq_true rfl, Nat.le_of_ble_eq_true rfl⟩) hP hD hS hA [2, 3] rfl [hd, hB] rfl rfl (fun H locs hP hD hS => ?_)
        have hP : va_P D vwCl [(hR, .inr (2, [.ref hM])), (hM, .inl (cI, a, .inl G)), (hd, .inr (0, [.int (nI a), .ref hB])), (hB, .inl (cI, a * 48, .inl f))] _ := hP
        have hD : va_D A [(hR, .inr (2, [.ref hM])), (hM, .inl (cI, a, .inl G)), (hd, .inr (0, [.int (nI a), .ref hB])), (hB, .inl (cI, a * 48, .inl f))] := hD
        have hnv := pg_one_nv (hok i (by omega)) ha (by omega)
        have e19 : q * 48 + (st + i) = q * 48 + st + i := by omega
        refine ct_top (y := nI (nv (f (q * 48 + st + i)))) (by rw [e19]; exact hnv.1) ?_
        have hnv2 := hnv.2.1
        refine lv_istore (lv' := [(7, .int (nI (nv (f (q * 48 + st + i))))), (6, .int (nI i)), (0, .ref hR), (1, .ref hd), (2, .int (nI q)), (3, .int (nI st)), (4, .int (nI n)), (5, .int k)]) hx hb dX2_markTold_19 hl (by decide) rfl (fun ls hl => ?_)
        refine lv_iload hx hb dX2_markTold_21 (lv_at hl 0 rfl) ?_
        refine lv_if_eq (tgt := 41) hx hb dX2_markTold_23 (by decide) (fun c23 => ?_) (fun c23 => ?_)
        · skip
          have c23 : (nv (f (q * 48 + st + i))) = 0 := (nI_eq (a := (nv (f (q * 48 + st + i)))) (b := 0) (by omega) (by omega)).mp c23
          refine lv_iinc (v := nI (i + 1)) (lv' := [(6, .int (nI (i + 1))), (7, .int (nI (nv (f (q * 48 + st + i))))), (0, .ref hR), (1, .ref hd), (2, .int (nI q)), (3, .int (nI st)), (4, .int (nI n)), (5, .int k)]) hx hb dX2_markTold_41 hl (k := 1) rfl (nI_add i 1) (by decide) rfl (fun ls hl => ?_)
          refine lv_goto (tgt := 3) hx hb dX2_markTold_44 (by decide) ?_
          exact ih3 (i + 1) G (by omega) (by rw [mt_s0 ((nv_0 hnv.1).mp c23)]; exact ex) (by omega) _ _ hP hD hS ls (lv_sub hl [0, 2, 3, 4, 5, 6, 7] rfl)
        · skip
          have c23 : ¬ (nv (f (q * 48 + st + i))) = 0 := fun h => c23 ((nI_eq (a := (nv (f (q * 48 + st + i)))) (b := 0) (by omega) (by omega)).mpr h)
          refine lv_aload_n hx hb dX2_markTold_26 rfl (lv_at hl 2 rfl) ?_
          refine va_get (D := D) (cl := vwCl) (ci := 2) (v := .ref hM) (C := RX2) (T := TX2) (N := 1) hx hb hts hiX2 hown hK hP 0 rfl rfl 0 (by decide) hk0 (fun _ h9 => h9) rfl dX2_markTold_27 ?_
          refine lv_iload hx hb dX2_markTold_30 (lv_at hl 0 rfl) ?_
          refine lv_dup2_11 hx hb dX2_markTold_32 rfl rfl ?_
          refine ct_iald hx hb hK hP 1 0 (k := (nv (f (q * 48 + st + i)))) rfl rfl (by omega) (by omega) dX2_markTold_33 ?_
          refine lv_iload hx hb dX2_markTold_34 (lv_at hl 7 rfl) ?_
          refine ct_calli (w := []) (w' := []) (va_runS (As := [.int k]) (rest := [.int (G (nv (f (q * 48 + st + i)))), .int (nI (nv (f (q * 48 + st + i)))), .ref hM]) ⟨hx, hb, hml, hown, hts⟩ (c_X2_markOf l D cI cZ k _) (va_cwS 1 hts gX2_markTold_X2_markOf rfl rfl rfl (by decide +kernel) ⟨Nat.le_of_ble_eq_true rfl, Nat.le_of_ble_eq_true rfl⟩) (ct_preS (w := []) hK hN hP hD [] (by decide) rfl) rfl rfl hl.1 rfl (lv_room (Nat.le_of_ble_eq_true rfl)) dX2_markTold_36 ⟨Nat.le_of_ble_eq_true rfl, Nat.le_of_ble_eq_true rfl⟩) hP hD hS hA [] rfl [] rfl rfl (fun H locs hP hD hS => ?_)
          have hP : va_P D vwCl [(hR, .inr (2, [.ref hM])), (hM, .inl (cI, a, .inl G)), (hd, .inr (0, [.int (nI a), .ref hB])), (hB, .inl (cI, a * 48, .inl f))] _ := hP
          have hD : va_D A [(hR, .inr (2, [.ref hM])), (hM, .inl (cI, a, .inl G)), (hd, .inr (0, [.int (nI a), .ref hB])), (hB, .inl (cI, a * 48, .inl f))] := hD
          refine lv_ior hx hb dX2_markTold_39 ?_
          refine ct_iast hx hb hK hP hD hS 1 0 (k := (nv (f (q * 48 + st + i)))) (x := ((G (nv (f (q * 48 + st + i)))) ||| (mk_bit k))) rfl rfl (by omega) (by omega) dX2_markTold_40 (fun H locs hP hD hS => ?_)
          have hP : va_P D vwCl [(hR, .inr (2, [.ref hM])), (hM, .inl (cI, a, .inl (upd G (nv (f (q * 48 + st + i))) ((G (nv (f (q * 48 + st + i)))) ||| (mk_bit k))))), (hd, .inr (0, [.int (nI a), .ref hB])), (hB, .inl (cI, a * 48, .inl f))] _ := hP
          have hD : va_D A [(hR, .inr (2, [.ref hM])), (hM, .inl (cI, a, .inl (upd G (nv (f (q * 48 + st + i))) ((G (nv (f (q * 48 + st + i)))) ||| (mk_bit k))))), (hd, .inr (0, [.int (nI a), .ref hB])), (hB, .inl (cI, a * 48, .inl f))] := hD
          refine lv_iinc (v := nI (i + 1)) (lv' := [(6, .int (nI (i + 1))), (7, .int (nI (nv (f (q * 48 + st + i))))), (0, .ref hR), (1, .ref hd), (2, .int (nI q)), (3, .int (nI st)), (4, .int (nI n)), (5, .int k)]) hx hb dX2_markTold_41 hl (k := 1) rfl (nI_add i 1) (by decide) rfl (fun ls hl => ?_)
          refine lv_goto (tgt := 3) hx hb dX2_markTold_44 (by decide) ?_
          exact ih3 (i + 1) (upd G (nv (f (q * 48 + st + i))) ((G (nv (f (q * 48 + st + i)))) ||| (mk_bit k))) (by omega) (by rw [mt_s1 (fun h => c23 ((nv_0 hnv.1).mpr h)), ← ex]) (by omega) _ _ hP hD hS ls (lv_sub hl [0, 2, 3, 4, 5, 6, 7] rfl)
  exact loop3 _ 0 M (Nat.zero_le _) (rfl) (Nat.lt_succ_self _) _ _ hP hD hS ls (lv_sub hl [0, 1, 2, 3, 4, 5, 6] rfl)
set_option maxHeartbeats 4000000 in
set_option maxRecDepth 100000 in
theorem c_X2_lookAtAll (l : Launch) (D : va_G) (cI cZ : ClassId) (hR hM hd hB a : Nat) (k : Int32) (M f : Nat → Int32) (ha : a ≤ 120) : CtV l yX2_lookAtAll wsX2_lookAtAll ({ frames := 3, cells := 0, slots := 0, locals := 69 }) D vwCl (ct_T cI cZ) [.ref hR, .ref hd, .int k] [(hR, .inr (2, [.ref hM])), (hM, .inl (cI, a, .inl M)), (hd, .inr (0, [.int (nI a), .ref hB])), (hB, .inl (cI, a * 48, .inl f))] [(hR, .inr (2, [.ref hM])), (hM, .inl (cI, a, .inl (la_fold f a k M a))), (hd, .inr (0, [.int (nI a), .ref hB])), (hB, .inl (cI, a * 48, .inl f))] := by
  refine ct_of (Qf := ct_Qv D vwCl [(hR, .inr (2, [.ref hM])), (hM, .inl (cI, a, .inl (la_fold f a k M a))), (hd, .inr (0, [.int (nI a), .ref hB])), (hB, .inl (cI, a * 48, .inl f))]) (cc := cX2_lookAtAll) (maxL := 4) (ret := none) [(0, .ref hR), (1, .ref hd), (2, .int k)] (by decide) rfl (Nat.le_of_ble_eq_true rfl) rfl ?_
  intro p e s m below meth c hx hb hr hts hown hlocks hml hnm A hA hK hN hP hD hS ls hl
  have hown : s.vm.findClass RX2 = some m.cls := hown
  have hk0 := hts (.fieldLink RX2 9 "DesignPages$Reach" "marks" "[I") (by decide +kernel)
  have hiX2 : ∀ w ∈ wsX20, w ∈ wsX2_lookAtAll := by decide +kernel
  refine lv_iconst (v := 0) hx hb dX2_lookAtAll_0 (by decide) ?_
  refine lv_istore_n (lv' := [(3, .int 0), (0, .ref hR), (1, .ref hd), (2, .int k)]) hx hb dX2_lookAtAll_1 rfl hl (by decide) rfl (fun ls hl => ?_)
  have loop2 : ∀ (n2 : Nat) (i : Nat) (G : Nat → Int32), i ≤ a → G = la_fold f a k M i → a - i < n2 → ∀ (H : Heap) (locs : List Loc), va_P D vwCl [(hR, .inr (2, [.ref hM])), (hM, .inl (cI, a, .inl G)), (hd, .inr (0, [.int (nI a), .ref hB])), (hB, .inl (cI, a * 48, .inl f))] H → va_D A [(hR, .inr (2, [.ref hM])), (hM, .inl (cI, a, .inl G)), (hd, .inr (0, [.int (nI a), .ref hB])), (hB, .inl (cI, a * 48, .inl f))] → va_S A s.heap H locs → ∀ (ls : Array Slot), lv_has ls 4 [(3, .int (nI i)), (0, .ref hR), (1, .ref hd), (2, .int k)] → W p l e ({ frames := 3, cells := 0, slots := 0, locals := 69 }) s m ([.ref hR, .ref hd, .int k] : List Value).toArray below meth c H locs 0 0 (MQ below (ct_Qv D vwCl [(hR, .inr (2, [.ref hM])), (hM, .inl (cI, a, .inl (la_fold f a k M a))), (hd, .inr (0, [.int (nI a), .ref hB])), (hB, .inl (cI, a * 48, .inl f))] A) ([.ref hR, .ref hd, .int k] : List Value).toArray s 0 0 A) (F0 m 2 ls []) := by
    intro n2
    induction n2 with
    | zero =>
      intro i G _ _ hm
      exact absurd hm (Nat.not_lt_zero _)
    | succ n2 ih2 =>
      intro i G hi ex hm2 H locs hP hD hS ls hl
      refine lv_iload_n hx hb dX2_lookAtAll_2 rfl (lv_at hl 0 rfl) ?_
      refine lv_aload_n hx hb dX2_lookAtAll_3 rfl (lv_at hl 1 rfl) ?_
      refine va_get (D := D) (cl := vwCl) (ci := 2) (v := .ref hM) (C := RX2) (T := TX2) (N := 1) hx hb hts hiX2 hown hK hP 0 rfl rfl 0 (by decide) hk0 (fun _ h9 => h9) rfl dX2_lookAtAll_4 ?_
      refine va_alen (v := nI a) hx hb hK hP 1 0 rfl rfl rfl dX2_lookAtAll_7 ?_
      refine lv_icmp_ge (tgt := 90) hx hb dX2_lookAtAll_8 (by decide) (fun c8 => ?_) (fun c8 => ?_)
      · skip
        have c8 : a ≤ i := (nI_leI (a := a) (b := i) (by omega) (by omega)).mp c8
        exact ct_vret hx hb hr hlocks (by have e1 : i = a := (by omega); rw [ex, e1]) hP hD hS dX2_lookAtAll_90
      · skip
        have c8 : ¬ a ≤ i := fun h => c8 ((nI_leI (a := a) (b := i) (by omega) (by omega)).mpr h)
        refine lv_aload_n hx hb dX2_lookAtAll_11 rfl (lv_at hl 1 rfl) ?_
        refine va_get (D := D) (cl := vwCl) (ci := 2) (v := .ref hM) (C := RX2) (T := TX2) (N := 1) hx hb hts hiX2 hown hK hP 0 rfl rfl 0 (by decide) hk0 (fun _ h9 => h9) rfl dX2_lookAtAll_12 ?_
        refine lv_iload_n hx hb dX2_lookAtAll_15 rfl (lv_at hl 0 rfl) ?_
        refine ct_iald hx hb hK hP 1 0 (k := i) rfl rfl (by omega) (by omega) dX2_lookAtAll_16 ?_
        refine lv_iload_n hx hb dX2_lookAtAll_17 rfl (lv_at hl 3 rfl) ?_
        refine ct_calli (w := []) (w' := []) (va_runS (As := [.int k]) (rest := [.int (G i)]) ⟨hx, hb, hml, hown, hts⟩ (c_X2_markOf l D cI cZ k _) (va_cwS 1 hts gX2_lookAtAll_X2_markOf rfl rfl rfl (by decide +kernel) ⟨Nat.le_of_ble_eq_true rfl, Nat.le_of_ble_eq_true rfl⟩) (ct_preS (w := []) hK hN hP hD [] (by decide) rfl) rfl rfl hl.1 rfl (lv_room (Nat.le_of_ble_eq_true rfl)) dX2_lookAtAll_18 ⟨Nat.le_of_ble_eq_true rfl, Nat.le_of_ble_eq_true rfl⟩) hP hD hS hA [] rfl [] rfl rfl (fun H locs hP hD hS => ?_)
        have hP : va_P D vwCl [(hR, .inr (2, [.ref hM])), (hM, .inl (cI, a, .inl G)), (hd, .inr (0, [.int (nI a), .ref hB])), (hB, .inl (cI, a * 48, .inl f))] _ := hP
        have hD : va_D A [(hR, .inr (2, [.ref hM])), (hM, .inl (cI, a, .inl G)), (hd, .inr (0, [.int (nI a), .ref hB])), (hB, .inl (cI, a * 48, .inl f))] := hD
        refine lv_iand hx hb dX2_lookAtAll_21 ?_
        refine lv_if_ne (tgt := 28) hx hb dX2_lookAtAll_22 (by decide) (fun c22 => ?_) (fun c22 => ?_)
        · skip
          refine lv_aload_n hx hb dX2_lookAtAll_28 rfl (lv_at hl 2 rfl) ?_
          refine lv_iload_n hx hb dX2_lookAtAll_29 rfl (lv_at hl 0 rfl) ?_
          refine lv_iload_n hx hb dX2_lookAtAll_30 rfl (lv_at hl 3 rfl) ?_
          refine ct_calli (w := [(hd, .inr (0, [.int (nI a), .ref hB])), (hB, .inl (cI, a * 48, .inl f))]) (w' := [(hd, .inr (0, [.int (nI a), .ref hB])), (hB, .inl (cI, a * 48, .inl f))]) (va_runV (As := [.int (nI i), .int k]) (rest := []) ⟨hx, hb, hml, hown, hts⟩ (c_X0_isRight l D cI cZ hd hB a i k f (by omega) (by omega) _) (cwV 2 hts gX2_lookAtAll_X0_isRight rfl rfl rfl (by decide +kernel) ⟨Nat.le_of_ble_eq_true rfl, Nat.le_of_ble_eq_true rfl⟩) (ct_preV (w := [(hd, .inr (0, [.int (nI a), .ref hB])), (hB, .inl (cI, a * 48, .inl f))]) (ci := 0) (i0 := 2) hK hN hP hD [2, 3] (by decide) rfl rfl rfl) rfl rfl hl.1 rfl (lv_room (Nat.le_of_ble_eq_true rfl)) dX2_lookAtAll_31 ⟨Nat.le_of_ble_eq_true rfl, Nat.le_of_ble_eq_true rfl⟩) hP hD hS hA [2, 3] rfl [hd, hB] rfl rfl (fun H locs hP hD hS => ?_)
          have hP : va_P D vwCl [(hR, .inr (2, [.ref hM])), (hM, .inl (cI, a, .inl G)), (hd, .inr (0, [.int (nI a), .ref hB])), (hB, .inl (cI, a * 48, .inl f))] _ := hP
          have hD : va_D A [(hR, .inr (2, [.ref hM])), (hM, .inl (cI, a, .inl G)), (hd, .inr (0, [.int (nI a), .ref hB])), (hB, .inl (cI, a * 48, .inl f))] := hD
          refine lv_if_ne (tgt := 50) hx hb dX2_lookAtAll_34 (by decide) (fun c34 => ?_) (fun c34 => ?_)
          · skip
            refine lv_iload_n hx hb dX2_lookAtAll_50 rfl (lv_at hl 3 rfl) ?_
            refine lv_iconst (v := 1) hx hb dX2_lookAtAll_51 (by decide) ?_
            refine lv_icmp_ne (tgt := 69) hx hb dX2_lookAtAll_52 (by decide) (fun c52 => ?_) (fun c52 => ?_)
            · skip
              refine lv_iload_n hx hb dX2_lookAtAll_69 rfl (lv_at hl 3 rfl) ?_
              refine lv_iconst (v := 2) hx hb dX2_lookAtAll_70 (by decide) ?_
              refine lv_icmp_ne (tgt := 84) hx hb dX2_lookAtAll_71 (by decide) (fun c71 => ?_) (fun c71 => ?_)
              · skip
                refine lv_iinc (v := nI (i + 1)) (lv' := [(3, .int (nI (i + 1))), (0, .ref hR), (1, .ref hd), (2, .int k)]) hx hb dX2_lookAtAll_84 hl (k := 0) rfl (nI_add i 1) (by decide) rfl (fun ls hl => ?_)
                refine lv_goto (tgt := 2) hx hb dX2_lookAtAll_87 (by decide) ?_
                exact ih2 (i + 1) G (by omega) (by subst ex; exact (la_3 c22 (b2i_n0 c34) c52 c71).symm) (by omega) _ _ hP hD hS ls (lv_sub hl [0, 1, 2, 3] rfl)
              · skip
                refine lv_aload_n hx hb dX2_lookAtAll_74 rfl (lv_at hl 1 rfl) ?_
                refine lv_aload_n hx hb dX2_lookAtAll_75 rfl (lv_at hl 2 rfl) ?_
                refine lv_iload_n hx hb dX2_lookAtAll_76 rfl (lv_at hl 0 rfl) ?_
                refine lv_iconst (v := 2) hx hb dX2_lookAtAll_77 (by decide) ?_
                refine lv_bipush (v := 32) hx hb dX2_lookAtAll_78 (by decide) ?_
                refine lv_iconst (v := 3) hx hb dX2_lookAtAll_80 (by decide) ?_
                refine ct_callv (w := [(hR, .inr (2, [.ref hM])), (hM, .inl (cI, a, .inl G)), (hd, .inr (0, [.int (nI a), .ref hB])), (hB, .inl (cI, a * 48, .inl f))]) (w' := [(hR, .inr (2, [.ref hM])), (hM, .inl (cI, a, .inl (mt_fold f (i * 48 + 2) (mk_bit 3) G 32))), (hd, .inr (0, [.int (nI a), .ref hB])), (hB, .inl (cI, a * 48, .inl f))]) (va_runV (As := [.ref hd, .int (nI i), .int 2, .int 32, .int 3]) (rest := []) ⟨hx, hb, hml, hown, hts⟩ (c_X2_markTold l D cI cZ hR hM hd hB a i 2 32 3 G f (by omega) (by omega) (by omega) ((b2i_n0 c34).2.2.2.1 c71) _) (cwV 5 hts gX2_lookAtAll_X2_markTold rfl rfl rfl (by decide +kernel) ⟨Nat.le_of_ble_eq_true rfl, Nat.le_of_ble_eq_true rfl⟩) (ct_preV (w := [(hR, .inr (2, [.ref hM])), (hM, .inl (cI, a, .inl G)), (hd, .inr (0, [.int (nI a), .ref hB])), (hB, .inl (cI, a * 48, .inl f))]) (ci := 2) (i0 := 0) hK hN hP hD [0, 1, 2, 3] (by decide) rfl rfl rfl) rfl rfl hl.1 rfl (lv_room (Nat.le_of_ble_eq_true rfl)) dX2_lookAtAll_81 ⟨Nat.le_of_ble_eq_true rfl, Nat.le_of_ble_eq_true rfl⟩) hP hD hS hA [0, 1, 2, 3] rfl [hR, hM, hd, hB] rfl rfl (fun H locs hP hD hS => ?_)
                have hP : va_P D vwCl [(hR, .inr (2, [.ref hM])), (hM, .inl (cI, a, .inl (mt_fold f (i * 48 + 2) (mk_bit 3) G 32))), (hd, .inr (0, [.int (nI a), .ref hB])), (hB, .inl (cI, a * 48, .inl f))] _ := hP
                have hD : va_D A [(hR, .inr (2, [.ref hM])), (hM, .inl (cI, a, .inl (mt_fold f (i * 48 + 2) (mk_bit 3) G 32))), (hd, .inr (0, [.int (nI a), .ref hB])), (hB, .inl (cI, a * 48, .inl f))] := hD
                refine lv_iinc (v := nI (i + 1)) (lv' := [(3, .int (nI (i + 1))), (0, .ref hR), (1, .ref hd), (2, .int k)]) hx hb dX2_lookAtAll_84 hl (k := 0) rfl (nI_add i 1) (by decide) rfl (fun ls hl => ?_)
                refine lv_goto (tgt := 2) hx hb dX2_lookAtAll_87 (by decide) ?_
                exact ih2 (i + 1) (mt_fold f (i * 48 + 2) (mk_bit 3) G 32) (by omega) (by subst ex; exact (la_2 c22 (b2i_n0 c34) c52 c71).symm) (by omega) _ _ hP hD hS ls (lv_sub hl [0, 1, 2, 3] rfl)
            · skip
              refine lv_aload_n hx hb dX2_lookAtAll_55 rfl (lv_at hl 1 rfl) ?_
              refine lv_aload_n hx hb dX2_lookAtAll_56 rfl (lv_at hl 2 rfl) ?_
              refine lv_iload_n hx hb dX2_lookAtAll_57 rfl (lv_at hl 0 rfl) ?_
              refine lv_bipush (v := 9) hx hb dX2_lookAtAll_58 (by decide) ?_
              refine lv_bipush (v := 32) hx hb dX2_lookAtAll_60 (by decide) ?_
              refine lv_iconst (v := 2) hx hb dX2_lookAtAll_62 (by decide) ?_
              refine ct_callv (w := [(hR, .inr (2, [.ref hM])), (hM, .inl (cI, a, .inl G)), (hd, .inr (0, [.int (nI a), .ref hB])), (hB, .inl (cI, a * 48, .inl f))]) (w' := [(hR, .inr (2, [.ref hM])), (hM, .inl (cI, a, .inl (mt_fold f (i * 48 + 9) (mk_bit 2) G 32))), (hd, .inr (0, [.int (nI a), .ref hB])), (hB, .inl (cI, a * 48, .inl f))]) (va_runV (As := [.ref hd, .int (nI i), .int 9, .int 32, .int 2]) (rest := []) ⟨hx, hb, hml, hown, hts⟩ (c_X2_markTold l D cI cZ hR hM hd hB a i 9 32 2 G f (by omega) (by omega) (by omega) (((b2i_n0 c34).2.2.1 c52).2) _) (cwV 5 hts gX2_lookAtAll_X2_markTold rfl rfl rfl (by decide +kernel) ⟨Nat.le_of_ble_eq_true rfl, Nat.le_of_ble_eq_true rfl⟩) (ct_preV (w := [(hR, .inr (2, [.ref hM])), (hM, .inl (cI, a, .inl G)), (hd, .inr (0, [.int (nI a), .ref hB])), (hB, .inl (cI, a * 48, .inl f))]) (ci := 2) (i0 := 0) hK hN hP hD [0, 1, 2, 3] (by decide) rfl rfl rfl) rfl rfl hl.1 rfl (lv_room (Nat.le_of_ble_eq_true rfl)) dX2_lookAtAll_63 ⟨Nat.le_of_ble_eq_true rfl, Nat.le_of_ble_eq_true rfl⟩) hP hD hS hA [0, 1, 2, 3] rfl [hR, hM, hd, hB] rfl rfl (fun H locs hP hD hS => ?_)
              have hP : va_P D vwCl [(hR, .inr (2, [.ref hM])), (hM, .inl (cI, a, .inl (mt_fold f (i * 48 + 9) (mk_bit 2) G 32))), (hd, .inr (0, [.int (nI a), .ref hB])), (hB, .inl (cI, a * 48, .inl f))] _ := hP
              have hD : va_D A [(hR, .inr (2, [.ref hM])), (hM, .inl (cI, a, .inl (mt_fold f (i * 48 + 9) (mk_bit 2) G 32))), (hd, .inr (0, [.int (nI a), .ref hB])), (hB, .inl (cI, a * 48, .inl f))] := hD
              refine lv_goto (tgt := 84) hx hb dX2_lookAtAll_66 (by decide) ?_
              refine lv_iinc (v := nI (i + 1)) (lv' := [(3, .int (nI (i + 1))), (0, .ref hR), (1, .ref hd), (2, .int k)]) hx hb dX2_lookAtAll_84 hl (k := 0) rfl (nI_add i 1) (by decide) rfl (fun ls hl => ?_)
              refine lv_goto (tgt := 2) hx hb dX2_lookAtAll_87 (by decide) ?_
              exact ih2 (i + 1) (mt_fold f (i * 48 + 9) (mk_bit 2) G 32) (by omega) (by subst ex; exact (la_1 c22 (b2i_n0 c34) c52).symm) (by omega) _ _ hP hD hS ls (lv_sub hl [0, 1, 2, 3] rfl)
          · skip
            refine lv_aload_n hx hb dX2_lookAtAll_37 rfl (lv_at hl 1 rfl) ?_
            refine va_get (D := D) (cl := vwCl) (ci := 2) (v := .ref hM) (C := RX2) (T := TX2) (N := 1) hx hb hts hiX2 hown hK hP 0 rfl rfl 0 (by decide) hk0 (fun _ h9 => h9) rfl dX2_lookAtAll_38 ?_
            refine lv_iload_n hx hb dX2_lookAtAll_41 rfl (lv_at hl 0 rfl) ?_
            refine lv_dup2_11 hx hb dX2_lookAtAll_42 rfl rfl ?_
            refine ct_iald hx hb hK hP 1 0 (k := i) rfl rfl (by omega) (by omega) dX2_lookAtAll_43 ?_
            refine lv_iconst (v := 1) hx hb dX2_lookAtAll_44 (by decide) ?_
            refine lv_ior hx hb dX2_lookAtAll_45 ?_
            refine ct_iast hx hb hK hP hD hS 1 0 (k := i) (x := ((G i) ||| 1)) rfl rfl (by omega) (by omega) dX2_lookAtAll_46 (fun H locs hP hD hS => ?_)
            have hP : va_P D vwCl [(hR, .inr (2, [.ref hM])), (hM, .inl (cI, a, .inl (upd G i ((G i) ||| 1)))), (hd, .inr (0, [.int (nI a), .ref hB])), (hB, .inl (cI, a * 48, .inl f))] _ := hP
            have hD : va_D A [(hR, .inr (2, [.ref hM])), (hM, .inl (cI, a, .inl (upd G i ((G i) ||| 1)))), (hd, .inr (0, [.int (nI a), .ref hB])), (hB, .inl (cI, a * 48, .inl f))] := hD
            refine lv_goto (tgt := 84) hx hb dX2_lookAtAll_47 (by decide) ?_
            refine lv_iinc (v := nI (i + 1)) (lv' := [(3, .int (nI (i + 1))), (0, .ref hR), (1, .ref hd), (2, .int k)]) hx hb dX2_lookAtAll_84 hl (k := 0) rfl (nI_add i 1) (by decide) rfl (fun ls hl => ?_)
            refine lv_goto (tgt := 2) hx hb dX2_lookAtAll_87 (by decide) ?_
            exact ih2 (i + 1) (upd G i ((G i) ||| 1)) (by omega) (by subst ex; exact (la_bad c22 (b2i_0.mp c34)).symm) (by omega) _ _ hP hD hS ls (lv_sub hl [0, 1, 2, 3] rfl)
        · skip
          refine lv_goto (tgt := 84) hx hb dX2_lookAtAll_25 (by decide) ?_
          refine lv_iinc (v := nI (i + 1)) (lv' := [(3, .int (nI (i + 1))), (0, .ref hR), (1, .ref hd), (2, .int k)]) hx hb dX2_lookAtAll_84 hl (k := 0) rfl (nI_add i 1) (by decide) rfl (fun ls hl => ?_)
          refine lv_goto (tgt := 2) hx hb dX2_lookAtAll_87 (by decide) ?_
          exact ih2 (i + 1) G (by omega) (by subst ex; exact (la_none c22).symm) (by omega) _ _ hP hD hS ls (lv_sub hl [0, 1, 2, 3] rfl)
  exact loop2 _ 0 M (Nat.zero_le _) (rfl) (Nat.lt_succ_self _) _ _ hP hD hS ls (lv_sub hl [0, 1, 2, 3] rfl)
set_option maxHeartbeats 4000000 in
set_option maxRecDepth 100000 in
theorem c_X2_walk (l : Launch) (D : va_G) (cI cZ : ClassId) (hR hM hd hB a o n : Nat) (M f : Nat → Int32) (ha : a ≤ 120) (h8 : 12 ≤ a) (ho : o ≤ n + 1) (hn : n ≤ 1000000) : CtV l yX2_walk wsX2_walk ({ frames := 4, cells := 0, slots := 0, locals := 92 }) D vwCl (ct_T cI cZ) [.ref hR, .ref hd, .int (nI o), .int (nI n)] [(hR, .inr (2, [.ref hM])), (hM, .inl (cI, a, .inl M)), (hd, .inr (0, [.int (nI a), .ref hB])), (hB, .inl (cI, a * 48, .inl f))] [(hR, .inr (2, [.ref hM])), (hM, .inl (cI, a, .inl (wk_marks f a o (n + 1 - o)))), (hd, .inr (0, [.int (nI a), .ref hB])), (hB, .inl (cI, a * 48, .inl f))] := by
  refine ct_of (Qf := ct_Qv D vwCl [(hR, .inr (2, [.ref hM])), (hM, .inl (cI, a, .inl (wk_marks f a o (n + 1 - o)))), (hd, .inr (0, [.int (nI a), .ref hB])), (hB, .inl (cI, a * 48, .inl f))]) (cc := cX2_walk) (maxL := 5) (ret := none) [(0, .ref hR), (1, .ref hd), (2, .int (nI o)), (3, .int (nI n))] (by decide) rfl (Nat.le_of_ble_eq_true rfl) rfl ?_
  intro p e s m below meth c hx hb hr hts hown hlocks hml hnm A hA hK hN hP hD hS ls hl
  have hown : s.vm.findClass RX2 = some m.cls := hown
  have hk0 := hts (.fieldLink RX2 9 "DesignPages$Reach" "marks" "[I") (by decide +kernel)
  have hk1 := hts (.static yX3_pageOfRoot) (by decide +kernel)
  have hk2 := hts (.initialized RX3) (by decide +kernel)
  have hiX2 : ∀ w ∈ wsX20, w ∈ wsX2_walk := by decide +kernel
  refine lv_aload_n hx hb dX2_walk_0 rfl (lv_at hl 0 rfl) ?_
  refine va_get (D := D) (cl := vwCl) (ci := 2) (v := .ref hM) (C := RX2) (T := TX2) (N := 1) hx hb hts hiX2 hown hK hP 0 rfl rfl 0 (by decide) hk0 (fun _ h9 => h9) rfl dX2_walk_1 ?_
  refine lv_iconst (v := 0) hx hb dX2_walk_4 (by decide) ?_
  refine ct_callv (w := [(hM, .inl (cI, a, .inl M))]) (w' := [(hM, .inl (cI, a, .inl (pg_fill M 0 a 0)))]) (va_runS (As := [.ref hM, .int 0]) (rest := []) ⟨hx, hb, hml, hown, hts⟩ (c_J7_fill_53178 l D cI cZ hM a 0 M (by omega) _) (va_cwS 2 hts gX2_walk_J7_fill_53178 rfl rfl rfl (by decide +kernel) ⟨Nat.le_of_ble_eq_true rfl, Nat.le_of_ble_eq_true rfl⟩) (ct_preS (w := [(hM, .inl (cI, a, .inl M))]) hK hN hP hD [1] (by decide) rfl) rfl rfl hl.1 rfl (lv_room (Nat.le_of_ble_eq_true rfl)) dX2_walk_5 ⟨Nat.le_of_ble_eq_true rfl, Nat.le_of_ble_eq_true rfl⟩) hP hD hS hA [1] rfl [hM] rfl rfl (fun H locs hP hD hS => ?_)
  have hP : va_P D vwCl [(hR, .inr (2, [.ref hM])), (hM, .inl (cI, a, .inl (pg_fill M 0 a 0))), (hd, .inr (0, [.int (nI a), .ref hB])), (hB, .inl (cI, a * 48, .inl f))] _ := hP
  have hD : va_D A [(hR, .inr (2, [.ref hM])), (hM, .inl (cI, a, .inl (pg_fill M 0 a 0))), (hd, .inr (0, [.int (nI a), .ref hB])), (hB, .inl (cI, a * 48, .inl f))] := hD
  obtain ⟨hP, hD⟩ := ct_refun (q0 := 1) (g := fun _ => 0) hP hD rfl (fun k hk => by unfold pg_fill; rw [if_pos ⟨Nat.zero_le _, hk⟩])
  have hP : va_P D vwCl [(hR, .inr (2, [.ref hM])), (hM, .inl (cI, a, .inl (fun _ => 0))), (hd, .inr (0, [.int (nI a), .ref hB])), (hB, .inl (cI, a * 48, .inl f))] _ := hP
  have hD : va_D A [(hR, .inr (2, [.ref hM])), (hM, .inl (cI, a, .inl (fun _ => 0))), (hd, .inr (0, [.int (nI a), .ref hB])), (hB, .inl (cI, a * 48, .inl f))] := hD
  refine lv_iload_n hx hb dX2_walk_8 rfl (lv_at hl 2 rfl) ?_
  refine lv_istore (lv' := [(4, .int (nI o)), (0, .ref hR), (1, .ref hd), (2, .int (nI o)), (3, .int (nI n))]) hx hb dX2_walk_9 hl (by decide) rfl (fun ls hl => ?_)
  have loop11 : ∀ (n11 : Nat) (j : Nat) (G : Nat → Int32), o + j ≤ n + 1 → G = rt_fold (fun _ => 0) o j → n + 1 - j < n11 → ∀ (H : Heap) (locs : List Loc), va_P D vwCl [(hR, .inr (2, [.ref hM])), (hM, .inl (cI, a, .inl G)), (hd, .inr (0, [.int (nI a), .ref hB])), (hB, .inl (cI, a * 48, .inl f))] H → va_D A [(hR, .inr (2, [.ref hM])), (hM, .inl (cI, a, .inl G)), (hd, .inr (0, [.int (nI a), .ref hB])), (hB, .inl (cI, a * 48, .inl f))] → va_S A s.heap H locs → ∀ (ls : Array Slot), lv_has ls 5 [(4, .int (nI (o + j))), (0, .ref hR), (1, .ref hd), (2, .int (nI o)), (3, .int (nI n))] → W p l e ({ frames := 4, cells := 0, slots := 0, locals := 92 }) s m ([.ref hR, .ref hd, .int (nI o), .int (nI n)] : List Value).toArray below meth c H locs 0 0 (MQ below (ct_Qv D vwCl [(hR, .inr (2, [.ref hM])), (hM, .inl (cI, a, .inl (wk_marks f a o (n + 1 - o)))), (hd, .inr (0, [.int (nI a), .ref hB])), (hB, .inl (cI, a * 48, .inl f))] A) ([.ref hR, .ref hd, .int (nI o), .int (nI n)] : List Value).toArray s 0 0 A) (F0 m 11 ls []) := by
    intro n11
    induction n11 with
    | zero =>
      intro j G _ _ hm
      exact absurd hm (Nat.not_lt_zero _)
    | succ n11 ih11 =>
      intro j G hj ex hm11 H locs hP hD hS ls hl
      refine lv_iload hx hb dX2_walk_11 (lv_at hl 0 rfl) ?_
      refine lv_iload_n hx hb dX2_walk_13 rfl (lv_at hl 4 rfl) ?_
      refine lv_icmp_gt (tgt := 40) hx hb dX2_walk_14 (by decide) (fun c14 => ?_) (fun c14 => ?_)
      · skip
        have c14 : n < (o + j) := (nI_ltI (a := n) (b := (o + j)) (by omega) (by omega)).mp c14
        refine lv_iconst (v := 1) hx hb dX2_walk_40 (by decide) ?_
        refine lv_istore (lv' := [(4, .int 1), (0, .ref hR), (1, .ref hd), (2, .int (nI o)), (3, .int (nI n))]) hx hb dX2_walk_41 hl (by decide) rfl (fun ls hl => ?_)
        refine lv_iload hx hb dX2_walk_43 (lv_at hl 0 rfl) ?_
        refine lv_iconst (v := 3) hx hb dX2_walk_45 (by decide) ?_
        refine lv_icmp_gt (tgt := 62) hx hb dX2_walk_46 (by decide) (fun c9 => absurd c9 (by decide)) (fun _ => ?_)
        refine lv_aload_n hx hb dX2_walk_49 rfl (lv_at hl 1 rfl) ?_
        refine lv_aload_n hx hb dX2_walk_50 rfl (lv_at hl 2 rfl) ?_
        refine lv_iload hx hb dX2_walk_51 (lv_at hl 0 rfl) ?_
        refine ct_callv (w := [(hR, .inr (2, [.ref hM])), (hM, .inl (cI, a, .inl G)), (hd, .inr (0, [.int (nI a), .ref hB])), (hB, .inl (cI, a * 48, .inl f))]) (w' := [(hR, .inr (2, [.ref hM])), (hM, .inl (cI, a, .inl (la_fold f a 1 G a))), (hd, .inr (0, [.int (nI a), .ref hB])), (hB, .inl (cI, a * 48, .inl f))]) (va_runV (As := [.ref hd, .int 1]) (rest := []) ⟨hx, hb, hml, hown, hts⟩ (c_X2_lookAtAll l D cI cZ hR hM hd hB a 1 G f (by omega) _) (cwV 2 hts gX2_walk_X2_lookAtAll rfl rfl rfl (by decide +kernel) ⟨Nat.le_of_ble_eq_true rfl, Nat.le_of_ble_eq_true rfl⟩) (ct_preV (w := [(hR, .inr (2, [.ref hM])), (hM, .inl (cI, a, .inl G)), (hd, .inr (0, [.int (nI a), .ref hB])), (hB, .inl (cI, a * 48, .inl f))]) (ci := 2) (i0 := 0) hK hN hP hD [0, 1, 2, 3] (by decide) rfl rfl rfl) rfl rfl hl.1 rfl (lv_room (Nat.le_of_ble_eq_true rfl)) dX2_walk_53 ⟨Nat.le_of_ble_eq_true rfl, Nat.le_of_ble_eq_true rfl⟩) hP hD hS hA [0, 1, 2, 3] rfl [hR, hM, hd, hB] rfl rfl (fun H locs hP hD hS => ?_)
        have hP : va_P D vwCl [(hR, .inr (2, [.ref hM])), (hM, .inl (cI, a, .inl (la_fold f a 1 G a))), (hd, .inr (0, [.int (nI a), .ref hB])), (hB, .inl (cI, a * 48, .inl f))] _ := hP
        have hD : va_D A [(hR, .inr (2, [.ref hM])), (hM, .inl (cI, a, .inl (la_fold f a 1 G a))), (hd, .inr (0, [.int (nI a), .ref hB])), (hB, .inl (cI, a * 48, .inl f))] := hD
        refine lv_iinc (v := 2) (lv' := [(4, .int 2), (0, .ref hR), (1, .ref hd), (2, .int (nI o)), (3, .int (nI n))]) hx hb dX2_walk_56 hl (k := 0) rfl (by decide) (by decide) rfl (fun ls hl => ?_)
        refine lv_goto (tgt := 43) hx hb dX2_walk_59 (by decide) ?_
        refine lv_iload hx hb dX2_walk_43 (lv_at hl 0 rfl) ?_
        refine lv_iconst (v := 3) hx hb dX2_walk_45 (by decide) ?_
        refine lv_icmp_gt (tgt := 62) hx hb dX2_walk_46 (by decide) (fun c9 => absurd c9 (by decide)) (fun _ => ?_)
        refine lv_aload_n hx hb dX2_walk_49 rfl (lv_at hl 1 rfl) ?_
        refine lv_aload_n hx hb dX2_walk_50 rfl (lv_at hl 2 rfl) ?_
        refine lv_iload hx hb dX2_walk_51 (lv_at hl 0 rfl) ?_
        refine ct_callv (w := [(hR, .inr (2, [.ref hM])), (hM, .inl (cI, a, .inl (la_fold f a 1 G a))), (hd, .inr (0, [.int (nI a), .ref hB])), (hB, .inl (cI, a * 48, .inl f))]) (w' := [(hR, .inr (2, [.ref hM])), (hM, .inl (cI, a, .inl (la_fold f a 2 (la_fold f a 1 G a) a))), (hd, .inr (0, [.int (nI a), .ref hB])), (hB, .inl (cI, a * 48, .inl f))]) (va_runV (As := [.ref hd, .int 2]) (rest := []) ⟨hx, hb, hml, hown, hts⟩ (c_X2_lookAtAll l D cI cZ hR hM hd hB a 2 (la_fold f a 1 G a) f (by omega) _) (cwV 2 hts gX2_walk_X2_lookAtAll rfl rfl rfl (by decide +kernel) ⟨Nat.le_of_ble_eq_true rfl, Nat.le_of_ble_eq_true rfl⟩) (ct_preV (w := [(hR, .inr (2, [.ref hM])), (hM, .inl (cI, a, .inl (la_fold f a 1 G a))), (hd, .inr (0, [.int (nI a), .ref hB])), (hB, .inl (cI, a * 48, .inl f))]) (ci := 2) (i0 := 0) hK hN hP hD [0, 1, 2, 3] (by decide) rfl rfl rfl) rfl rfl hl.1 rfl (lv_room (Nat.le_of_ble_eq_true rfl)) dX2_walk_53 ⟨Nat.le_of_ble_eq_true rfl, Nat.le_of_ble_eq_true rfl⟩) hP hD hS hA [0, 1, 2, 3] rfl [hR, hM, hd, hB] rfl rfl (fun H locs hP hD hS => ?_)
        have hP : va_P D vwCl [(hR, .inr (2, [.ref hM])), (hM, .inl (cI, a, .inl (la_fold f a 2 (la_fold f a 1 G a) a))), (hd, .inr (0, [.int (nI a), .ref hB])), (hB, .inl (cI, a * 48, .inl f))] _ := hP
        have hD : va_D A [(hR, .inr (2, [.ref hM])), (hM, .inl (cI, a, .inl (la_fold f a 2 (la_fold f a 1 G a) a))), (hd, .inr (0, [.int (nI a), .ref hB])), (hB, .inl (cI, a * 48, .inl f))] := hD
        refine lv_iinc (v := 3) (lv' := [(4, .int 3), (0, .ref hR), (1, .ref hd), (2, .int (nI o)), (3, .int (nI n))]) hx hb dX2_walk_56 hl (k := 0) rfl (by decide) (by decide) rfl (fun ls hl => ?_)
        refine lv_goto (tgt := 43) hx hb dX2_walk_59 (by decide) ?_
        refine lv_iload hx hb dX2_walk_43 (lv_at hl 0 rfl) ?_
        refine lv_iconst (v := 3) hx hb dX2_walk_45 (by decide) ?_
        refine lv_icmp_gt (tgt := 62) hx hb dX2_walk_46 (by decide) (fun c9 => absurd c9 (by decide)) (fun _ => ?_)
        refine lv_aload_n hx hb dX2_walk_49 rfl (lv_at hl 1 rfl) ?_
        refine lv_aload_n hx hb dX2_walk_50 rfl (lv_at hl 2 rfl) ?_
        refine lv_iload hx hb dX2_walk_51 (lv_at hl 0 rfl) ?_
        refine ct_callv (w := [(hR, .inr (2, [.ref hM])), (hM, .inl (cI, a, .inl (la_fold f a 2 (la_fold f a 1 G a) a))), (hd, .inr (0, [.int (nI a), .ref hB])), (hB, .inl (cI, a * 48, .inl f))]) (w' := [(hR, .inr (2, [.ref hM])), (hM, .inl (cI, a, .inl (la_fold f a 3 (la_fold f a 2 (la_fold f a 1 G a) a) a))), (hd, .inr (0, [.int (nI a), .ref hB])), (hB, .inl (cI, a * 48, .inl f))]) (va_runV (As := [.ref hd, .int 3]) (rest := []) ⟨hx, hb, hml, hown, hts⟩ (c_X2_lookAtAll l D cI cZ hR hM hd hB a 3 (la_fold f a 2 (la_fold f a 1 G a) a) f (by omega) _) (cwV 2 hts gX2_walk_X2_lookAtAll rfl rfl rfl (by decide +kernel) ⟨Nat.le_of_ble_eq_true rfl, Nat.le_of_ble_eq_true rfl⟩) (ct_preV (w := [(hR, .inr (2, [.ref hM])), (hM, .inl (cI, a, .inl (la_fold f a 2 (la_fold f a 1 G a) a))), (hd, .inr (0, [.int (nI a), .ref hB])), (hB, .inl (cI, a * 48, .inl f))]) (ci := 2) (i0 := 0) hK hN hP hD [0, 1, 2, 3] (by decide) rfl rfl rfl) rfl rfl hl.1 rfl (lv_room (Nat.le_of_ble_eq_true rfl)) dX2_walk_53 ⟨Nat.le_of_ble_eq_true rfl, Nat.le_of_ble_eq_true rfl⟩) hP hD hS hA [0, 1, 2, 3] rfl [hR, hM, hd, hB] rfl rfl (fun H locs hP hD hS => ?_)
        have hP : va_P D vwCl [(hR, .inr (2, [.ref hM])), (hM, .inl (cI, a, .inl (la_fold f a 3 (la_fold f a 2 (la_fold f a 1 G a) a) a))), (hd, .inr (0, [.int (nI a), .ref hB])), (hB, .inl (cI, a * 48, .inl f))] _ := hP
        have hD : va_D A [(hR, .inr (2, [.ref hM])), (hM, .inl (cI, a, .inl (la_fold f a 3 (la_fold f a 2 (la_fold f a 1 G a) a) a))), (hd, .inr (0, [.int (nI a), .ref hB])), (hB, .inl (cI, a * 48, .inl f))] := hD
        refine lv_iinc (v := 4) (lv' := [(4, .int 4), (0, .ref hR), (1, .ref hd), (2, .int (nI o)), (3, .int (nI n))]) hx hb dX2_walk_56 hl (k := 0) rfl (by decide) (by decide) rfl (fun ls hl => ?_)
        refine lv_goto (tgt := 43) hx hb dX2_walk_59 (by decide) ?_
        refine lv_iload hx hb dX2_walk_43 (lv_at hl 0 rfl) ?_
        refine lv_iconst (v := 3) hx hb dX2_walk_45 (by decide) ?_
        refine lv_icmp_gt (tgt := 62) hx hb dX2_walk_46 (by decide) (fun _ => ?_) (fun c9 => absurd c9 (by decide))
        exact ct_vret hx hb hr hlocks (by have e1 : n + 1 - o = j := (by omega); rw [ex]; unfold wk_marks; rw [e1]) hP hD hS dX2_walk_62
      · skip
        have c14 : ¬ n < (o + j) := fun h => c14 ((nI_ltI (a := n) (b := (o + j)) (by omega) (by omega)).mpr h)
        refine lv_aload_n hx hb dX2_walk_17 rfl (lv_at hl 1 rfl) ?_
        refine va_get (D := D) (cl := vwCl) (ci := 2) (v := .ref hM) (C := RX2) (T := TX2) (N := 1) hx hb hts hiX2 hown hK hP 0 rfl rfl 0 (by decide) hk0 (fun _ h9 => h9) rfl dX2_walk_18 ?_
        refine lv_iload hx hb dX2_walk_21 (lv_at hl 0 rfl) ?_
        refine ct_calli (w := []) (w' := []) (va_runSN (As := [.int (nI (o + j))]) (rest := [.ref hM]) ⟨hx, hb, hml, hown, hts⟩ (c_X3_pageOfRoot l D cI cZ (nI (o + j)) _) ⟨va_cnB 1 hts gX2_walk_X3_pageOfRoot_n21 rfl rfl rfl hN.2 hk2 (by decide +kernel) ⟨Nat.le_of_ble_eq_true rfl, Nat.le_of_ble_eq_true rfl⟩, hk1, trivial⟩ (ct_preS (w := []) hK hN hP hD [] (by decide) rfl) rfl rfl hl.1 rfl (lv_room (Nat.le_of_ble_eq_true rfl)) dX2_walk_23 ⟨Nat.le_of_ble_eq_true rfl, Nat.le_of_ble_eq_true rfl⟩) hP hD hS hA [] rfl [] rfl rfl (fun H locs hP hD hS => ?_)
        have hP : va_P D vwCl [(hR, .inr (2, [.ref hM])), (hM, .inl (cI, a, .inl G)), (hd, .inr (0, [.int (nI a), .ref hB])), (hB, .inl (cI, a * 48, .inl f))] _ := hP
        have hD : va_D A [(hR, .inr (2, [.ref hM])), (hM, .inl (cI, a, .inl G)), (hd, .inr (0, [.int (nI a), .ref hB])), (hB, .inl (cI, a * 48, .inl f))] := hD
        refine ct_top (y := nI ((o + j) % 8)) (pk_rem (by omega) (by decide) (by decide)) ?_
        refine lv_dup2_11 hx hb dX2_walk_26 rfl rfl ?_
        refine ct_iald hx hb hK hP 1 0 (k := ((o + j) % 8)) rfl rfl (by omega) (by omega) dX2_walk_27 ?_
        refine lv_iconst (v := 1) hx hb dX2_walk_28 (by decide) ?_
        refine ct_calli (w := []) (w' := []) (va_runS (As := [.int 1]) (rest := [.int (G ((o + j) % 8)), .int (nI ((o + j) % 8)), .ref hM]) ⟨hx, hb, hml, hown, hts⟩ (c_X2_markOf l D cI cZ 1 _) (va_cwS 1 hts gX2_walk_X2_markOf rfl rfl rfl (by decide +kernel) ⟨Nat.le_of_ble_eq_true rfl, Nat.le_of_ble_eq_true rfl⟩) (ct_preS (w := []) hK hN hP hD [] (by decide) rfl) rfl rfl hl.1 rfl (lv_room (Nat.le_of_ble_eq_true rfl)) dX2_walk_29 ⟨Nat.le_of_ble_eq_true rfl, Nat.le_of_ble_eq_true rfl⟩) hP hD hS hA [] rfl [] rfl rfl (fun H locs hP hD hS => ?_)
        have hP : va_P D vwCl [(hR, .inr (2, [.ref hM])), (hM, .inl (cI, a, .inl G)), (hd, .inr (0, [.int (nI a), .ref hB])), (hB, .inl (cI, a * 48, .inl f))] _ := hP
        have hD : va_D A [(hR, .inr (2, [.ref hM])), (hM, .inl (cI, a, .inl G)), (hd, .inr (0, [.int (nI a), .ref hB])), (hB, .inl (cI, a * 48, .inl f))] := hD
        refine lv_ior hx hb dX2_walk_32 ?_
        refine ct_iast hx hb hK hP hD hS 1 0 (k := ((o + j) % 8)) (x := ((G ((o + j) % 8)) ||| (mk_bit 1))) rfl rfl (by omega) (by omega) dX2_walk_33 (fun H locs hP hD hS => ?_)
        have hP : va_P D vwCl [(hR, .inr (2, [.ref hM])), (hM, .inl (cI, a, .inl (upd G ((o + j) % 8) ((G ((o + j) % 8)) ||| (mk_bit 1))))), (hd, .inr (0, [.int (nI a), .ref hB])), (hB, .inl (cI, a * 48, .inl f))] _ := hP
        have hD : va_D A [(hR, .inr (2, [.ref hM])), (hM, .inl (cI, a, .inl (upd G ((o + j) % 8) ((G ((o + j) % 8)) ||| (mk_bit 1))))), (hd, .inr (0, [.int (nI a), .ref hB])), (hB, .inl (cI, a * 48, .inl f))] := hD
        refine lv_iinc (v := nI ((o + j) + 1)) (lv' := [(4, .int (nI ((o + j) + 1))), (0, .ref hR), (1, .ref hd), (2, .int (nI o)), (3, .int (nI n))]) hx hb dX2_walk_34 hl (k := 0) rfl (nI_add (o + j) 1) (by decide) rfl (fun ls hl => ?_)
        refine lv_goto (tgt := 11) hx hb dX2_walk_37 (by decide) ?_
        exact ih11 (j + 1) (upd G ((o + j) % 8) ((G ((o + j) % 8)) ||| (mk_bit 1))) (by omega) (by subst ex; rfl) (by omega) _ _ hP hD hS ls (lv_sub hl [0, 1, 2, 3, 4] rfl)
  exact loop11 _ 0 (fun _ => 0) (by omega) (rfl) (Nat.lt_succ_self _) _ _ hP hD hS ls (lv_sub hl [0, 1, 2, 3, 4] rfl)
