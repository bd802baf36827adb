set_option maxHeartbeats 4000000 in
set_option maxRecDepth 100000 in
theorem c_J7_rangeCheck_23922 (l : Launch) (D : va_G) (cI cZ : ClassId) (n lo hi : Nat) (h1 : lo ≤ hi) (h2 : hi ≤ n) (h3 : n < 2 ^ 31) : CtV l yJ7_rangeCheck_23922 wsJ7_rangeCheck_23922 ({ frames := 0, cells := 0, slots := 0, locals := 0 }) D vwCl (ct_T cI cZ) [.int (nI n), .int (nI lo), .int (nI hi)] [] [] := by
  refine ct_of (Qf := ct_Qv D vwCl []) (cc := cJ7_rangeCheck_23922) (maxL := 3) (ret := none) [(0, .int (nI n)), (1, .int (nI lo)), (2, .int (nI hi))] (by decide) rfl (Nat.le_of_ble_eq_true rfl) rfl ?_
  intro p e s m below meth c hx hb hr hts hown hlocks hml hnm A hA hK hN hP hD hS ls hl
  have hown : s.vm.findClass RJ7 = some m.cls := hown
  refine lv_iload_n hx hb dJ7_rangeCheck_23922_0 rfl (lv_at hl 1 rfl) ?_
  refine lv_iload_n hx hb dJ7_rangeCheck_23922_1 rfl (lv_at hl 2 rfl) ?_
  refine lv_icmp_le (tgt := 46) hx hb dJ7_rangeCheck_23922_2 (by decide) (fun c2 => ?_) (fun c2 => ?_)
  · skip
    have c2 : lo ≤ hi := (nI_leI (a := lo) (b := hi) (by omega) (by omega)).mp c2
    refine lv_iload_n hx hb dJ7_rangeCheck_23922_46 rfl (lv_at hl 1 rfl) ?_
    refine lv_if_ge (tgt := 59) hx hb dJ7_rangeCheck_23922_47 (by decide) (fun c47 => ?_) (fun c47 => ?_)
    · skip
      have c47 : 0 ≤ lo := (nI_leI (a := 0) (b := lo) (by omega) (by omega)).mp c47
      refine lv_iload_n hx hb dJ7_rangeCheck_23922_59 rfl (lv_at hl 2 rfl) ?_
      refine lv_iload_n hx hb dJ7_rangeCheck_23922_60 rfl (lv_at hl 0 rfl) ?_
      refine lv_icmp_le (tgt := 73) hx hb dJ7_rangeCheck_23922_61 (by decide) (fun c61 => ?_) (fun c61 => ?_)
      · skip
        have c61 : hi ≤ n := (nI_leI (a := hi) (b := n) (by omega) (by omega)).mp c61
        exact ct_vret hx hb hr hlocks (rfl) hP hD hS dJ7_rangeCheck_23922_73
      · skip
        have c61 : ¬ hi ≤ n := fun h => c61 ((nI_leI (a := hi) (b := n) (by omega) (by omega)).mpr h)
        exfalso; omega
    · skip
      have c47 : ¬ 0 ≤ lo := fun h => c47 ((nI_leI (a := 0) (b := lo) (by omega) (by omega)).mpr h)
      exfalso; omega
  · skip
    have c2 : ¬ lo ≤ hi := fun h => c2 ((nI_leI (a := lo) (b := hi) (by omega) (by omega)).mpr h)
    exfalso; omega
set_option maxHeartbeats 4000000 in
set_option maxRecDepth 100000 in
theorem c_J7_fill_fda19 (l : Launch) (D : va_G) (cI cZ : ClassId) (hB n lo hi : Nat) (x : Int32) (f : Nat → Int32) (h1 : lo ≤ hi) (h2 : hi ≤ n) (h3 : n < 2 ^ 31) : CtV l yJ7_fill_fda19 wsJ7_fill_fda19 ({ frames := 1, cells := 0, slots := 0, locals := 22 }) D vwCl (ct_T cI cZ) [.ref hB, .int (nI lo), .int (nI hi), .int x] [(hB, .inl (cI, n, .inl f))] [(hB, .inl (cI, n, .inl (pg_fill f lo hi x)))] := by
  refine ct_of (Qf := ct_Qv D vwCl [(hB, .inl (cI, n, .inl (pg_fill f lo hi x)))]) (cc := cJ7_fill_fda19) (maxL := 5) (ret := none) [(0, .ref hB), (1, .int (nI lo)), (2, .int (nI hi)), (3, .int x)] (by decide) rfl (Nat.le_of_ble_eq_true rfl) rfl ?_
  intro p e s m below meth c hx hb hr hts hown hlocks hml hnm A hA hK hN hP hD hS ls hl
  have hown : s.vm.findClass RJ7 = some m.cls := hown
  refine lv_aload_n hx hb dJ7_fill_fda19_0 rfl (lv_at hl 0 rfl) ?_
  refine va_alen (v := nI n) hx hb hK hP 0 0 rfl rfl rfl dJ7_fill_fda19_1 ?_
  refine lv_iload_n hx hb dJ7_fill_fda19_2 rfl (lv_at hl 1 rfl) ?_
  refine lv_iload_n hx hb dJ7_fill_fda19_3 rfl (lv_at hl 2 rfl) ?_
  refine ct_callv (w := []) (w' := []) (va_runS (As := [.int (nI n), .int (nI lo), .int (nI hi)]) (rest := []) ⟨hx, hb, hml, hown, hts⟩ (c_J7_rangeCheck_23922 l D cI cZ n lo hi (by omega) (by omega) (by omega) _) (va_cwS 3 hts gJ7_fill_fda19_J7_rangeCheck_23922 rfl rfl rfl (by decide +kernel) ⟨Nat.le_of_ble_eq_true rfl, Nat.le_of_ble_eq_true rfl⟩) (ct_preS (w := []) hK hN hP hD [] (by decide) rfl) rfl rfl hl.1 rfl (lv_room (Nat.le_of_ble_eq_true rfl)) dJ7_fill_fda19_4 ⟨Nat.le_of_ble_eq_true rfl, Nat.le_of_ble_eq_true rfl⟩) hP hD hS hA [] rfl [] rfl rfl (fun H locs hP hD hS => ?_)
  have hP : va_P D vwCl [(hB, .inl (cI, n, .inl f))] _ := hP
  have hD : va_D A [(hB, .inl (cI, n, .inl f))] := hD
  refine lv_iload_n hx hb dJ7_fill_fda19_7 rfl (lv_at hl 1 rfl) ?_
  refine lv_istore (lv' := [(4, .int (nI lo)), (0, .ref hB), (1, .int (nI lo)), (2, .int (nI hi)), (3, .int x)]) hx hb dJ7_fill_fda19_8 hl (by decide) rfl (fun ls hl => ?_)
  have loop10 : ∀ (n10 : Nat) (i : Nat) (g : Nat → Int32), lo ≤ i → i ≤ hi → g = pg_fill f lo i x → hi - i < n10 → ∀ (H : Heap) (locs : List Loc), va_P D vwCl [(hB, .inl (cI, n, .inl g))] H → va_D A [(hB, .inl (cI, n, .inl g))] → va_S A s.heap H locs → ∀ (ls : Array Slot), lv_has ls 5 [(4, .int (nI i)), (0, .ref hB), (1, .int (nI lo)), (2, .int (nI hi)), (3, .int x)] → W p l e ({ frames := 1, cells := 0, slots := 0, locals := 22 }) s m ([.ref hB, .int (nI lo), .int (nI hi), .int x] : List Value).toArray below meth c H locs 0 0 (MQ below (ct_Qv D vwCl [(hB, .inl (cI, n, .inl (pg_fill f lo hi x)))] A) ([.ref hB, .int (nI lo), .int (nI hi), .int x] : List Value).toArray s 0 0 A) (F0 m 10 ls []) := by
    intro n10
    induction n10 with
    | zero =>
      intro i g _ _ _ hm
      exact absurd hm (Nat.not_lt_zero _)
    | succ n10 ih10 =>
      intro i g hi0 hi1 ex hm10 H locs hP hD hS ls hl
      refine lv_iload hx hb dJ7_fill_fda19_10 (lv_at hl 0 rfl) ?_
      refine lv_iload_n hx hb dJ7_fill_fda19_12 rfl (lv_at hl 3 rfl) ?_
      refine lv_icmp_ge (tgt := 27) hx hb dJ7_fill_fda19_13 (by decide) (fun c13 => ?_) (fun c13 => ?_)
      · skip
        have c13 : hi ≤ i := (nI_leI (a := hi) (b := i) (by omega) (by omega)).mp c13
        exact ct_vret hx hb hr hlocks (by have e1 : i = hi := (by omega); rw [ex, e1]) hP hD hS dJ7_fill_fda19_27
      · skip
        have c13 : ¬ hi ≤ i := fun h => c13 ((nI_leI (a := hi) (b := i) (by omega) (by omega)).mpr h)
        refine lv_aload_n hx hb dJ7_fill_fda19_16 rfl (lv_at hl 1 rfl) ?_
        refine lv_iload hx hb dJ7_fill_fda19_17 (lv_at hl 0 rfl) ?_
        refine lv_iload_n hx hb dJ7_fill_fda19_19 rfl (lv_at hl 4 rfl) ?_
        refine ct_iast hx hb hK hP hD hS 0 0 (k := i) (x := x) rfl rfl (by omega) (by omega) dJ7_fill_fda19_20 (fun H locs hP hD hS => ?_)
        have hP : va_P D vwCl [(hB, .inl (cI, n, .inl (upd g i x)))] _ := hP
        have hD : va_D A [(hB, .inl (cI, n, .inl (upd g i x)))] := hD
        refine lv_iinc (v := nI (i + 1)) (lv' := [(4, .int (nI (i + 1))), (0, .ref hB), (1, .int (nI lo)), (2, .int (nI hi)), (3, .int x)]) hx hb dJ7_fill_fda19_21 hl (k := 0) rfl (nI_add i 1) (by decide) rfl (fun ls hl => ?_)
        refine lv_goto (tgt := 10) hx hb dJ7_fill_fda19_24 (by decide) ?_
        exact ih10 (i + 1) (upd g i x) (by omega) (by omega) (by rw [ex]; exact pg_fill_s f x hi0) (by omega) _ _ hP hD hS ls (lv_sub hl [0, 1, 2, 3, 4] rfl)
  exact loop10 _ lo f (Nat.le_refl _) (h1) (pg_fill_0 f lo x) (Nat.lt_succ_self _) _ _ hP hD hS ls (lv_sub hl [0, 1, 2, 3, 4] rfl)
set_option maxHeartbeats 4000000 in
set_option maxRecDepth 100000 in
theorem c_J7_fill_53178 (l : Launch) (D : va_G) (cI cZ : ClassId) (hB n : Nat) (x : Int32) (f : Nat → Int32) (h3 : n < 2 ^ 31) : CtV l yJ7_fill_53178 wsJ7_fill_53178 ({ frames := 0, cells := 0, slots := 0, locals := 0 }) D vwCl (ct_T cI cZ) [.ref hB, .int x] [(hB, .inl (cI, n, .inl f))] [(hB, .inl (cI, n, .inl (pg_fill f 0 n x)))] := by
  refine ct_of (Qf := ct_Qv D vwCl [(hB, .inl (cI, n, .inl (pg_fill f 0 n x)))]) (cc := cJ7_fill_53178) (maxL := 4) (ret := none) [(0, .ref hB), (1, .int x)] (by decide) rfl (Nat.le_of_ble_eq_true rfl) rfl ?_
  intro p e s m below meth c hx hb hr hts hown hlocks hml hnm A hA hK hN hP hD hS ls hl
  have hown : s.vm.findClass RJ7 = some m.cls := hown
  refine lv_iconst (v := 0) hx hb dJ7_fill_53178_0 (by decide) ?_
  refine lv_istore_n (lv' := [(2, .int 0), (0, .ref hB), (1, .int x)]) hx hb dJ7_fill_53178_1 rfl hl (by decide) rfl (fun ls hl => ?_)
  refine lv_aload_n hx hb dJ7_fill_53178_2 rfl (lv_at hl 1 rfl) ?_
  refine va_alen (v := nI n) hx hb hK hP 0 0 rfl rfl rfl dJ7_fill_53178_3 ?_
  refine lv_istore_n (lv' := [(3, .int (nI n)), (2, .int 0), (0, .ref hB), (1, .int x)]) hx hb dJ7_fill_53178_4 rfl hl (by decide) rfl (fun ls hl => ?_)
  have loop5 : ∀ (n5 : Nat) (i : Nat) (g : Nat → Int32), i ≤ n → g = pg_fill f 0 i x → n - i < n5 → ∀ (H : Heap) (locs : List Loc), va_P D vwCl [(hB, .inl (cI, n, .inl g))] H → va_D A [(hB, .inl (cI, n, .inl g))] → va_S A s.heap H locs → ∀ (ls : Array Slot), lv_has ls 4 [(3, .int (nI n)), (2, .int (nI i)), (0, .ref hB), (1, .int x)] → W p l e ({ frames := 0, cells := 0, slots := 0, locals := 0 }) s m ([.ref hB, .int x] : List Value).toArray below meth c H locs 0 0 (MQ below (ct_Qv D vwCl [(hB, .inl (cI, n, .inl (pg_fill f 0 n x)))] A) ([.ref hB, .int x] : List Value).toArray s 0 0 A) (F0 m 5 ls []) := by
    intro n5
    induction n5 with
    | zero =>
      intro i g _ _ hm
      exact absurd hm (Nat.not_lt_zero _)
    | succ n5 ih5 =>
      intro i g hi1 ex hm5 H locs hP hD hS ls hl
      refine lv_iload_n hx hb dJ7_fill_53178_5 rfl (lv_at hl 1 rfl) ?_
      refine lv_iload_n hx hb dJ7_fill_53178_6 rfl (lv_at hl 0 rfl) ?_
      refine lv_icmp_ge (tgt := 20) hx hb dJ7_fill_53178_7 (by decide) (fun c7 => ?_) (fun c7 => ?_)
      · skip
        have c7 : n ≤ i := (nI_leI (a := n) (b := i) (by omega) (by omega)).mp c7
        exact ct_vret hx hb hr hlocks (by have e1 : i = n := (by omega); rw [ex, e1]) hP hD hS dJ7_fill_53178_20
      · skip
        have c7 : ¬ n ≤ i := fun h => c7 ((nI_leI (a := n) (b := i) (by omega) (by omega)).mpr h)
        refine lv_aload_n hx hb dJ7_fill_53178_10 rfl (lv_at hl 2 rfl) ?_
        refine lv_iload_n hx hb dJ7_fill_53178_11 rfl (lv_at hl 1 rfl) ?_
        refine lv_iload_n hx hb dJ7_fill_53178_12 rfl (lv_at hl 3 rfl) ?_
        refine ct_iast hx hb hK hP hD hS 0 0 (k := i) (x := x) rfl rfl (by omega) (by omega) dJ7_fill_53178_13 (fun H locs hP hD hS => ?_)
        have hP : va_P D vwCl [(hB, .inl (cI, n, .inl (upd g i x)))] _ := hP
        have hD : va_D A [(hB, .inl (cI, n, .inl (upd g i x)))] := hD
        refine lv_iinc (v := nI (i + 1)) (lv' := [(2, .int (nI (i + 1))), (3, .int (nI n)), (0, .ref hB), (1, .int x)]) hx hb dJ7_fill_53178_14 hl (k := 1) rfl (nI_add i 1) (by decide) rfl (fun ls hl => ?_)
        refine lv_goto (tgt := 5) hx hb dJ7_fill_53178_17 (by decide) ?_
        exact ih5 (i + 1) (upd g i x) (by omega) (by rw [ex]; exact pg_fill_s f x (Nat.zero_le _)) (by omega) _ _ hP hD hS ls (lv_sub hl [1, 0, 2, 3] rfl)
  exact loop5 _ 0 f (Nat.zero_le _) (pg_fill_0 f 0 x) (Nat.lt_succ_self _) _ _ hP hD hS ls (lv_sub hl [0, 1, 2, 3] rfl)
set_option maxHeartbeats 4000000 in
set_option maxRecDepth 100000 in
theorem c_X0_begin (l : Launch) (D : va_G) (cI cZ : ClassId) (hd hB a q : Nat) (k : Int32) (f : Nat → Int32) (h1 : q < a) (ha : a ≤ 120) : CtV l yX0_begin wsX0_begin ({ frames := 2, cells := 0, slots := 0, locals := 46 }) D vwCl (ct_T cI cZ) [.ref hd, .int (nI q), .int k] [(hd, .inr (0, [.int (nI a), .ref hB])), (hB, .inl (cI, a * 48, .inl f))] [(hd, .inr (0, [.int (nI a), .ref hB])), (hB, .inl (cI, a * 48, .inl (pg_begin f q k)))] := by
  refine ct_of (Qf := ct_Qv D vwCl [(hd, .inr (0, [.int (nI a), .ref hB])), (hB, .inl (cI, a * 48, .inl (pg_begin f q k)))]) (cc := cX0_begin) (maxL := 4) (ret := none) [(0, .ref hd), (1, .int (nI q)), (2, .int k)] (by decide) rfl (Nat.le_of_ble_eq_true rfl) rfl ?_
  intro p e s m below meth c hx hb hr hts hown hlocks hml hnm A hA hK hN hP hD hS ls hl
  have hown : s.vm.findClass RX0 = some m.cls := hown
  have hk0 := hts (.fieldLink RX0 15 "DesignPages$Pages" "bytes" "[I") (by decide +kernel)
  have hiX0 : ∀ w ∈ wsX00, w ∈ wsX0_begin := by decide +kernel
  refine lv_iload_n hx hb dX0_begin_0 rfl (lv_at hl 1 rfl) ?_
  refine lv_bipush (v := 48) hx hb dX0_begin_1 (by decide) ?_
  refine lv_imul hx hb dX0_begin_3 ?_
  refine ct_top (y := nI (q * 48)) (pk_mul q 48) ?_
  refine lv_istore_n (lv' := [(3, .int (nI (q * 48))), (0, .ref hd), (1, .int (nI q)), (2, .int k)]) hx hb dX0_begin_4 rfl hl (by decide) rfl (fun ls hl => ?_)
  refine lv_aload_n hx hb dX0_begin_5 rfl (lv_at hl 1 rfl) ?_
  refine va_get (D := D) (cl := vwCl) (ci := 0) (v := .ref hB) (C := RX0) (T := TX0) (N := 2) hx hb hts hiX0 hown hK hP 0 rfl rfl 1 (by decide) hk0 (fun _ h9 => h9) rfl dX0_begin_6 ?_
  refine lv_iload_n hx hb dX0_begin_9 rfl (lv_at hl 0 rfl) ?_
  refine lv_iload_n hx hb dX0_begin_10 rfl (lv_at hl 0 rfl) ?_
  refine lv_bipush (v := 48) hx hb dX0_begin_11 (by decide) ?_
  refine lv_iadd hx hb dX0_begin_13 ?_
  refine ct_top (y := nI ((q * 48) + 48)) (nI_add (q * 48) 48) ?_
  refine lv_iconst (v := 0) hx hb dX0_begin_14 (by decide) ?_
  refine ct_callv (w := [(hB, .inl (cI, a * 48, .inl f))]) (w' := [(hB, .inl (cI, a * 48, .inl (pg_fill f (q * 48) ((q * 48) + 48) 0)))]) (va_runS (As := [.ref hB, .int (nI (q * 48)), .int (nI ((q * 48) + 48)), .int 0]) (rest := []) ⟨hx, hb, hml, hown, hts⟩ (c_J7_fill_fda19 l D cI cZ hB (a * 48) (q * 48) ((q * 48) + 48) 0 f (by omega) (by omega) (by omega) _) (va_cwS 4 hts gX0_begin_J7_fill_fda19 rfl rfl rfl (by decide +kernel) ⟨Nat.le_of_ble_eq_true rfl, Nat.le_of_ble_eq_true rfl⟩) (ct_preS (w := [(hB, .inl (cI, a * 48, .inl f))]) hK hN hP hD [1] (by decide) rfl) rfl rfl hl.1 rfl (lv_room (Nat.le_of_ble_eq_true rfl)) dX0_begin_15 ⟨Nat.le_of_ble_eq_true rfl, Nat.le_of_ble_eq_true rfl⟩) hP hD hS hA [1] rfl [hB] rfl rfl (fun H locs hP hD hS => ?_)
  have hP : va_P D vwCl [(hd, .inr (0, [.int (nI a), .ref hB])), (hB, .inl (cI, a * 48, .inl (pg_fill f (q * 48) ((q * 48) + 48) 0)))] _ := hP
  have hD : va_D A [(hd, .inr (0, [.int (nI a), .ref hB])), (hB, .inl (cI, a * 48, .inl (pg_fill f (q * 48) ((q * 48) + 48) 0)))] := hD
  refine lv_aload_n hx hb dX0_begin_18 rfl (lv_at hl 1 rfl) ?_
  refine lv_iload_n hx hb dX0_begin_19 rfl (lv_at hl 2 rfl) ?_
  refine lv_iconst (v := 0) hx hb dX0_begin_20 (by decide) ?_
  refine lv_iload_n hx hb dX0_begin_21 rfl (lv_at hl 3 rfl) ?_
  refine ct_callv (w := [(hd, .inr (0, [.int (nI a), .ref hB])), (hB, .inl (cI, a * 48, .inl (pg_fill f (q * 48) ((q * 48) + 48) 0)))]) (w' := [(hd, .inr (0, [.int (nI a), .ref hB])), (hB, .inl (cI, a * 48, .inl (upd (pg_fill f (q * 48) ((q * 48) + 48) 0) (q * 48 + 0) k)))]) (va_runV (As := [.int (nI q), .int 0, .int k]) (rest := []) ⟨hx, hb, hml, hown, hts⟩ (c_X0_set l D cI cZ hd hB a q 0 k (pg_fill f (q * 48) ((q * 48) + 48) 0) (by omega) (by omega) (by omega) _) (cwV 3 hts gX0_begin_X0_set rfl rfl rfl (by decide +kernel) ⟨Nat.le_of_ble_eq_true rfl, Nat.le_of_ble_eq_true rfl⟩) (ct_preV (w := [(hd, .inr (0, [.int (nI a), .ref hB])), (hB, .inl (cI, a * 48, .inl (pg_fill f (q * 48) ((q * 48) + 48) 0)))]) (ci := 0) (i0 := 0) hK hN hP hD [0, 1] (by decide) rfl rfl rfl) rfl rfl hl.1 rfl (lv_room (Nat.le_of_ble_eq_true rfl)) dX0_begin_22 ⟨Nat.le_of_ble_eq_true rfl, Nat.le_of_ble_eq_true rfl⟩) hP hD hS hA [0, 1] rfl [hd, hB] rfl rfl (fun H locs hP hD hS => ?_)
  have hP : va_P D vwCl [(hd, .inr (0, [.int (nI a), .ref hB])), (hB, .inl (cI, a * 48, .inl (upd (pg_fill f (q * 48) ((q * 48) + 48) 0) (q * 48 + 0) k)))] _ := hP
  have hD : va_D A [(hd, .inr (0, [.int (nI a), .ref hB])), (hB, .inl (cI, a * 48, .inl (upd (pg_fill f (q * 48) ((q * 48) + 48) 0) (q * 48 + 0) k)))] := hD
  exact ct_vret hx hb hr hlocks (rfl) hP hD hS dX0_begin_25
set_option maxHeartbeats 4000000 in
set_option maxRecDepth 100000 in
theorem c_X0_setPlaces (l : Launch) (D : va_G) (cI cZ : ClassId) (hd hB hJ a q st : Nat) (f pl : Nat → Int32) (h1 : q < a) (h2 : st + 32 ≤ 48) (ha : a ≤ 120) : CtV l yX0_setPlaces wsX0_setPlaces ({ frames := 1, cells := 0, slots := 0, locals := 18 }) D vwCl (ct_T cI cZ) [.ref hd, .int (nI q), .int (nI st), .ref hJ] [(hd, .inr (0, [.int (nI a), .ref hB])), (hB, .inl (cI, a * 48, .inl f)), (hJ, .inl (cI, 32, .inl pl))] [(hd, .inr (0, [.int (nI a), .ref hB])), (hB, .inl (cI, a * 48, .inl (va_cpy pl f 0 (q * 48 + st) 32))), (hJ, .inl (cI, 32, .inl pl))] := by
  refine ct_of (Qf := ct_Qv D vwCl [(hd, .inr (0, [.int (nI a), .ref hB])), (hB, .inl (cI, a * 48, .inl (va_cpy pl f 0 (q * 48 + st) 32))), (hJ, .inl (cI, 32, .inl pl))]) (cc := cX0_setPlaces) (maxL := 4) (ret := none) [(0, .ref hd), (1, .int (nI q)), (2, .int (nI st)), (3, .ref hJ)] (by decide) rfl (Nat.le_of_ble_eq_true rfl) rfl ?_
  intro p e s m below meth c hx hb hr hts hown hlocks hml hnm A hA hK hN hP hD hS ls hl
  have hown : s.vm.findClass RX0 = some m.cls := hown
  have hk0 := hts (.fieldLink RX0 15 "DesignPages$Pages" "bytes" "[I") (by decide +kernel)
  have hk1 := hts (.methodLink RX0 29 arraycopyName) (by decide +kernel)
  have hk2 := hts (.native arraycopyName) (by decide +kernel)
  have hk3 := hts (.static arraycopyName) (by decide +kernel)
  have hk4 := hts (.initialized "java/lang/System") (by decide +kernel)
  have hiX0 : ∀ w ∈ wsX00, w ∈ wsX0_setPlaces := by decide +kernel
  refine lv_aload_n hx hb dX0_setPlaces_0 rfl (lv_at hl 3 rfl) ?_
  refine lv_iconst (v := 0) hx hb dX0_setPlaces_1 (by decide) ?_
  refine lv_aload_n hx hb dX0_setPlaces_2 rfl (lv_at hl 0 rfl) ?_
  refine va_get (D := D) (cl := vwCl) (ci := 0) (v := .ref hB) (C := RX0) (T := TX0) (N := 2) hx hb hts hiX0 hown hK hP 0 rfl rfl 1 (by decide) hk0 (fun _ h9 => h9) rfl dX0_setPlaces_3 ?_
  refine lv_iload_n hx hb dX0_setPlaces_6 rfl (lv_at hl 1 rfl) ?_
  refine lv_bipush (v := 48) hx hb dX0_setPlaces_7 (by decide) ?_
  refine lv_imul hx hb dX0_setPlaces_9 ?_
  refine ct_top (y := nI (q * 48)) (pk_mul q 48) ?_
  refine lv_iload_n hx hb dX0_setPlaces_10 rfl (lv_at hl 2 rfl) ?_
  refine lv_iadd hx hb dX0_setPlaces_11 ?_
  refine ct_top (y := nI ((q * 48) + st)) (nI_add (q * 48) st) ?_
  refine lv_bipush (v := 32) hx hb dX0_setPlaces_12 (by decide) ?_
  refine ct_copyi hx hb (hml.trans hl.1.symm) hown hk1 hk2 hk3 hk4 hK hP hD hS 2 1 0 0 (sp := 0) (dp := ((q * 48) + st)) (n := 32) rfl rfl rfl rfl (by omega) (by omega) (by omega) (by omega) (Nat.le_of_ble_eq_true rfl) (Nat.le_of_ble_eq_true rfl) dX0_setPlaces_14 (fun H locs hP hD hS => ?_)
  have hP : va_P D vwCl [(hd, .inr (0, [.int (nI a), .ref hB])), (hB, .inl (cI, a * 48, .inl (va_cpy pl f 0 ((q * 48) + st) 32))), (hJ, .inl (cI, 32, .inl pl))] _ := hP
  have hD : va_D A [(hd, .inr (0, [.int (nI a), .ref hB])), (hB, .inl (cI, a * 48, .inl (va_cpy pl f 0 ((q * 48) + st) 32))), (hJ, .inl (cI, 32, .inl pl))] := hD
  exact ct_vret hx hb hr hlocks (rfl) hP hD hS dX0_setPlaces_17
