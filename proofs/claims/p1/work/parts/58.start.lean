set_option maxHeartbeats 4000000 in
set_option maxRecDepth 100000 in
/-- THE LAW, from its entry -/
theorem whole_start {p : Program} {e : Env} {s : State} {m : MethodId} {below : List Frame} {meth : Method} {c : Code} (l : Launch) {b L : Nat} {xs : Nat → Int32} (hL : L ≤ 5) (C0 : lw_At p s m meth c b L xs) : W p l e room_1 s m #[Value.ref b] below meth c s.heap [] 0 0 (lw_Z below #[Value.ref b] s) (entryFrame m ([Value.ref b] : List Value).toArray 4) := by
  obtain ⟨hx, hb, hr, hml, hown, htsT, hX, hbl, hlocks, hgv⟩ := id C0
  have hown : s.vm.findClass RL = some m.cls := hown
  have hts : ∀ w ∈ wsL_law, w.before #[Value.ref b] s = true := fun w h => htsT w (wsL_law_in w h)
  obtain ⟨A, hAe⟩ : ∃ A : Nat → Prop, A = fun q => s.heap.size ≤ q := ⟨_, rfl⟩
  have hA : ∀ q : Nat, s.heap.size ≤ q → A q := fun q h => by rw [hAe]; exact h
  have hAf : ∀ q : Nat, A q → s.heap.size ≤ q := fun q h => by rw [hAe] at h; exact h
  have hbA : ¬ A b := fun h => Nat.not_le.mpr hbl (hAf b h)
  obtain ⟨c0, i0, k0⟩ := u_known (C := RX0) (T := TX0) (N := 2) (n := 2) htsT in_wsX00 (htsT (.instantiable RX0 2) (by decide +kernel))
  obtain ⟨c1, i1, k1⟩ := u_known (C := RX1) (T := TX1) (N := 3) (n := 3) htsT in_wsX10 (htsT (.instantiable RX1 3) (by decide +kernel))
  obtain ⟨c2, i2, k2⟩ := u_known (C := RX2) (T := TX2) (N := 1) (n := 1) htsT in_wsX20 (htsT (.instantiable RX2 1) (by decide +kernel))
  obtain ⟨c3, i3, k3⟩ := u_known (C := RX3) (T := TX3) (N := 8) (n := 8) htsT in_wsX30 (htsT (.instantiable RX3 8) (by decide +kernel))
  obtain ⟨c4, i4, k4⟩ := u_known (C := RX4) (T := TX4) (N := 12) (n := 12) htsT in_wsX40 (htsT (.instantiable RX4 12) (by decide +kernel))
  obtain ⟨dC, dI, hKc⟩ : ∃ (dC : Nat → ClassId) (dI : Nat → Nat → Nat), ∀ (k : Nat) (q : vw_C), vwCl[k]? = some q → u_Kn s q.1 q.2.1 q.2.2 (dC k) (dI k) := by
    refine ⟨fun k => if k = 0 then c0 else if k = 1 then c1 else if k = 2 then c2 else if k = 3 then c3 else c4, fun k => if k = 0 then i0 else if k = 1 then i1 else if k = 2 then i2 else if k = 3 then i3 else i4, ?_⟩
    intro k q hq
    match k, hq with
    | 0, hq => cases hq; exact k0
    | 1, hq => cases hq; exact k1
    | 2, hq => cases hq; exact k2
    | 3, hq => cases hq; exact k3
    | 4, hq => cases hq; exact k4
    | k + 5, hq => simp [vwCl] at hq
  obtain ⟨cI, kI, pI, g1, g2, g3⟩ := Cond.arrayClass_spec (hts (.arrayClass .int) (by decide +kernel))
  obtain ⟨cZ, kZ, pZ, g4, g5, g6⟩ := Cond.arrayClass_spec (hts (.arrayClass .boolean) (by decide +kernel))
  have hK : va_K (dC, dI) vwCl (ct_T cI cZ) s := by
    refine ⟨hKc, fun k q hq => ?_⟩
    match k, hq with
    | 0, hq => cases hq; exact ⟨fun n z => ⟨fun k h => (by cases h), kI, g2, pI, g3⟩, g1⟩
    | 1, hq => cases hq; exact ⟨fun n z => ⟨fun k h => (by cases h), kZ, g5, pZ, g6⟩, g4⟩
    | k + 2, hq => simp [ct_T] at hq
  have hN : nw_ok s := ⟨va_Nw.of rfl (htsT (.methodLinkNest RX0 59 yX3_pageOfRoot "DesignPages") (by decide +kernel)), va_Nw.of rfl (htsT (.methodLinkNest RX2 21 yX3_pageOfRoot "DesignPages") (by decide +kernel))⟩
  obtain ⟨D, hDe⟩ : ∃ D : va_G, D = (dC, dI) := ⟨_, rfl⟩
  rw [← hDe] at hK
  have hS : va_S A s.heap s.heap [] := va_S.rf
  have hP : va_P D vwCl [] s.heap := fun k q h => by simp at h
  have hD : va_D A [] := ⟨fun i j p q h => by simp at h, fun k q h => by simp at h⟩
  have hl := lv_entry ([.ref b]) (n := 4) (Nat.le_of_ble_eq_true rfl)
  rw [lg_entry_eq]
  generalize (lg_sl ([.ref b]) ++ List.replicate (4 - (lg_sl ([.ref b])).length) Slot.unset).toArray = ls at hl ⊢
  have hl : lv_has ls 4 [(0, .ref b)] := hl
  have hk0 := hts (.classLink RL 7 RX3) (by decide +kernel)
  have hk1 := hts (.instantiable RX3 8) (by decide +kernel)
  have hk2 := hts (.initialized RX3) (by decide +kernel)
  have hk3 := hts (.methodLink RL 15 yX3_init) (by decide +kernel)
  have hk4 := hts (.instanceMethod yX3_init) (by decide +kernel)
  have hk5 := hts (.classLink RL 18 RX4) (by decide +kernel)
  have hk6 := hts (.instantiable RX4 12) (by decide +kernel)
  have hk7 := hts (.initialized RX4) (by decide +kernel)
  have hk8 := hts (.methodLink RL 20 yX4_init) (by decide +kernel)
  have hk9 := hts (.instanceMethod yX4_init) (by decide +kernel)
  have hiX3 : ∀ w ∈ wsX30, w ∈ wsL_law := inlX3
  have hiX4 : ∀ w ∈ wsX40, w ∈ wsL_law := inlX4
  refine va_new (ci := 3) (fs := [.null, .null, .null, .null, .null, .int 0, .int 0, .int 0]) (C := RX3) (T := TX3) (N := 8) hx hb hts hiX3 tyX3 tyX3_ok hown hk0 hk1 hk2 hK hP hD hS hA rfl (fun j hj => by rcases (show j = 0 ∨ j = 1 ∨ j = 2 ∨ j = 3 ∨ j = 4 ∨ j = 5 ∨ j = 6 ∨ j = 7 by omega) with rfl | rfl | rfl | rfl | rfl | rfl | rfl | rfl <;> rfl) (Nat.le_of_ble_eq_true rfl) (Nat.le_of_ble_eq_true rfl) dL_law_0 (fun q0 H hP hD hS => ?_)
  have hP : va_P D vwCl [(q0, .inr (3, [.null, .null, .null, .null, .null, .int 0, .int 0, .int 0]))] _ := hP
  have hD : va_D A [(q0, .inr (3, [.null, .null, .null, .null, .null, .int 0, .int 0, .int 0]))] := hD
  refine lv_dup hx hb dL_law_3 rfl ?_
  refine lv_aload_n hx hb dL_law_4 rfl (lv_at hl 0 rfl) ?_
  refine lv_iconst (v := 0) hx hb dL_law_5 (by decide) ?_
  refine law_cell hL hx hb hml hown hts hX hbl hbA hA hK hN hS hP hl.1 (Nat.le_of_ble_eq_true rfl) ⟨Nat.le_of_ble_eq_true rfl, Nat.le_of_ble_eq_true rfl⟩ dL_law_6 (fun H locs hP hS => ?_)
  have hP : va_P D vwCl [(q0, .inr (3, [.null, .null, .null, .null, .null, .int 0, .int 0, .int 0]))] _ := hP
  have hD : va_D A [(q0, .inr (3, [.null, .null, .null, .null, .null, .int 0, .int 0, .int 0]))] := hD
  have hFc := va_free (wc := [(q0, .inr (3, [.null, .null, .null, .null, .null, .int 0, .int 0, .int 0]))]) hD hS hA [0] rfl
  refine va_callv (va_runI (As := [.int (if 0 < L then xs 0 else 0)]) (rest := [.ref q0]) ⟨hx, hb, hml, hown, hts⟩ (c_X3_init l D cI cZ q0 (if 0 < L then xs 0 else 0) _) (cwI 1 hts gL_law_X3_init rfl rfl rfl hk2 hk3 hk4 rfl (by decide +kernel) ⟨Nat.le_of_ble_eq_true rfl, Nat.le_of_ble_eq_true rfl⟩) ⟨ct_blind, ct_in (As := .ref q0 :: [.int (if 0 < L then xs 0 else 0)]) (w := [(q0, .inr (3, [.null, .null, .null, .null, .null, .int 0, .int 0, .int 0]))]) hK hN hP hD [0] (by decide) rfl⟩ rfl rfl hl.1 rfl (lv_room (Nat.le_of_ble_eq_true rfl)) dL_law_9 ⟨Nat.le_of_ble_eq_true rfl, Nat.le_of_ble_eq_true rfl⟩) hS (fun q _ h => hFc q h) hFc (fun u t H1 locs ht hvm hwq hBq hz1 hk1 hS => ?_)
  obtain ⟨hd, hB, hR, hM, hw, hT, hJ, hP1, hD1⟩ := hBq
  rw [ht] at hP1
  obtain ⟨hP, hD⟩ := va_join (wr := []) (w1 := [(q0, .inr (3, [.ref hd, .ref hR, .ref hw, .ref hT, .ref hJ, .int 0, .int 0, .int 1])), (hd, .inr (0, [.int (nI (amt (if 0 < L then xs 0 else 0))), .ref hB])), (hB, .inl (cI, amt (if 0 < L then xs 0 else 0) * 48, .inl (fun _ => 0))), (hR, .inr (2, [.ref hM])), (hM, .inl (cI, amt (if 0 < L then xs 0 else 0), .inl (fun _ => 0))), (hw, .inr (1, [.int (b2i False), .int (-1), .int 0])), (hT, .inl (cI, 32, .inl (fun _ => 0))), (hJ, .inl (cI, 32, .inl (fun _ => 0)))]) hP hD [0] [] rfl rfl (by decide) (by decide) hk1 hFc hP1 hD1
  generalize H1 = H at hP hS ⊢
  have hP : va_P D vwCl [(q0, .inr (3, [.ref hd, .ref hR, .ref hw, .ref hT, .ref hJ, .int 0, .int 0, .int 1])), (hd, .inr (0, [.int (nI (amt (if 0 < L then xs 0 else 0))), .ref hB])), (hB, .inl (cI, amt (if 0 < L then xs 0 else 0) * 48, .inl (fun _ => 0))), (hR, .inr (2, [.ref hM])), (hM, .inl (cI, amt (if 0 < L then xs 0 else 0), .inl (fun _ => 0))), (hw, .inr (1, [.int (b2i False), .int (-1), .int 0])), (hT, .inl (cI, 32, .inl (fun _ => 0))), (hJ, .inl (cI, 32, .inl (fun _ => 0)))] _ := hP
  have hD : va_D A [(q0, .inr (3, [.ref hd, .ref hR, .ref hw, .ref hT, .ref hJ, .int 0, .int 0, .int 1])), (hd, .inr (0, [.int (nI (amt (if 0 < L then xs 0 else 0))), .ref hB])), (hB, .inl (cI, amt (if 0 < L then xs 0 else 0) * 48, .inl (fun _ => 0))), (hR, .inr (2, [.ref hM])), (hM, .inl (cI, amt (if 0 < L then xs 0 else 0), .inl (fun _ => 0))), (hw, .inr (1, [.int (b2i False), .int (-1), .int 0])), (hT, .inl (cI, 32, .inl (fun _ => 0))), (hJ, .inl (cI, 32, .inl (fun _ => 0)))] := hD
  refine lv_astore_n (lv' := [(1, .ref q0), (0, .ref b)]) hx hb dL_law_12 rfl hl (by decide) rfl (fun ls hl => ?_)
  refine va_new (ci := 4) (fs := [.int 0, .int 0, .null, .int 0, .int 0, .int 0, .int 0, .int 0, .int 0, .null, .null, .int 0]) (C := RX4) (T := TX4) (N := 12) hx hb hts hiX4 tyX4 tyX4_ok hown hk5 hk6 hk7 hK hP hD hS hA rfl (fun j hj => by rcases (show j = 0 ∨ j = 1 ∨ j = 2 ∨ j = 3 ∨ j = 4 ∨ j = 5 ∨ j = 6 ∨ j = 7 ∨ j = 8 ∨ j = 9 ∨ j = 10 ∨ j = 11 by omega) with rfl | rfl | rfl | rfl | rfl | rfl | rfl | rfl | rfl | rfl | rfl | rfl <;> rfl) (Nat.le_of_ble_eq_true rfl) (Nat.le_of_ble_eq_true rfl) dL_law_13 (fun q13 H hP hD hS => ?_)
  have hP : va_P D vwCl [(q0, .inr (3, [.ref hd, .ref hR, .ref hw, .ref hT, .ref hJ, .int 0, .int 0, .int 1])), (hd, .inr (0, [.int (nI (amt (if 0 < L then xs 0 else 0))), .ref hB])), (hB, .inl (cI, amt (if 0 < L then xs 0 else 0) * 48, .inl (fun _ => 0))), (hR, .inr (2, [.ref hM])), (hM, .inl (cI, amt (if 0 < L then xs 0 else 0), .inl (fun _ => 0))), (hw, .inr (1, [.int (b2i False), .int (-1), .int 0])), (hT, .inl (cI, 32, .inl (fun _ => 0))), (hJ, .inl (cI, 32, .inl (fun _ => 0))), (q13, .inr (4, [.int 0, .int 0, .null, .int 0, .int 0, .int 0, .int 0, .int 0, .int 0, .null, .null, .int 0]))] _ := hP
  have hD : va_D A [(q0, .inr (3, [.ref hd, .ref hR, .ref hw, .ref hT, .ref hJ, .int 0, .int 0, .int 1])), (hd, .inr (0, [.int (nI (amt (if 0 < L then xs 0 else 0))), .ref hB])), (hB, .inl (cI, amt (if 0 < L then xs 0 else 0) * 48, .inl (fun _ => 0))), (hR, .inr (2, [.ref hM])), (hM, .inl (cI, amt (if 0 < L then xs 0 else 0), .inl (fun _ => 0))), (hw, .inr (1, [.int (b2i False), .int (-1), .int 0])), (hT, .inl (cI, 32, .inl (fun _ => 0))), (hJ, .inl (cI, 32, .inl (fun _ => 0))), (q13, .inr (4, [.int 0, .int 0, .null, .int 0, .int 0, .int 0, .int 0, .int 0, .int 0, .null, .null, .int 0]))] := hD
  refine lv_dup hx hb dL_law_16 rfl ?_
  refine lv_aload_n hx hb dL_law_17 rfl (lv_at hl 1 rfl) ?_
  refine lv_iconst (v := 0) hx hb dL_law_18 (by decide) ?_
  refine law_cell hL hx hb hml hown hts hX hbl hbA hA hK hN hS hP hl.1 (Nat.le_of_ble_eq_true rfl) ⟨Nat.le_of_ble_eq_true rfl, Nat.le_of_ble_eq_true rfl⟩ dL_law_19 (fun H locs hP hS => ?_)
  have hP : va_P D vwCl [(q0, .inr (3, [.ref hd, .ref hR, .ref hw, .ref hT, .ref hJ, .int 0, .int 0, .int 1])), (hd, .inr (0, [.int (nI (amt (if 0 < L then xs 0 else 0))), .ref hB])), (hB, .inl (cI, amt (if 0 < L then xs 0 else 0) * 48, .inl (fun _ => 0))), (hR, .inr (2, [.ref hM])), (hM, .inl (cI, amt (if 0 < L then xs 0 else 0), .inl (fun _ => 0))), (hw, .inr (1, [.int (b2i False), .int (-1), .int 0])), (hT, .inl (cI, 32, .inl (fun _ => 0))), (hJ, .inl (cI, 32, .inl (fun _ => 0))), (q13, .inr (4, [.int 0, .int 0, .null, .int 0, .int 0, .int 0, .int 0, .int 0, .int 0, .null, .null, .int 0]))] _ := hP
  have hD : va_D A [(q0, .inr (3, [.ref hd, .ref hR, .ref hw, .ref hT, .ref hJ, .int 0, .int 0, .int 1])), (hd, .inr (0, [.int (nI (amt (if 0 < L then xs 0 else 0))), .ref hB])), (hB, .inl (cI, amt (if 0 < L then xs 0 else 0) * 48, .inl (fun _ => 0))), (hR, .inr (2, [.ref hM])), (hM, .inl (cI, amt (if 0 < L then xs 0 else 0), .inl (fun _ => 0))), (hw, .inr (1, [.int (b2i False), .int (-1), .int 0])), (hT, .inl (cI, 32, .inl (fun _ => 0))), (hJ, .inl (cI, 32, .inl (fun _ => 0))), (q13, .inr (4, [.int 0, .int 0, .null, .int 0, .int 0, .int 0, .int 0, .int 0, .int 0, .null, .null, .int 0]))] := hD
  have hFc := va_free (wc := [(q13, .inr (4, [.int 0, .int 0, .null, .int 0, .int 0, .int 0, .int 0, .int 0, .int 0, .null, .null, .int 0]))]) hD hS hA [8] rfl
  refine va_callv (va_runI (As := [.int (if 0 < L then xs 0 else 0)]) (rest := [.ref q13]) ⟨hx, hb, hml, hown, hts⟩ (c_X4_init l D cI cZ q13 (if 0 < L then xs 0 else 0) _) (cwI 1 hts gL_law_X4_init rfl rfl rfl hk7 hk8 hk9 rfl (by decide +kernel) ⟨Nat.le_of_ble_eq_true rfl, Nat.le_of_ble_eq_true rfl⟩) ⟨ct_blind, ct_in (As := .ref q13 :: [.int (if 0 < L then xs 0 else 0)]) (w := [(q13, .inr (4, [.int 0, .int 0, .null, .int 0, .int 0, .int 0, .int 0, .int 0, .int 0, .null, .null, .int 0]))]) hK hN hP hD [8] (by decide) rfl⟩ rfl rfl hl.1 rfl (lv_room (Nat.le_of_ble_eq_true rfl)) dL_law_22 ⟨Nat.le_of_ble_eq_true rfl, Nat.le_of_ble_eq_true rfl⟩) hS (fun q _ h => hFc q h) hFc (fun u t H1 locs ht hvm hwq hBq hz1 hk1 hS => ?_)
  obtain ⟨gB, gT, gZ, hP1, hD1⟩ := hBq
  rw [ht] at hP1
  obtain ⟨hP, hD⟩ := va_join (wr := [(q0, .inr (3, [.ref hd, .ref hR, .ref hw, .ref hT, .ref hJ, .int 0, .int 0, .int 1])), (hd, .inr (0, [.int (nI (amt (if 0 < L then xs 0 else 0))), .ref hB])), (hB, .inl (cI, amt (if 0 < L then xs 0 else 0) * 48, .inl (fun _ => 0))), (hR, .inr (2, [.ref hM])), (hM, .inl (cI, amt (if 0 < L then xs 0 else 0), .inl (fun _ => 0))), (hw, .inr (1, [.int (b2i False), .int (-1), .int 0])), (hT, .inl (cI, 32, .inl (fun _ => 0))), (hJ, .inl (cI, 32, .inl (fun _ => 0)))]) (w1 := [(q13, .inr (4, [.int 0, .int (nI (amt (if 0 < L then xs 0 else 0))), .ref gB, .int 0, .int 1, .int 0, .int (-1), .int 0, .int 0, .ref gT, .ref gZ, .int 0])), (gB, .inl (cI, 5760, .inl (fun _ => 0))), (gT, .inl (cI, 32, .inl (fun _ => 0))), (gZ, .inl (cZ, 120, .inl (fun _ => 0)))]) hP hD [8] [0, 1, 2, 3, 4, 5, 6, 7] rfl rfl (by decide) (by decide) hk1 hFc hP1 hD1
  generalize H1 = H at hP hS ⊢
  have hP : va_P D vwCl [(q0, .inr (3, [.ref hd, .ref hR, .ref hw, .ref hT, .ref hJ, .int 0, .int 0, .int 1])), (hd, .inr (0, [.int (nI (amt (if 0 < L then xs 0 else 0))), .ref hB])), (hB, .inl (cI, amt (if 0 < L then xs 0 else 0) * 48, .inl (fun _ => 0))), (hR, .inr (2, [.ref hM])), (hM, .inl (cI, amt (if 0 < L then xs 0 else 0), .inl (fun _ => 0))), (hw, .inr (1, [.int (b2i False), .int (-1), .int 0])), (hT, .inl (cI, 32, .inl (fun _ => 0))), (hJ, .inl (cI, 32, .inl (fun _ => 0))), (q13, .inr (4, [.int 0, .int (nI (amt (if 0 < L then xs 0 else 0))), .ref gB, .int 0, .int 1, .int 0, .int (-1), .int 0, .int 0, .ref gT, .ref gZ, .int 0])), (gB, .inl (cI, 5760, .inl (fun _ => 0))), (gT, .inl (cI, 32, .inl (fun _ => 0))), (gZ, .inl (cZ, 120, .inl (fun _ => 0)))] _ := hP
  have hD : va_D A [(q0, .inr (3, [.ref hd, .ref hR, .ref hw, .ref hT, .ref hJ, .int 0, .int 0, .int 1])), (hd, .inr (0, [.int (nI (amt (if 0 < L then xs 0 else 0))), .ref hB])), (hB, .inl (cI, amt (if 0 < L then xs 0 else 0) * 48, .inl (fun _ => 0))), (hR, .inr (2, [.ref hM])), (hM, .inl (cI, amt (if 0 < L then xs 0 else 0), .inl (fun _ => 0))), (hw, .inr (1, [.int (b2i False), .int (-1), .int 0])), (hT, .inl (cI, 32, .inl (fun _ => 0))), (hJ, .inl (cI, 32, .inl (fun _ => 0))), (q13, .inr (4, [.int 0, .int (nI (amt (if 0 < L then xs 0 else 0))), .ref gB, .int 0, .int 1, .int 0, .int (-1), .int 0, .int 0, .ref gT, .ref gZ, .int 0])), (gB, .inl (cI, 5760, .inl (fun _ => 0))), (gT, .inl (cI, 32, .inl (fun _ => 0))), (gZ, .inl (cZ, 120, .inl (fun _ => 0)))] := hD
  refine lv_astore_n (lv' := [(2, .ref q13), (1, .ref q0), (0, .ref b)]) hx hb dL_law_25 rfl hl (by decide) rfl (fun ls hl => ?_)
  refine lv_iconst (v := 1) hx hb dL_law_26 (by decide) ?_
  refine lv_istore_n (lv' := [(3, .int 1), (2, .ref q13), (1, .ref q0), (0, .ref b)]) hx hb dL_law_27 rfl hl (by decide) rfl (fun ls hl => ?_)
  have ham := amt_sp (if 0 < L then xs 0 else 0)
  have ez : (b2i False : Int32) = 0 := b2i_f id
  have hP : va_P D vwCl [(q0, .inr (3, [.ref hd, .ref hR, .ref hw, .ref hT, .ref hJ, .int (nI 0), .int (nI 0), .int (nI 1)])), (hd, .inr (0, [.int (nI (amt (if 0 < L then xs 0 else 0))), .ref hB])), (hB, .inl (cI, (amt (if 0 < L then xs 0 else 0)) * 48, .inl (fun _ => 0))), (hR, .inr (2, [.ref hM])), (hM, .inl (cI, (amt (if 0 < L then xs 0 else 0)), .inl (fun _ => 0))), (hw, .inr (1, [.int (b2i False), .int (-1), .int 0])), (hT, .inl (cI, 32, .inl (fun _ => 0))), (hJ, .inl (cI, 32, .inl (fun _ => 0))), (q13, .inr (4, [.int 0, .int (nI (amt (if 0 < L then xs 0 else 0))), .ref gB, .int (nI 0), .int (nI 1), .int (b2i False), .int (-1), .int 0, .int (nI 0), .ref gT, .ref gZ, .int 0])), (gB, .inl (cI, 5760, .inl (fun _ => 0))), (gT, .inl (cI, 32, .inl (fun _ => 0))), (gZ, .inl (cZ, 120, .inl (fun _ => 0)))] H := by have h := hP; rw [ez] at h ⊢; exact h
  have hD : va_D A [(q0, .inr (3, [.ref hd, .ref hR, .ref hw, .ref hT, .ref hJ, .int (nI 0), .int (nI 0), .int (nI 1)])), (hd, .inr (0, [.int (nI (amt (if 0 < L then xs 0 else 0))), .ref hB])), (hB, .inl (cI, (amt (if 0 < L then xs 0 else 0)) * 48, .inl (fun _ => 0))), (hR, .inr (2, [.ref hM])), (hM, .inl (cI, (amt (if 0 < L then xs 0 else 0)), .inl (fun _ => 0))), (hw, .inr (1, [.int (b2i False), .int (-1), .int 0])), (hT, .inl (cI, 32, .inl (fun _ => 0))), (hJ, .inl (cI, 32, .inl (fun _ => 0))), (q13, .inr (4, [.int 0, .int (nI (amt (if 0 < L then xs 0 else 0))), .ref gB, .int (nI 0), .int (nI 1), .int (b2i False), .int (-1), .int 0, .int (nI 0), .ref gT, .ref gZ, .int 0])), (gB, .inl (cI, 5760, .inl (fun _ => 0))), (gT, .inl (cI, 32, .inl (fun _ => 0))), (gZ, .inl (cZ, 120, .inl (fun _ => 0)))] := by have h := hD; rw [ez] at h ⊢; exact h
  refine W.widen (k := 12) (n := 11882) (by omega) (by omega) ?_
  exact law_loop hL hx hb hml hown hts hX hbl hbA hA hK hN hr hlocks hAf (L + 5) 1 (Nat.le_refl _) (by omega) (by omega) q0 hd hB hR hM hw hT hJ q13 gB gT gZ (amt (if 0 < L then xs 0 else 0)) 0 0 1 (fun _ => 0) (fun _ => 0) (fun _ => 0) (fun _ => 0) False (-1) 0 (fun _ => 0) (fun _ => 0) (fun _ => 0) False (-1) 0 0 0 0 1 (Or.inr ⟨⟨rfl, rfl, rfl, rfl, rfl, rfl, ham.2.2, ham.2.1, by omega, by omega, by omega, Or.inl ⟨rfl, rfl⟩, fun j _ => (by decide : (0 : Int32) &&& 255 = 0), fun i => (by decide : (0 : Int32) &&& 255 = 0), fun _ => ⟨rfl, rfl, by decide⟩⟩, rfl, rfl⟩) _ _ hP hD hS ls (lv_sub hl [0, 1, 2, 3] rfl)
