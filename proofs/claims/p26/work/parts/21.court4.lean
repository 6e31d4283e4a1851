theorem hd_X5_clear : yX5_clear.cls ≠ "java/lang/invoke/MethodHandle" ∧ yX5_clear.cls ≠ "java/lang/invoke/VarHandle" ∧ (parseMethodDescriptor yX5_clear.desc).map (fun d => d.parameters.length) = some 0 := by decide +kernel
theorem hd_X5_addLastOf : yX5_addLastOf.cls ≠ "java/lang/invoke/MethodHandle" ∧ yX5_addLastOf.cls ≠ "java/lang/invoke/VarHandle" ∧ (parseMethodDescriptor yX5_addLastOf.desc).map (fun d => d.parameters.length) = some 1 := by decide +kernel
theorem hd_X2_weigh : yX2_weigh.cls ≠ "java/lang/invoke/MethodHandle" ∧ yX2_weigh.cls ≠ "java/lang/invoke/VarHandle" ∧ (parseMethodDescriptor yX2_weigh.desc).map (fun d => d.parameters.length) = some 0 := by decide +kernel
set_option maxHeartbeats 4000000 in
set_option maxRecDepth 100000 in
theorem co_meet (l : Launch) (E : rc_E) (sz : Nat) (ad : Nat → Nat) (v : av_V) (G : tg_G) (hI : ssH E ad v G) (hS : scH E ad G) (a0 b0 : Nat) (ha0 : a0 < 6) (hb0 : b0 < 6) : tg_M l yX6_meet [Cond.code yX6_meet cX6_meet 3 (none : Option FieldType)] { frames := 4, cells := 0, slots := 0, locals := 87 } E [.ref (ad 8), .int (nI a0), .int (nI b0)] G sz (tg_Qv E (fun u => duM E ad (samp v a0) (samp v b0) u ∧ ∀ t9, t9 < 17 ∨ 31 ≤ t9 → u t9 = G t9)) 0 0 := by
  refine tg_in (cc := cX6_meet) (maxL := 3) (ret := (none : Option FieldType)) (tg_Qv E (fun u => duM E ad (samp v a0) (samp v b0) u ∧ ∀ t9, t9 < 17 ∨ 31 ≤ t9 → u t9 = G t9)) (by decide) rfl (Nat.le_of_ble_eq_true rfl) ?_
  intro p e s m args below meth cd ls A hx hb hr hml hown hlocks hin hA hAm hw hl
  have hown : s.vm.findClass RX6 = some m.cls := hown
  have hl : lv_has ls 3 [(0, .ref (ad 8)), (1, .int (nI a0)), (2, .int (nI b0))] := hl
  obtain ⟨h0, hco, ⟨hLm, hLc, hLr⟩, hbi, hma, hch, hru⟩ := id hI
  have hn60 := h0.1
  obtain ⟨-, ⟨L1, hs18⟩, ⟨L2, hs20⟩, ⟨⟨u4, u5, u6, u7, u8, u9, h17⟩, ⟨gl, h22⟩, ⟨rw9, h23, hrw⟩, hR⟩⟩ := id hS
  obtain ⟨h18, ⟨f18, h19, -⟩, -, -⟩ := hs18
  obtain ⟨h20, ⟨f20, h21, -⟩, -, -⟩ := hs20
  have HO := fun (t9 : Nat) (_ : t9 < 17 ∨ 31 ≤ t9) => (rfl : G t9 = G t9)
  have hca : G (40 + 3 * a0) = some (ad (40 + 3 * a0), .inr (2, [.ref (ad (41 + 3 * a0)), .int (vC v a0).1, .int (vC v a0).2])) := (hch a0 (by omega)).1
  have hcb : G (40 + 3 * b0) = some (ad (40 + 3 * b0), .inr (2, [.ref (ad (41 + 3 * b0)), .int (vC v b0).1, .int (vC v b0).2])) := (hch b0 (by omega)).1
  refine lv_aload_n hx hb dX6_meet_0 rfl (lv_at hl 0 rfl) ?_
  refine tg_get (v := .ref (ad 17)) hx hb hown hAm hw lyX6 hco rfl 5 (by decide) qw_230 (fun _ h9 => h9) rfl dX6_meet_1 ?_
  refine tg_getN (v := .ref (ad 18)) hx hb hown hAm hw lyX2 h17 rfl 0 (by decide) qw_108 (fun _ h9 => h9) rfl dX6_meet_4 ?_
  refine tg_callv (va_runVN (As := []) (rest := []) (Ts := []) ⟨hx, hb, hml, hown, fun _ h9 => absurd h9 List.not_mem_nil⟩ (sm_clear l E _ G (n9 := L1.length) h18) (rc_cnV hAm qw_428 qw_6 qw_431 qw_430 qs_8 rfl rfl hd_X5_clear ⟨Nat.le_of_ble_eq_true rfl, Nat.le_of_ble_eq_true rfl⟩) (tg_preV hAm hA hw h18 (q := vwCl[6]) rfl) rfl rfl hl.1 rfl (lv_room (Nat.le_of_ble_eq_true rfl)) dX6_meet_7 ⟨Nat.le_of_ble_eq_true rfl, Nat.le_of_ble_eq_true rfl⟩) hA hw (fun G_1 H locs hp hw => ?_)
  obtain ⟨h18, hu⟩ := hp
  have hco := (hu 8 (by omega)).trans hco
  have h17 := (hu 17 (by omega)).trans h17
  have h19 := (hu 19 (by omega)).trans h19
  have h20 := (hu 20 (by omega)).trans h20
  have h21 := (hu 21 (by omega)).trans h21
  have h22 := (hu 22 (by omega)).trans h22
  have h23 := (hu 23 (by omega)).trans h23
  have hca := (hu (40 + 3 * a0) (by omega)).trans hca
  have hcb := (hu (40 + 3 * b0) (by omega)).trans hcb
  have hI := hI.scr (fun t9 h9 => hu t9 (by omega))
  have hR := fun (c9 : Nat) (h9 : c9 < 7) => (hR c9 h9).imp (fun f e1 => (hu (24 + c9) (by omega)).trans e1)
  have HO := fun (t9 : Nat) (h9 : t9 < 17 ∨ 31 ≤ t9) => (hu t9 (by omega)).trans (HO t9 h9)
  refine lv_aload_n hx hb dX6_meet_10 rfl (lv_at hl 0 rfl) ?_
  refine tg_get (v := .ref (ad 17)) hx hb hown hAm hw lyX6 hco rfl 5 (by decide) qw_230 (fun _ h9 => h9) rfl dX6_meet_11 ?_
  refine tg_getN (v := .ref (ad 18)) hx hb hown hAm hw lyX2 h17 rfl 0 (by decide) qw_108 (fun _ h9 => h9) rfl dX6_meet_14 ?_
  refine lv_aload_n hx hb dX6_meet_17 rfl (lv_at hl 0 rfl) ?_
  refine lv_iload_n hx hb dX6_meet_18 rfl (lv_at hl 1 rfl) ?_
  refine tg_callRr (va_runV (As := [.int (nI a0)]) (rest := [.ref (ad 18)]) (Ts := []) ⟨hx, hb, hml, hown, fun _ h9 => absurd h9 List.not_mem_nil⟩ (co_changeAt l E _ ad v G_1 hI a0 (by omega)) (rc_cwV hAm qw_432 qw_1 qw_435 qw_434 qs_9 rfl rfl hd_X6_changeAt ⟨Nat.le_of_ble_eq_true rfl, Nat.le_of_ble_eq_true rfl⟩) (tg_preV hAm hA hw hco (q := vwCl[7]) rfl) rfl rfl hl.1 rfl (lv_room (Nat.le_of_ble_eq_true rfl)) dX6_meet_19 ⟨Nat.le_of_ble_eq_true rfl, Nat.le_of_ble_eq_true rfl⟩) hA hw (fun H locs hw => ?_)
  refine tg_callv (va_runVN (As := [.ref (ad (40 + 3 * a0))]) (rest := []) (Ts := []) ⟨hx, hb, hml, hown, fun _ h9 => absurd h9 List.not_mem_nil⟩ (ch_addLastOf l E _ ad v a0 G_1 (hI.cs (by omega)) (t := 18) (by omega) h18 h19) (rc_cnV hAm qw_450 qw_6 qw_453 qw_452 qs_10 rfl rfl hd_X5_addLastOf ⟨Nat.le_of_ble_eq_true rfl, Nat.le_of_ble_eq_true rfl⟩) (tg_preV hAm hA hw h18 (q := vwCl[6]) rfl) rfl rfl hl.1 rfl (lv_room (Nat.le_of_ble_eq_true rfl)) dX6_meet_22 ⟨Nat.le_of_ble_eq_true rfl, Nat.le_of_ble_eq_true rfl⟩) hA hw (fun G_3 H locs hp hw => ?_)
  obtain ⟨hm18, hu⟩ := hp
  have hco := (hu 8 (by omega)).trans hco
  have h17 := (hu 17 (by omega)).trans h17
  have h20 := (hu 20 (by omega)).trans h20
  have h21 := (hu 21 (by omega)).trans h21
  have h22 := (hu 22 (by omega)).trans h22
  have h23 := (hu 23 (by omega)).trans h23
  have hca := (hu (40 + 3 * a0) (by omega)).trans hca
  have hcb := (hu (40 + 3 * b0) (by omega)).trans hcb
  have hI := hI.scr (fun t9 h9 => hu t9 (by omega))
  have hR := fun (c9 : Nat) (h9 : c9 < 7) => (hR c9 h9).imp (fun f e1 => (hu (24 + c9) (by omega)).trans e1)
  have HO := fun (t9 : Nat) (h9 : t9 < 17 ∨ 31 ≤ t9) => (hu t9 (by omega)).trans (HO t9 h9)
  obtain ⟨h18, ⟨f18, h19, hf18⟩, hl18, hb18⟩ := id hm18
  refine lv_aload_n hx hb dX6_meet_25 rfl (lv_at hl 0 rfl) ?_
  refine tg_get (v := .ref (ad 17)) hx hb hown hAm hw lyX6 hco rfl 5 (by decide) qw_230 (fun _ h9 => h9) rfl dX6_meet_26 ?_
  refine tg_getN (v := .ref (ad 20)) hx hb hown hAm hw lyX2 h17 rfl 1 (by decide) qw_110 (fun _ h9 => h9) rfl dX6_meet_29 ?_
  refine tg_callv (va_runVN (As := []) (rest := []) (Ts := []) ⟨hx, hb, hml, hown, fun _ h9 => absurd h9 List.not_mem_nil⟩ (sm_clear l E _ G_3 (n9 := L2.length) h20) (rc_cnV hAm qw_428 qw_6 qw_431 qw_430 qs_8 rfl rfl hd_X5_clear ⟨Nat.le_of_ble_eq_true rfl, Nat.le_of_ble_eq_true rfl⟩) (tg_preV hAm hA hw h20 (q := vwCl[6]) rfl) rfl rfl hl.1 rfl (lv_room (Nat.le_of_ble_eq_true rfl)) dX6_meet_32 ⟨Nat.le_of_ble_eq_true rfl, Nat.le_of_ble_eq_true rfl⟩) hA hw (fun G_5 H locs hp hw => ?_)
  obtain ⟨h20, hu⟩ := hp
  have hco := (hu 8 (by omega)).trans hco
  have h17 := (hu 17 (by omega)).trans h17
  have h18 := (hu 18 (by omega)).trans h18
  have h19 := (hu 19 (by omega)).trans h19
  have h21 := (hu 21 (by omega)).trans h21
  have h22 := (hu 22 (by omega)).trans h22
  have h23 := (hu 23 (by omega)).trans h23
  have hca := (hu (40 + 3 * a0) (by omega)).trans hca
  have hcb := (hu (40 + 3 * b0) (by omega)).trans hcb
  have hI := hI.scr (fun t9 h9 => hu t9 (by omega))
  have hR := fun (c9 : Nat) (h9 : c9 < 7) => (hR c9 h9).imp (fun f e1 => (hu (24 + c9) (by omega)).trans e1)
  have HO := fun (t9 : Nat) (h9 : t9 < 17 ∨ 31 ≤ t9) => (hu t9 (by omega)).trans (HO t9 h9)
  have hm18 := hm18.of (hu _ (by omega)) (hu _ (by omega))
  refine lv_aload_n hx hb dX6_meet_35 rfl (lv_at hl 0 rfl) ?_
  refine tg_get (v := .ref (ad 17)) hx hb hown hAm hw lyX6 hco rfl 5 (by decide) qw_230 (fun _ h9 => h9) rfl dX6_meet_36 ?_
  refine tg_getN (v := .ref (ad 20)) hx hb hown hAm hw lyX2 h17 rfl 1 (by decide) qw_110 (fun _ h9 => h9) rfl dX6_meet_39 ?_
  refine lv_aload_n hx hb dX6_meet_42 rfl (lv_at hl 0 rfl) ?_
  refine lv_iload_n hx hb dX6_meet_43 rfl (lv_at hl 2 rfl) ?_
  refine tg_callRr (va_runV (As := [.int (nI b0)]) (rest := [.ref (ad 20)]) (Ts := []) ⟨hx, hb, hml, hown, fun _ h9 => absurd h9 List.not_mem_nil⟩ (co_changeAt l E _ ad v G_5 hI b0 (by omega)) (rc_cwV hAm qw_432 qw_1 qw_435 qw_434 qs_9 rfl rfl hd_X6_changeAt ⟨Nat.le_of_ble_eq_true rfl, Nat.le_of_ble_eq_true rfl⟩) (tg_preV hAm hA hw hco (q := vwCl[7]) rfl) rfl rfl hl.1 rfl (lv_room (Nat.le_of_ble_eq_true rfl)) dX6_meet_44 ⟨Nat.le_of_ble_eq_true rfl, Nat.le_of_ble_eq_true rfl⟩) hA hw (fun H locs hw => ?_)
  refine tg_callv (va_runVN (As := [.ref (ad (40 + 3 * b0))]) (rest := []) (Ts := []) ⟨hx, hb, hml, hown, fun _ h9 => absurd h9 List.not_mem_nil⟩ (ch_addLastOf l E _ ad v b0 G_5 (hI.cs (by omega)) (t := 20) (by omega) h20 h21) (rc_cnV hAm qw_450 qw_6 qw_453 qw_452 qs_10 rfl rfl hd_X5_addLastOf ⟨Nat.le_of_ble_eq_true rfl, Nat.le_of_ble_eq_true rfl⟩) (tg_preV hAm hA hw h20 (q := vwCl[6]) rfl) rfl rfl hl.1 rfl (lv_room (Nat.le_of_ble_eq_true rfl)) dX6_meet_47 ⟨Nat.le_of_ble_eq_true rfl, Nat.le_of_ble_eq_true rfl⟩) hA hw (fun G_7 H locs hp hw => ?_)
  obtain ⟨hm20, hu⟩ := hp
  have hco := (hu 8 (by omega)).trans hco
  have h17 := (hu 17 (by omega)).trans h17
  have h18 := (hu 18 (by omega)).trans h18
  have h19 := (hu 19 (by omega)).trans h19
  have h22 := (hu 22 (by omega)).trans h22
  have h23 := (hu 23 (by omega)).trans h23
  have hca := (hu (40 + 3 * a0) (by omega)).trans hca
  have hcb := (hu (40 + 3 * b0) (by omega)).trans hcb
  have hI := hI.scr (fun t9 h9 => hu t9 (by omega))
  have hR := fun (c9 : Nat) (h9 : c9 < 7) => (hR c9 h9).imp (fun f e1 => (hu (24 + c9) (by omega)).trans e1)
  have HO := fun (t9 : Nat) (h9 : t9 < 17 ∨ 31 ≤ t9) => (hu t9 (by omega)).trans (HO t9 h9)
  have hm18 := hm18.of (hu _ (by omega)) (hu _ (by omega))
  obtain ⟨h20, ⟨f20, h21, hf20⟩, hl20, hb20⟩ := id hm20
  refine lv_aload_n hx hb dX6_meet_50 rfl (lv_at hl 0 rfl) ?_
  refine tg_get (v := .ref (ad 17)) hx hb hown hAm hw lyX6 hco rfl 5 (by decide) qw_230 (fun _ h9 => h9) rfl dX6_meet_51 ?_
  refine tg_callv (va_runVN (As := []) (rest := []) (Ts := []) ⟨hx, hb, hml, hown, fun _ h9 => absurd h9 List.not_mem_nil⟩ (du_weigh l E _ G_7 (A9 := samp v a0) (B9 := samp v b0) (w := fun c9 => ad (24 + c9)) hf18 hf20 hl18 hl20 (app_lt (by decide) hb18 hb20) hrw hR h17 h18 h19 h20 h21 h22 h23) (rc_cnV hAm qw_466 qw_7 qw_469 qw_468 qs_13 rfl rfl hd_X2_weigh ⟨Nat.le_of_ble_eq_true rfl, Nat.le_of_ble_eq_true rfl⟩) (tg_preV hAm hA hw h17 (q := vwCl[3]) rfl) rfl rfl hl.1 rfl (lv_room (Nat.le_of_ble_eq_true rfl)) dX6_meet_54 ⟨Nat.le_of_ble_eq_true rfl, Nat.le_of_ble_eq_true rfl⟩) hA hw (fun G_9 H locs hp hw => ?_)
  obtain ⟨h17, ⟨gl2, h22⟩, hR, hu⟩ := hp
  have hm18 := hm18.of (hu _ (by omega)) (hu _ (by omega))
  have hm20 := hm20.of (hu _ (by omega)) (hu _ (by omega))
  have h23 := (hu 23 (by omega)).trans h23
  have HO := fun (t9 : Nat) (h9 : t9 < 17 ∨ 31 ≤ t9) => (hu t9 (by omega)).trans (HO t9 h9)
  exact tg_vret hx hb hr hlocks hw (⟨⟨hm18, hm20, h17, ⟨_, h22⟩, ⟨_, h23, hrw⟩, hR⟩, HO⟩) (Nat.le_of_ble_eq_true rfl) (Nat.le_of_ble_eq_true rfl) dX6_meet_57
theorem hd_X2_outcome : yX2_outcome.cls ≠ "java/lang/invoke/MethodHandle" ∧ yX2_outcome.cls ≠ "java/lang/invoke/VarHandle" ∧ (parseMethodDescriptor yX2_outcome.desc).map (fun d => d.parameters.length) = some 2 := by decide +kernel
set_option maxHeartbeats 4000000 in
set_option maxRecDepth 100000 in
theorem co_duelFact0 (l : Launch) (E : rc_E) (sz : Nat) (ad : Nat → Nat) (v : av_V) (G : tg_G) (hI : ssH E ad v G) {A9 B9 : List Nat} (hD : duM E ad A9 B9 G) : tg_M l yX6_duelFact [Cond.code yX6_duelFact cX6_duelFact 2 (some FieldType.int)] { frames := 1, cells := 0, slots := 0, locals := 22 } E [.ref (ad 8), .int 0] G sz (tg_Qi E (fun r u => r = nI (outD v A9 B9) ∧ u = G)) 0 0 := by
  refine tg_in (cc := cX6_duelFact) (maxL := 2) (ret := (some FieldType.int)) (tg_Qi E (fun r u => r = nI (outD v A9 B9) ∧ u = G)) (by decide) rfl (Nat.le_of_ble_eq_true rfl) ?_
  intro p e s m args below meth cd ls A hx hb hr hml hown hlocks hin hA hAm hw hl
  have hown : s.vm.findClass RX6 = some m.cls := hown
  have hl : lv_has ls 2 [(0, .ref (ad 8)), (1, .int 0)] := hl
  obtain ⟨h0, hco, ⟨hLm, hLc, hLr⟩, hbi, hma, hch, hru⟩ := id hI
  have hn60 := h0.1
  obtain ⟨hD1, hD2, h17, h22, h23, hR⟩ := id hD
  have h18 := hD1.1
  have h20 := hD2.1
  have hal := (alN_sym hD1.2.2.1 hD2.2.2.1).2
  have hhi := hiN_le A9 B9
  have hlo := loN_le A9 B9
  have hen : vN v 0 < 7 := h0.2.2.2.2.2.1
  have hlv0 : vN v 1 ≤ 200 := h0.2.2.2.2.2.2.1
  have hlv : vN v 1 * alN A9 B9 < 2 ^ 31 := Nat.lt_of_le_of_lt (Nat.mul_le_mul hlv0 hal) (by decide)
  refine lv_iload_n hx hb dX6_duelFact_0 rfl (lv_at hl 1 rfl) ?_
  refine lv_tableIn (tgt := 32) hx hb dX6_duelFact_1 (by decide) (by decide) rfl (by decide) ?_
  refine lv_aload_n hx hb dX6_duelFact_32 rfl (lv_at hl 0 rfl) ?_
  refine tg_get (v := .ref (ad 17)) hx hb hown hAm hw lyX6 hco rfl 5 (by decide) qw_230 (fun _ h9 => h9) rfl dX6_duelFact_33 ?_
  refine lv_aload_n hx hb dX6_duelFact_36 rfl (lv_at hl 0 rfl) ?_
  refine tg_get (v := .int (nI (vN v 0))) hx hb hown hAm hw lyX6 hco rfl 7 (by decide) qw_232 (fun _ h9 => h9) rfl dX6_duelFact_37 ?_
  refine lv_aload_n hx hb dX6_duelFact_40 rfl (lv_at hl 0 rfl) ?_
  refine tg_get (v := .int (nI (vN v 1))) hx hb hown hAm hw lyX6 hco rfl 8 (by decide) qw_233 (fun _ h9 => h9) rfl dX6_duelFact_41 ?_
  refine tg_callRi (va_runVN (As := [.int (nI (vN v 0)), .int (nI (vN v 1))]) (rest := []) (Ts := []) ⟨hx, hb, hml, hown, fun _ h9 => absurd h9 List.not_mem_nil⟩ (du_outcome l E _ G (nA := A9.length) (nB := B9.length) (hi := hiN A9 B9) (lo := loN A9 B9) (al := alN A9 B9) (en := vN v 0) (lv := vN v 1) ⟨hD1.2.2.1, hD2.2.2.1⟩ (by omega) (by omega) (by omega) hlv h17 h18 h20) (rc_cnV hAm qw_499 qw_7 qw_502 qw_501 qs_21 rfl rfl hd_X2_outcome ⟨Nat.le_of_ble_eq_true rfl, Nat.le_of_ble_eq_true rfl⟩) (tg_preV hAm hA hw h17 (q := vwCl[3]) rfl) rfl rfl hl.1 rfl (lv_room (Nat.le_of_ble_eq_true rfl)) dX6_duelFact_44 ⟨Nat.le_of_ble_eq_true rfl, Nat.le_of_ble_eq_true rfl⟩) hA hw (fun H locs hw => ?_)
  exact tg_iret hx hb hr hlocks hw (⟨rfl, rfl⟩) (Nat.le_of_ble_eq_true rfl) (Nat.le_of_ble_eq_true rfl) dX6_duelFact_47
set_option maxHeartbeats 4000000 in
set_option maxRecDepth 100000 in
theorem co_duelFact1 (l : Launch) (E : rc_E) (sz : Nat) (ad : Nat → Nat) (v : av_V) (G : tg_G) (hI : ssH E ad v G) {A9 B9 : List Nat} (hD : duM E ad A9 B9 G) : tg_M l yX6_duelFact [Cond.code yX6_duelFact cX6_duelFact 2 (some FieldType.int)] { frames := 0, cells := 0, slots := 0, locals := 0 } E [.ref (ad 8), .int 1] G sz (tg_Qi E (fun r u => r = scI A9 B9 ∧ u = G)) 0 0 := by
  refine tg_in (cc := cX6_duelFact) (maxL := 2) (ret := (some FieldType.int)) (tg_Qi E (fun r u => r = scI A9 B9 ∧ u = G)) (by decide) rfl (Nat.le_of_ble_eq_true rfl) ?_
  intro p e s m args below meth cd ls A hx hb hr hml hown hlocks hin hA hAm hw hl
  have hown : s.vm.findClass RX6 = some m.cls := hown
  have hl : lv_has ls 2 [(0, .ref (ad 8)), (1, .int 1)] := hl
  obtain ⟨h0, hco, ⟨hLm, hLc, hLr⟩, hbi, hma, hch, hru⟩ := id hI
  have hn60 := h0.1
  obtain ⟨hD1, hD2, h17, h22, h23, hR⟩ := id hD
  have h18 := hD1.1
  have h20 := hD2.1
  have hal := (alN_sym hD1.2.2.1 hD2.2.2.1).2
  have hhi := hiN_le A9 B9
  have hlo := loN_le A9 B9
  have hen : vN v 0 < 7 := h0.2.2.2.2.2.1
  have hlv0 : vN v 1 ≤ 200 := h0.2.2.2.2.2.2.1
  have hlv : vN v 1 * alN A9 B9 < 2 ^ 31 := Nat.lt_of_le_of_lt (Nat.mul_le_mul hlv0 hal) (by decide)
  refine lv_iload_n hx hb dX6_duelFact_0 rfl (lv_at hl 1 rfl) ?_
  refine lv_tableIn (tgt := 48) hx hb dX6_duelFact_1 (by decide) (by decide) rfl (by decide) ?_
  refine lv_aload_n hx hb dX6_duelFact_48 rfl (lv_at hl 0 rfl) ?_
  refine tg_get (v := .ref (ad 17)) hx hb hown hAm hw lyX6 hco rfl 5 (by decide) qw_230 (fun _ h9 => h9) rfl dX6_duelFact_49 ?_
  refine tg_getN (v := .int (scI A9 B9)) hx hb hown hAm hw lyX2 h17 rfl 6 (by decide) qw_116 (fun _ h9 => h9) rfl dX6_duelFact_52 ?_
  exact tg_iret hx hb hr hlocks hw (⟨rfl, rfl⟩) (Nat.le_of_ble_eq_true rfl) (Nat.le_of_ble_eq_true rfl) dX6_duelFact_55
set_option maxHeartbeats 4000000 in
set_option maxRecDepth 100000 in
theorem co_duelFact2 (l : Launch) (E : rc_E) (sz : Nat) (ad : Nat → Nat) (v : av_V) (G : tg_G) (hI : ssH E ad v G) {A9 B9 : List Nat} (hD : duM E ad A9 B9 G) : tg_M l yX6_duelFact [Cond.code yX6_duelFact cX6_duelFact 2 (some FieldType.int)] { frames := 0, cells := 0, slots := 0, locals := 0 } E [.ref (ad 8), .int 2] G sz (tg_Qi E (fun r u => r = nI (hiN A9 B9) ∧ u = G)) 0 0 := by
  refine tg_in (cc := cX6_duelFact) (maxL := 2) (ret := (some FieldType.int)) (tg_Qi E (fun r u => r = nI (hiN A9 B9) ∧ u = G)) (by decide) rfl (Nat.le_of_ble_eq_true rfl) ?_
  intro p e s m args below meth cd ls A hx hb hr hml hown hlocks hin hA hAm hw hl
  have hown : s.vm.findClass RX6 = some m.cls := hown
  have hl : lv_has ls 2 [(0, .ref (ad 8)), (1, .int 2)] := hl
  obtain ⟨h0, hco, ⟨hLm, hLc, hLr⟩, hbi, hma, hch, hru⟩ := id hI
  have hn60 := h0.1
  obtain ⟨hD1, hD2, h17, h22, h23, hR⟩ := id hD
  have h18 := hD1.1
  have h20 := hD2.1
  have hal := (alN_sym hD1.2.2.1 hD2.2.2.1).2
  have hhi := hiN_le A9 B9
  have hlo := loN_le A9 B9
  have hen : vN v 0 < 7 := h0.2.2.2.2.2.1
  have hlv0 : vN v 1 ≤ 200 := h0.2.2.2.2.2.2.1
  have hlv : vN v 1 * alN A9 B9 < 2 ^ 31 := Nat.lt_of_le_of_lt (Nat.mul_le_mul hlv0 hal) (by decide)
  refine lv_iload_n hx hb dX6_duelFact_0 rfl (lv_at hl 1 rfl) ?_
  refine lv_tableIn (tgt := 56) hx hb dX6_duelFact_1 (by decide) (by decide) rfl (by decide) ?_
  refine lv_aload_n hx hb dX6_duelFact_56 rfl (lv_at hl 0 rfl) ?_
  refine tg_get (v := .ref (ad 17)) hx hb hown hAm hw lyX6 hco rfl 5 (by decide) qw_230 (fun _ h9 => h9) rfl dX6_duelFact_57 ?_
  refine tg_getN (v := .int (nI (hiN A9 B9))) hx hb hown hAm hw lyX2 h17 rfl 7 (by decide) qw_118 (fun _ h9 => h9) rfl dX6_duelFact_60 ?_
  exact tg_iret hx hb hr hlocks hw (⟨rfl, rfl⟩) (Nat.le_of_ble_eq_true rfl) (Nat.le_of_ble_eq_true rfl) dX6_duelFact_63
set_option maxHeartbeats 4000000 in
set_option maxRecDepth 100000 in
theorem co_duelFact3 (l : Launch) (E : rc_E) (sz : Nat) (ad : Nat → Nat) (v : av_V) (G : tg_G) (hI : ssH E ad v G) {A9 B9 : List Nat} (hD : duM E ad A9 B9 G) : tg_M l yX6_duelFact [Cond.code yX6_duelFact cX6_duelFact 2 (some FieldType.int)] { frames := 0, cells := 0, slots := 0, locals := 0 } E [.ref (ad 8), .int 3] G sz (tg_Qi E (fun r u => r = nI (loN A9 B9) ∧ u = G)) 0 0 := by
  refine tg_in (cc := cX6_duelFact) (maxL := 2) (ret := (some FieldType.int)) (tg_Qi E (fun r u => r = nI (loN A9 B9) ∧ u = G)) (by decide) rfl (Nat.le_of_ble_eq_true rfl) ?_
  intro p e s m args below meth cd ls A hx hb hr hml hown hlocks hin hA hAm hw hl
  have hown : s.vm.findClass RX6 = some m.cls := hown
  have hl : lv_has ls 2 [(0, .ref (ad 8)), (1, .int 3)] := hl
  obtain ⟨h0, hco, ⟨hLm, hLc, hLr⟩, hbi, hma, hch, hru⟩ := id hI
  have hn60 := h0.1
  obtain ⟨hD1, hD2, h17, h22, h23, hR⟩ := id hD
  have h18 := hD1.1
  have h20 := hD2.1
  have hal := (alN_sym hD1.2.2.1 hD2.2.2.1).2
  have hhi := hiN_le A9 B9
  have hlo := loN_le A9 B9
  have hen : vN v 0 < 7 := h0.2.2.2.2.2.1
  have hlv0 : vN v 1 ≤ 200 := h0.2.2.2.2.2.2.1
  have hlv : vN v 1 * alN A9 B9 < 2 ^ 31 := Nat.lt_of_le_of_lt (Nat.mul_le_mul hlv0 hal) (by decide)
  refine lv_iload_n hx hb dX6_duelFact_0 rfl (lv_at hl 1 rfl) ?_
  refine lv_tableIn (tgt := 64) hx hb dX6_duelFact_1 (by decide) (by decide) rfl (by decide) ?_
  refine lv_aload_n hx hb dX6_duelFact_64 rfl (lv_at hl 0 rfl) ?_
  refine tg_get (v := .ref (ad 17)) hx hb hown hAm hw lyX6 hco rfl 5 (by decide) qw_230 (fun _ h9 => h9) rfl dX6_duelFact_65 ?_
  refine tg_getN (v := .int (nI (loN A9 B9))) hx hb hown hAm hw lyX2 h17 rfl 8 (by decide) qw_120 (fun _ h9 => h9) rfl dX6_duelFact_68 ?_
  exact tg_iret hx hb hr hlocks hw (⟨rfl, rfl⟩) (Nat.le_of_ble_eq_true rfl) (Nat.le_of_ble_eq_true rfl) dX6_duelFact_71
set_option maxHeartbeats 4000000 in
set_option maxRecDepth 100000 in
theorem co_duelFact4 (l : Launch) (E : rc_E) (sz : Nat) (ad : Nat → Nat) (v : av_V) (G : tg_G) (hI : ssH E ad v G) {A9 B9 : List Nat} (hD : duM E ad A9 B9 G) : tg_M l yX6_duelFact [Cond.code yX6_duelFact cX6_duelFact 2 (some FieldType.int)] { frames := 0, cells := 0, slots := 0, locals := 0 } E [.ref (ad 8), .int 4] G sz (tg_Qi E (fun r u => r = nI (alN A9 B9) ∧ u = G)) 0 0 := by
  refine tg_in (cc := cX6_duelFact) (maxL := 2) (ret := (some FieldType.int)) (tg_Qi E (fun r u => r = nI (alN A9 B9) ∧ u = G)) (by decide) rfl (Nat.le_of_ble_eq_true rfl) ?_
  intro p e s m args below meth cd ls A hx hb hr hml hown hlocks hin hA hAm hw hl
  have hown : s.vm.findClass RX6 = some m.cls := hown
  have hl : lv_has ls 2 [(0, .ref (ad 8)), (1, .int 4)] := hl
  obtain ⟨h0, hco, ⟨hLm, hLc, hLr⟩, hbi, hma, hch, hru⟩ := id hI
  have hn60 := h0.1
  obtain ⟨hD1, hD2, h17, h22, h23, hR⟩ := id hD
  have h18 := hD1.1
  have h20 := hD2.1
  have hal := (alN_sym hD1.2.2.1 hD2.2.2.1).2
  have hhi := hiN_le A9 B9
  have hlo := loN_le A9 B9
  have hen : vN v 0 < 7 := h0.2.2.2.2.2.1
  have hlv0 : vN v 1 ≤ 200 := h0.2.2.2.2.2.2.1
  have hlv : vN v 1 * alN A9 B9 < 2 ^ 31 := Nat.lt_of_le_of_lt (Nat.mul_le_mul hlv0 hal) (by decide)
  refine lv_iload_n hx hb dX6_duelFact_0 rfl (lv_at hl 1 rfl) ?_
  refine lv_tableOut (tgt := 72) hx hb dX6_duelFact_1 (by decide) (by decide) ?_
  refine lv_aload_n hx hb dX6_duelFact_72 rfl (lv_at hl 0 rfl) ?_
  refine tg_get (v := .ref (ad 17)) hx hb hown hAm hw lyX6 hco rfl 5 (by decide) qw_230 (fun _ h9 => h9) rfl dX6_duelFact_73 ?_
  refine tg_getN (v := .int (nI (alN A9 B9))) hx hb hown hAm hw lyX2 h17 rfl 9 (by decide) qw_122 (fun _ h9 => h9) rfl dX6_duelFact_76 ?_
  exact tg_iret hx hb hr hlocks hw (⟨rfl, rfl⟩) (Nat.le_of_ble_eq_true rfl) (Nat.le_of_ble_eq_true rfl) dX6_duelFact_79
