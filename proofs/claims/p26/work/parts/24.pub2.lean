theorem hd_X6_meet : yX6_meet.cls ≠ "java/lang/invoke/MethodHandle" ∧ yX6_meet.cls ≠ "java/lang/invoke/VarHandle" ∧ (parseMethodDescriptor yX6_meet.desc).map (fun d => d.parameters.length) = some 2 := by decide +kernel
theorem hd_X6_duelFact : yX6_duelFact.cls ≠ "java/lang/invoke/MethodHandle" ∧ yX6_duelFact.cls ≠ "java/lang/invoke/VarHandle" ∧ (parseMethodDescriptor yX6_duelFact.desc).map (fun d => d.parameters.length) = some 1 := by decide +kernel
set_option maxHeartbeats 4000000 in
set_option maxRecDepth 100000 in
theorem pu_verdict0 (l : Launch) (E : rc_E) (sz : Nat) (ad : Nat → Nat) (v : av_V) (G : tg_G) (hI : ssH E ad v G) (hS : scH E ad G) (a0 b0 : Nat) (ha0 : a0 < 6) (hb0 : b0 < 6) : tg_M l yX6_verdict [Cond.code yX6_verdict cX6_verdict 4 (some FieldType.int)] { frames := 5, cells := 0, slots := 0, locals := 109 } E [.ref (ad 8), .int (nI a0), .int (nI b0), .int 0] G sz (tg_Qi E (fun r u => r = nI (outD v (samp v a0) (samp v b0)) ∧ scH E ad u ∧ ∀ t9, t9 < 15 ∨ 31 ≤ t9 → u t9 = G t9)) 0 0 := by
  refine tg_in (cc := cX6_verdict) (maxL := 4) (ret := (some FieldType.int)) (tg_Qi E (fun r u => r = nI (outD v (samp v a0) (samp v b0)) ∧ scH E ad u ∧ ∀ t9, t9 < 15 ∨ 31 ≤ t9 → u t9 = G t9)) (by decide) rfl (Nat.le_of_ble_eq_true rfl) ?_
  intro p e s m args below meth cd ls A hx hb hr hml hown hlocks hin hA hAm hw hl
  have hown : s.vm.findClass RX6 = some m.cls := hown
  have hl : lv_has ls 4 [(0, .ref (ad 8)), (1, .int (nI a0)), (2, .int (nI b0)), (3, .int 0)] := hl
  obtain ⟨h0, hco, ⟨hLm, hLc, hLr⟩, hbi, hma, hch, hru⟩ := id hI
  have hn60 := h0.1
  have HO := fun (t9 : Nat) (_ : t9 < 15 ∨ 31 ≤ t9) => (rfl : G t9 = G t9)
  refine lv_aload_n hx hb dX6_verdict_0 rfl (lv_at hl 0 rfl) ?_
  refine lv_iload_n hx hb dX6_verdict_1 rfl (lv_at hl 1 rfl) ?_
  refine tg_callRi (va_runV (As := [.int (nI a0)]) (rest := []) (Ts := []) ⟨hx, hb, hml, hown, fun _ h9 => absurd h9 List.not_mem_nil⟩ (co_isNoChange l E _ ad v G hI a0 ha0) (rc_cwV hAm qw_678 qw_1 qw_681 qw_680 qs_46 rfl rfl hd_X6_isNoChange ⟨Nat.le_of_ble_eq_true rfl, Nat.le_of_ble_eq_true rfl⟩) (tg_preV hAm hA hw hco (q := vwCl[7]) rfl) rfl rfl hl.1 rfl (lv_room (Nat.le_of_ble_eq_true rfl)) dX6_verdict_2 ⟨Nat.le_of_ble_eq_true rfl, Nat.le_of_ble_eq_true rfl⟩) hA hw (fun H locs hw => ?_)
  refine lv_if_ne (tgt := 16) hx hb dX6_verdict_5 (by decide) (fun c9 => absurd (by decide) c9) (fun _ => ?_)
  refine lv_aload_n hx hb dX6_verdict_8 rfl (lv_at hl 0 rfl) ?_
  refine lv_iload_n hx hb dX6_verdict_9 rfl (lv_at hl 2 rfl) ?_
  refine tg_callRi (va_runV (As := [.int (nI b0)]) (rest := []) (Ts := []) ⟨hx, hb, hml, hown, fun _ h9 => absurd h9 List.not_mem_nil⟩ (co_isNoChange l E _ ad v G hI b0 hb0) (rc_cwV hAm qw_678 qw_1 qw_681 qw_680 qs_46 rfl rfl hd_X6_isNoChange ⟨Nat.le_of_ble_eq_true rfl, Nat.le_of_ble_eq_true rfl⟩) (tg_preV hAm hA hw hco (q := vwCl[7]) rfl) rfl rfl hl.1 rfl (lv_room (Nat.le_of_ble_eq_true rfl)) dX6_verdict_10 ⟨Nat.le_of_ble_eq_true rfl, Nat.le_of_ble_eq_true rfl⟩) hA hw (fun H locs hw => ?_)
  refine lv_if_eq (tgt := 26) hx hb dX6_verdict_13 (by decide) (fun _ => ?_) (fun c9 => absurd (by decide) c9)
  refine lv_iload_n hx hb dX6_verdict_26 rfl (lv_at hl 3 rfl) ?_
  refine lv_iconst (v := 0) hx hb dX6_verdict_27 (by decide) ?_
  refine lv_iconst (v := 4) hx hb dX6_verdict_28 (by decide) ?_
  refine tg_callRi (va_runS (As := [.int 0, .int 0, .int 4]) (rest := []) (Ts := []) ⟨hx, hb, hml, hown, fun _ h9 => absurd h9 List.not_mem_nil⟩ (lf_isOutside l E _ G 0 0 4 (by decide) (by decide)) (rc_cwS hAm qw_269 qw_1 qw_271 qw_270 rfl rfl hd_X6_isOutside ⟨Nat.le_of_ble_eq_true rfl, Nat.le_of_ble_eq_true rfl⟩) (tg_preS hAm hA hw) rfl rfl hl.1 rfl (lv_room (Nat.le_of_ble_eq_true rfl)) dX6_verdict_29 ⟨Nat.le_of_ble_eq_true rfl, Nat.le_of_ble_eq_true rfl⟩) hA hw (fun H locs hw => ?_)
  refine lv_if_eq (tgt := 45) hx hb dX6_verdict_32 (by decide) (fun _ => ?_) (fun c9 => absurd (by decide) c9)
  refine lv_aload_n hx hb dX6_verdict_45 rfl (lv_at hl 0 rfl) ?_
  refine lv_iload_n hx hb dX6_verdict_46 rfl (lv_at hl 1 rfl) ?_
  refine lv_iload_n hx hb dX6_verdict_47 rfl (lv_at hl 2 rfl) ?_
  refine tg_callv (va_runV (As := [.int (nI a0), .int (nI b0)]) (rest := []) (Ts := []) ⟨hx, hb, hml, hown, fun _ h9 => absurd h9 List.not_mem_nil⟩ (co_meet l E _ ad v G hI hS a0 b0 (by omega) (by omega)) (rc_cwV hAm qw_424 qw_1 qw_427 qw_426 qs_7 rfl rfl hd_X6_meet ⟨Nat.le_of_ble_eq_true rfl, Nat.le_of_ble_eq_true rfl⟩) (tg_preV hAm hA hw hco (q := vwCl[7]) rfl) rfl rfl hl.1 rfl (lv_room (Nat.le_of_ble_eq_true rfl)) dX6_verdict_48 ⟨Nat.le_of_ble_eq_true rfl, Nat.le_of_ble_eq_true rfl⟩) hA hw (fun G_1 H locs hp hw => ?_)
  obtain ⟨hD, hu⟩ := hp
  have hS := scH_meet hS hD hu
  have hco := (hu 8 (by omega)).trans hco
  have hI := hI.scr (fun t9 h9 => hu t9 (by omega))
  have HO := fun (t9 : Nat) (h9 : t9 < 15 ∨ 31 ≤ t9) => (hu t9 (by omega)).trans (HO t9 h9)
  refine lv_aload_n hx hb dX6_verdict_51 rfl (lv_at hl 0 rfl) ?_
  refine lv_iload_n hx hb dX6_verdict_52 rfl (lv_at hl 3 rfl) ?_
  refine tg_callRi (va_runV (As := [.int 0]) (rest := []) (Ts := []) ⟨hx, hb, hml, hown, fun _ h9 => absurd h9 List.not_mem_nil⟩ (co_duelFact0 l E _ ad v G_1 hI hD) (rc_cwV hAm qw_602 qw_1 qw_605 qw_604 qs_41 rfl rfl hd_X6_duelFact ⟨Nat.le_of_ble_eq_true rfl, Nat.le_of_ble_eq_true rfl⟩) (tg_preV hAm hA hw hco (q := vwCl[7]) rfl) rfl rfl hl.1 rfl (lv_room (Nat.le_of_ble_eq_true rfl)) dX6_verdict_53 ⟨Nat.le_of_ble_eq_true rfl, Nat.le_of_ble_eq_true rfl⟩) hA hw (fun H locs hw => ?_)
  exact tg_iret hx hb hr hlocks hw (⟨rfl, hS, HO⟩) (Nat.le_of_ble_eq_true rfl) (Nat.le_of_ble_eq_true rfl) dX6_verdict_56
set_option maxHeartbeats 4000000 in
set_option maxRecDepth 100000 in
theorem pu_verdict1 (l : Launch) (E : rc_E) (sz : Nat) (ad : Nat → Nat) (v : av_V) (G : tg_G) (hI : ssH E ad v G) (hS : scH E ad G) (a0 b0 : Nat) (ha0 : a0 < 6) (hb0 : b0 < 6) : tg_M l yX6_verdict [Cond.code yX6_verdict cX6_verdict 4 (some FieldType.int)] { frames := 5, cells := 0, slots := 0, locals := 109 } E [.ref (ad 8), .int (nI a0), .int (nI b0), .int 1] G sz (tg_Qi E (fun r u => r = scI (samp v a0) (samp v b0) ∧ scH E ad u ∧ ∀ t9, t9 < 15 ∨ 31 ≤ t9 → u t9 = G t9)) 0 0 := by
  refine tg_in (cc := cX6_verdict) (maxL := 4) (ret := (some FieldType.int)) (tg_Qi E (fun r u => r = scI (samp v a0) (samp v b0) ∧ scH E ad u ∧ ∀ t9, t9 < 15 ∨ 31 ≤ t9 → u t9 = G t9)) (by decide) rfl (Nat.le_of_ble_eq_true rfl) ?_
  intro p e s m args below meth cd ls A hx hb hr hml hown hlocks hin hA hAm hw hl
  have hown : s.vm.findClass RX6 = some m.cls := hown
  have hl : lv_has ls 4 [(0, .ref (ad 8)), (1, .int (nI a0)), (2, .int (nI b0)), (3, .int 1)] := hl
  obtain ⟨h0, hco, ⟨hLm, hLc, hLr⟩, hbi, hma, hch, hru⟩ := id hI
  have hn60 := h0.1
  have HO := fun (t9 : Nat) (_ : t9 < 15 ∨ 31 ≤ t9) => (rfl : G t9 = G t9)
  refine lv_aload_n hx hb dX6_verdict_0 rfl (lv_at hl 0 rfl) ?_
  refine lv_iload_n hx hb dX6_verdict_1 rfl (lv_at hl 1 rfl) ?_
  refine tg_callRi (va_runV (As := [.int (nI a0)]) (rest := []) (Ts := []) ⟨hx, hb, hml, hown, fun _ h9 => absurd h9 List.not_mem_nil⟩ (co_isNoChange l E _ ad v G hI a0 ha0) (rc_cwV hAm qw_678 qw_1 qw_681 qw_680 qs_46 rfl rfl hd_X6_isNoChange ⟨Nat.le_of_ble_eq_true rfl, Nat.le_of_ble_eq_true rfl⟩) (tg_preV hAm hA hw hco (q := vwCl[7]) rfl) rfl rfl hl.1 rfl (lv_room (Nat.le_of_ble_eq_true rfl)) dX6_verdict_2 ⟨Nat.le_of_ble_eq_true rfl, Nat.le_of_ble_eq_true rfl⟩) hA hw (fun H locs hw => ?_)
  refine lv_if_ne (tgt := 16) hx hb dX6_verdict_5 (by decide) (fun c9 => absurd (by decide) c9) (fun _ => ?_)
  refine lv_aload_n hx hb dX6_verdict_8 rfl (lv_at hl 0 rfl) ?_
  refine lv_iload_n hx hb dX6_verdict_9 rfl (lv_at hl 2 rfl) ?_
  refine tg_callRi (va_runV (As := [.int (nI b0)]) (rest := []) (Ts := []) ⟨hx, hb, hml, hown, fun _ h9 => absurd h9 List.not_mem_nil⟩ (co_isNoChange l E _ ad v G hI b0 hb0) (rc_cwV hAm qw_678 qw_1 qw_681 qw_680 qs_46 rfl rfl hd_X6_isNoChange ⟨Nat.le_of_ble_eq_true rfl, Nat.le_of_ble_eq_true rfl⟩) (tg_preV hAm hA hw hco (q := vwCl[7]) rfl) rfl rfl hl.1 rfl (lv_room (Nat.le_of_ble_eq_true rfl)) dX6_verdict_10 ⟨Nat.le_of_ble_eq_true rfl, Nat.le_of_ble_eq_true rfl⟩) hA hw (fun H locs hw => ?_)
  refine lv_if_eq (tgt := 26) hx hb dX6_verdict_13 (by decide) (fun _ => ?_) (fun c9 => absurd (by decide) c9)
  refine lv_iload_n hx hb dX6_verdict_26 rfl (lv_at hl 3 rfl) ?_
  refine lv_iconst (v := 0) hx hb dX6_verdict_27 (by decide) ?_
  refine lv_iconst (v := 4) hx hb dX6_verdict_28 (by decide) ?_
  refine tg_callRi (va_runS (As := [.int 1, .int 0, .int 4]) (rest := []) (Ts := []) ⟨hx, hb, hml, hown, fun _ h9 => absurd h9 List.not_mem_nil⟩ (lf_isOutside l E _ G 1 0 4 (by decide) (by decide)) (rc_cwS hAm qw_269 qw_1 qw_271 qw_270 rfl rfl hd_X6_isOutside ⟨Nat.le_of_ble_eq_true rfl, Nat.le_of_ble_eq_true rfl⟩) (tg_preS hAm hA hw) rfl rfl hl.1 rfl (lv_room (Nat.le_of_ble_eq_true rfl)) dX6_verdict_29 ⟨Nat.le_of_ble_eq_true rfl, Nat.le_of_ble_eq_true rfl⟩) hA hw (fun H locs hw => ?_)
  refine lv_if_eq (tgt := 45) hx hb dX6_verdict_32 (by decide) (fun _ => ?_) (fun c9 => absurd (by decide) c9)
  refine lv_aload_n hx hb dX6_verdict_45 rfl (lv_at hl 0 rfl) ?_
  refine lv_iload_n hx hb dX6_verdict_46 rfl (lv_at hl 1 rfl) ?_
  refine lv_iload_n hx hb dX6_verdict_47 rfl (lv_at hl 2 rfl) ?_
  refine tg_callv (va_runV (As := [.int (nI a0), .int (nI b0)]) (rest := []) (Ts := []) ⟨hx, hb, hml, hown, fun _ h9 => absurd h9 List.not_mem_nil⟩ (co_meet l E _ ad v G hI hS a0 b0 (by omega) (by omega)) (rc_cwV hAm qw_424 qw_1 qw_427 qw_426 qs_7 rfl rfl hd_X6_meet ⟨Nat.le_of_ble_eq_true rfl, Nat.le_of_ble_eq_true rfl⟩) (tg_preV hAm hA hw hco (q := vwCl[7]) rfl) rfl rfl hl.1 rfl (lv_room (Nat.le_of_ble_eq_true rfl)) dX6_verdict_48 ⟨Nat.le_of_ble_eq_true rfl, Nat.le_of_ble_eq_true rfl⟩) hA hw (fun G_1 H locs hp hw => ?_)
  obtain ⟨hD, hu⟩ := hp
  have hS := scH_meet hS hD hu
  have hco := (hu 8 (by omega)).trans hco
  have hI := hI.scr (fun t9 h9 => hu t9 (by omega))
  have HO := fun (t9 : Nat) (h9 : t9 < 15 ∨ 31 ≤ t9) => (hu t9 (by omega)).trans (HO t9 h9)
  refine lv_aload_n hx hb dX6_verdict_51 rfl (lv_at hl 0 rfl) ?_
  refine lv_iload_n hx hb dX6_verdict_52 rfl (lv_at hl 3 rfl) ?_
  refine tg_callRi (va_runV (As := [.int 1]) (rest := []) (Ts := []) ⟨hx, hb, hml, hown, fun _ h9 => absurd h9 List.not_mem_nil⟩ (co_duelFact1 l E _ ad v G_1 hI hD) (rc_cwV hAm qw_602 qw_1 qw_605 qw_604 qs_41 rfl rfl hd_X6_duelFact ⟨Nat.le_of_ble_eq_true rfl, Nat.le_of_ble_eq_true rfl⟩) (tg_preV hAm hA hw hco (q := vwCl[7]) rfl) rfl rfl hl.1 rfl (lv_room (Nat.le_of_ble_eq_true rfl)) dX6_verdict_53 ⟨Nat.le_of_ble_eq_true rfl, Nat.le_of_ble_eq_true rfl⟩) hA hw (fun H locs hw => ?_)
  exact tg_iret hx hb hr hlocks hw (⟨rfl, hS, HO⟩) (Nat.le_of_ble_eq_true rfl) (Nat.le_of_ble_eq_true rfl) dX6_verdict_56
set_option maxHeartbeats 4000000 in
set_option maxRecDepth 100000 in
theorem pu_verdict2 (l : Launch) (E : rc_E) (sz : Nat) (ad : Nat → Nat) (v : av_V) (G : tg_G) (hI : ssH E ad v G) (hS : scH E ad G) (a0 b0 : Nat) (ha0 : a0 < 6) (hb0 : b0 < 6) : tg_M l yX6_verdict [Cond.code yX6_verdict cX6_verdict 4 (some FieldType.int)] { frames := 5, cells := 0, slots := 0, locals := 109 } E [.ref (ad 8), .int (nI a0), .int (nI b0), .int 2] G sz (tg_Qi E (fun r u => r = nI (hiN (samp v a0) (samp v b0)) ∧ scH E ad u ∧ ∀ t9, t9 < 15 ∨ 31 ≤ t9 → u t9 = G t9)) 0 0 := by
  refine tg_in (cc := cX6_verdict) (maxL := 4) (ret := (some FieldType.int)) (tg_Qi E (fun r u => r = nI (hiN (samp v a0) (samp v b0)) ∧ scH E ad u ∧ ∀ t9, t9 < 15 ∨ 31 ≤ t9 → u t9 = G t9)) (by decide) rfl (Nat.le_of_ble_eq_true rfl) ?_
  intro p e s m args below meth cd ls A hx hb hr hml hown hlocks hin hA hAm hw hl
  have hown : s.vm.findClass RX6 = some m.cls := hown
  have hl : lv_has ls 4 [(0, .ref (ad 8)), (1, .int (nI a0)), (2, .int (nI b0)), (3, .int 2)] := hl
  obtain ⟨h0, hco, ⟨hLm, hLc, hLr⟩, hbi, hma, hch, hru⟩ := id hI
  have hn60 := h0.1
  have HO := fun (t9 : Nat) (_ : t9 < 15 ∨ 31 ≤ t9) => (rfl : G t9 = G t9)
  refine lv_aload_n hx hb dX6_verdict_0 rfl (lv_at hl 0 rfl) ?_
  refine lv_iload_n hx hb dX6_verdict_1 rfl (lv_at hl 1 rfl) ?_
  refine tg_callRi (va_runV (As := [.int (nI a0)]) (rest := []) (Ts := []) ⟨hx, hb, hml, hown, fun _ h9 => absurd h9 List.not_mem_nil⟩ (co_isNoChange l E _ ad v G hI a0 ha0) (rc_cwV hAm qw_678 qw_1 qw_681 qw_680 qs_46 rfl rfl hd_X6_isNoChange ⟨Nat.le_of_ble_eq_true rfl, Nat.le_of_ble_eq_true rfl⟩) (tg_preV hAm hA hw hco (q := vwCl[7]) rfl) rfl rfl hl.1 rfl (lv_room (Nat.le_of_ble_eq_true rfl)) dX6_verdict_2 ⟨Nat.le_of_ble_eq_true rfl, Nat.le_of_ble_eq_true rfl⟩) hA hw (fun H locs hw => ?_)
  refine lv_if_ne (tgt := 16) hx hb dX6_verdict_5 (by decide) (fun c9 => absurd (by decide) c9) (fun _ => ?_)
  refine lv_aload_n hx hb dX6_verdict_8 rfl (lv_at hl 0 rfl) ?_
  refine lv_iload_n hx hb dX6_verdict_9 rfl (lv_at hl 2 rfl) ?_
  refine tg_callRi (va_runV (As := [.int (nI b0)]) (rest := []) (Ts := []) ⟨hx, hb, hml, hown, fun _ h9 => absurd h9 List.not_mem_nil⟩ (co_isNoChange l E _ ad v G hI b0 hb0) (rc_cwV hAm qw_678 qw_1 qw_681 qw_680 qs_46 rfl rfl hd_X6_isNoChange ⟨Nat.le_of_ble_eq_true rfl, Nat.le_of_ble_eq_true rfl⟩) (tg_preV hAm hA hw hco (q := vwCl[7]) rfl) rfl rfl hl.1 rfl (lv_room (Nat.le_of_ble_eq_true rfl)) dX6_verdict_10 ⟨Nat.le_of_ble_eq_true rfl, Nat.le_of_ble_eq_true rfl⟩) hA hw (fun H locs hw => ?_)
  refine lv_if_eq (tgt := 26) hx hb dX6_verdict_13 (by decide) (fun _ => ?_) (fun c9 => absurd (by decide) c9)
  refine lv_iload_n hx hb dX6_verdict_26 rfl (lv_at hl 3 rfl) ?_
  refine lv_iconst (v := 0) hx hb dX6_verdict_27 (by decide) ?_
  refine lv_iconst (v := 4) hx hb dX6_verdict_28 (by decide) ?_
  refine tg_callRi (va_runS (As := [.int 2, .int 0, .int 4]) (rest := []) (Ts := []) ⟨hx, hb, hml, hown, fun _ h9 => absurd h9 List.not_mem_nil⟩ (lf_isOutside l E _ G 2 0 4 (by decide) (by decide)) (rc_cwS hAm qw_269 qw_1 qw_271 qw_270 rfl rfl hd_X6_isOutside ⟨Nat.le_of_ble_eq_true rfl, Nat.le_of_ble_eq_true rfl⟩) (tg_preS hAm hA hw) rfl rfl hl.1 rfl (lv_room (Nat.le_of_ble_eq_true rfl)) dX6_verdict_29 ⟨Nat.le_of_ble_eq_true rfl, Nat.le_of_ble_eq_true rfl⟩) hA hw (fun H locs hw => ?_)
  refine lv_if_eq (tgt := 45) hx hb dX6_verdict_32 (by decide) (fun _ => ?_) (fun c9 => absurd (by decide) c9)
  refine lv_aload_n hx hb dX6_verdict_45 rfl (lv_at hl 0 rfl) ?_
  refine lv_iload_n hx hb dX6_verdict_46 rfl (lv_at hl 1 rfl) ?_
  refine lv_iload_n hx hb dX6_verdict_47 rfl (lv_at hl 2 rfl) ?_
  refine tg_callv (va_runV (As := [.int (nI a0), .int (nI b0)]) (rest := []) (Ts := []) ⟨hx, hb, hml, hown, fun _ h9 => absurd h9 List.not_mem_nil⟩ (co_meet l E _ ad v G hI hS a0 b0 (by omega) (by omega)) (rc_cwV hAm qw_424 qw_1 qw_427 qw_426 qs_7 rfl rfl hd_X6_meet ⟨Nat.le_of_ble_eq_true rfl, Nat.le_of_ble_eq_true rfl⟩) (tg_preV hAm hA hw hco (q := vwCl[7]) rfl) rfl rfl hl.1 rfl (lv_room (Nat.le_of_ble_eq_true rfl)) dX6_verdict_48 ⟨Nat.le_of_ble_eq_true rfl, Nat.le_of_ble_eq_true rfl⟩) hA hw (fun G_1 H locs hp hw => ?_)
  obtain ⟨hD, hu⟩ := hp
  have hS := scH_meet hS hD hu
  have hco := (hu 8 (by omega)).trans hco
  have hI := hI.scr (fun t9 h9 => hu t9 (by omega))
  have HO := fun (t9 : Nat) (h9 : t9 < 15 ∨ 31 ≤ t9) => (hu t9 (by omega)).trans (HO t9 h9)
  refine lv_aload_n hx hb dX6_verdict_51 rfl (lv_at hl 0 rfl) ?_
  refine lv_iload_n hx hb dX6_verdict_52 rfl (lv_at hl 3 rfl) ?_
  refine tg_callRi (va_runV (As := [.int 2]) (rest := []) (Ts := []) ⟨hx, hb, hml, hown, fun _ h9 => absurd h9 List.not_mem_nil⟩ (co_duelFact2 l E _ ad v G_1 hI hD) (rc_cwV hAm qw_602 qw_1 qw_605 qw_604 qs_41 rfl rfl hd_X6_duelFact ⟨Nat.le_of_ble_eq_true rfl, Nat.le_of_ble_eq_true rfl⟩) (tg_preV hAm hA hw hco (q := vwCl[7]) rfl) rfl rfl hl.1 rfl (lv_room (Nat.le_of_ble_eq_true rfl)) dX6_verdict_53 ⟨Nat.le_of_ble_eq_true rfl, Nat.le_of_ble_eq_true rfl⟩) hA hw (fun H locs hw => ?_)
  exact tg_iret hx hb hr hlocks hw (⟨rfl, hS, HO⟩) (Nat.le_of_ble_eq_true rfl) (Nat.le_of_ble_eq_true rfl) dX6_verdict_56
set_option maxHeartbeats 4000000 in
set_option maxRecDepth 100000 in
theorem pu_verdict3 (l : Launch) (E : rc_E) (sz : Nat) (ad : Nat → Nat) (v : av_V) (G : tg_G) (hI : ssH E ad v G) (hS : scH E ad G) (a0 b0 : Nat) (ha0 : a0 < 6) (hb0 : b0 < 6) : tg_M l yX6_verdict [Cond.code yX6_verdict cX6_verdict 4 (some FieldType.int)] { frames := 5, cells := 0, slots := 0, locals := 109 } E [.ref (ad 8), .int (nI a0), .int (nI b0), .int 3] G sz (tg_Qi E (fun r u => r = nI (loN (samp v a0) (samp v b0)) ∧ scH E ad u ∧ ∀ t9, t9 < 15 ∨ 31 ≤ t9 → u t9 = G t9)) 0 0 := by
  refine tg_in (cc := cX6_verdict) (maxL := 4) (ret := (some FieldType.int)) (tg_Qi E (fun r u => r = nI (loN (samp v a0) (samp v b0)) ∧ scH E ad u ∧ ∀ t9, t9 < 15 ∨ 31 ≤ t9 → u t9 = G t9)) (by decide) rfl (Nat.le_of_ble_eq_true rfl) ?_
  intro p e s m args below meth cd ls A hx hb hr hml hown hlocks hin hA hAm hw hl
  have hown : s.vm.findClass RX6 = some m.cls := hown
  have hl : lv_has ls 4 [(0, .ref (ad 8)), (1, .int (nI a0)), (2, .int (nI b0)), (3, .int 3)] := hl
  obtain ⟨h0, hco, ⟨hLm, hLc, hLr⟩, hbi, hma, hch, hru⟩ := id hI
  have hn60 := h0.1
  have HO := fun (t9 : Nat) (_ : t9 < 15 ∨ 31 ≤ t9) => (rfl : G t9 = G t9)
  refine lv_aload_n hx hb dX6_verdict_0 rfl (lv_at hl 0 rfl) ?_
  refine lv_iload_n hx hb dX6_verdict_1 rfl (lv_at hl 1 rfl) ?_
  refine tg_callRi (va_runV (As := [.int (nI a0)]) (rest := []) (Ts := []) ⟨hx, hb, hml, hown, fun _ h9 => absurd h9 List.not_mem_nil⟩ (co_isNoChange l E _ ad v G hI a0 ha0) (rc_cwV hAm qw_678 qw_1 qw_681 qw_680 qs_46 rfl rfl hd_X6_isNoChange ⟨Nat.le_of_ble_eq_true rfl, Nat.le_of_ble_eq_true rfl⟩) (tg_preV hAm hA hw hco (q := vwCl[7]) rfl) rfl rfl hl.1 rfl (lv_room (Nat.le_of_ble_eq_true rfl)) dX6_verdict_2 ⟨Nat.le_of_ble_eq_true rfl, Nat.le_of_ble_eq_true rfl⟩) hA hw (fun H locs hw => ?_)
  refine lv_if_ne (tgt := 16) hx hb dX6_verdict_5 (by decide) (fun c9 => absurd (by decide) c9) (fun _ => ?_)
  refine lv_aload_n hx hb dX6_verdict_8 rfl (lv_at hl 0 rfl) ?_
  refine lv_iload_n hx hb dX6_verdict_9 rfl (lv_at hl 2 rfl) ?_
  refine tg_callRi (va_runV (As := [.int (nI b0)]) (rest := []) (Ts := []) ⟨hx, hb, hml, hown, fun _ h9 => absurd h9 List.not_mem_nil⟩ (co_isNoChange l E _ ad v G hI b0 hb0) (rc_cwV hAm qw_678 qw_1 qw_681 qw_680 qs_46 rfl rfl hd_X6_isNoChange ⟨Nat.le_of_ble_eq_true rfl, Nat.le_of_ble_eq_true rfl⟩) (tg_preV hAm hA hw hco (q := vwCl[7]) rfl) rfl rfl hl.1 rfl (lv_room (Nat.le_of_ble_eq_true rfl)) dX6_verdict_10 ⟨Nat.le_of_ble_eq_true rfl, Nat.le_of_ble_eq_true rfl⟩) hA hw (fun H locs hw => ?_)
  refine lv_if_eq (tgt := 26) hx hb dX6_verdict_13 (by decide) (fun _ => ?_) (fun c9 => absurd (by decide) c9)
  refine lv_iload_n hx hb dX6_verdict_26 rfl (lv_at hl 3 rfl) ?_
  refine lv_iconst (v := 0) hx hb dX6_verdict_27 (by decide) ?_
  refine lv_iconst (v := 4) hx hb dX6_verdict_28 (by decide) ?_
  refine tg_callRi (va_runS (As := [.int 3, .int 0, .int 4]) (rest := []) (Ts := []) ⟨hx, hb, hml, hown, fun _ h9 => absurd h9 List.not_mem_nil⟩ (lf_isOutside l E _ G 3 0 4 (by decide) (by decide)) (rc_cwS hAm qw_269 qw_1 qw_271 qw_270 rfl rfl hd_X6_isOutside ⟨Nat.le_of_ble_eq_true rfl, Nat.le_of_ble_eq_true rfl⟩) (tg_preS hAm hA hw) rfl rfl hl.1 rfl (lv_room (Nat.le_of_ble_eq_true rfl)) dX6_verdict_29 ⟨Nat.le_of_ble_eq_true rfl, Nat.le_of_ble_eq_true rfl⟩) hA hw (fun H locs hw => ?_)
  refine lv_if_eq (tgt := 45) hx hb dX6_verdict_32 (by decide) (fun _ => ?_) (fun c9 => absurd (by decide) c9)
  refine lv_aload_n hx hb dX6_verdict_45 rfl (lv_at hl 0 rfl) ?_
  refine lv_iload_n hx hb dX6_verdict_46 rfl (lv_at hl 1 rfl) ?_
  refine lv_iload_n hx hb dX6_verdict_47 rfl (lv_at hl 2 rfl) ?_
  refine tg_callv (va_runV (As := [.int (nI a0), .int (nI b0)]) (rest := []) (Ts := []) ⟨hx, hb, hml, hown, fun _ h9 => absurd h9 List.not_mem_nil⟩ (co_meet l E _ ad v G hI hS a0 b0 (by omega) (by omega)) (rc_cwV hAm qw_424 qw_1 qw_427 qw_426 qs_7 rfl rfl hd_X6_meet ⟨Nat.le_of_ble_eq_true rfl, Nat.le_of_ble_eq_true rfl⟩) (tg_preV hAm hA hw hco (q := vwCl[7]) rfl) rfl rfl hl.1 rfl (lv_room (Nat.le_of_ble_eq_true rfl)) dX6_verdict_48 ⟨Nat.le_of_ble_eq_true rfl, Nat.le_of_ble_eq_true rfl⟩) hA hw (fun G_1 H locs hp hw => ?_)
  obtain ⟨hD, hu⟩ := hp
  have hS := scH_meet hS hD hu
  have hco := (hu 8 (by omega)).trans hco
  have hI := hI.scr (fun t9 h9 => hu t9 (by omega))
  have HO := fun (t9 : Nat) (h9 : t9 < 15 ∨ 31 ≤ t9) => (hu t9 (by omega)).trans (HO t9 h9)
  refine lv_aload_n hx hb dX6_verdict_51 rfl (lv_at hl 0 rfl) ?_
  refine lv_iload_n hx hb dX6_verdict_52 rfl (lv_at hl 3 rfl) ?_
  refine tg_callRi (va_runV (As := [.int 3]) (rest := []) (Ts := []) ⟨hx, hb, hml, hown, fun _ h9 => absurd h9 List.not_mem_nil⟩ (co_duelFact3 l E _ ad v G_1 hI hD) (rc_cwV hAm qw_602 qw_1 qw_605 qw_604 qs_41 rfl rfl hd_X6_duelFact ⟨Nat.le_of_ble_eq_true rfl, Nat.le_of_ble_eq_true rfl⟩) (tg_preV hAm hA hw hco (q := vwCl[7]) rfl) rfl rfl hl.1 rfl (lv_room (Nat.le_of_ble_eq_true rfl)) dX6_verdict_53 ⟨Nat.le_of_ble_eq_true rfl, Nat.le_of_ble_eq_true rfl⟩) hA hw (fun H locs hw => ?_)
  exact tg_iret hx hb hr hlocks hw (⟨rfl, hS, HO⟩) (Nat.le_of_ble_eq_true rfl) (Nat.le_of_ble_eq_true rfl) dX6_verdict_56
set_option maxHeartbeats 4000000 in
set_option maxRecDepth 100000 in
theorem pu_verdict4 (l : Launch) (E : rc_E) (sz : Nat) (ad : Nat → Nat) (v : av_V) (G : tg_G) (hI : ssH E ad v G) (hS : scH E ad G) (a0 b0 : Nat) (ha0 : a0 < 6) (hb0 : b0 < 6) : tg_M l yX6_verdict [Cond.code yX6_verdict cX6_verdict 4 (some FieldType.int)] { frames := 5, cells := 0, slots := 0, locals := 109 } E [.ref (ad 8), .int (nI a0), .int (nI b0), .int 4] G sz (tg_Qi E (fun r u => r = nI (alN (samp v a0) (samp v b0)) ∧ scH E ad u ∧ ∀ t9, t9 < 15 ∨ 31 ≤ t9 → u t9 = G t9)) 0 0 := by
  refine tg_in (cc := cX6_verdict) (maxL := 4) (ret := (some FieldType.int)) (tg_Qi E (fun r u => r = nI (alN (samp v a0) (samp v b0)) ∧ scH E ad u ∧ ∀ t9, t9 < 15 ∨ 31 ≤ t9 → u t9 = G t9)) (by decide) rfl (Nat.le_of_ble_eq_true rfl) ?_
  intro p e s m args below meth cd ls A hx hb hr hml hown hlocks hin hA hAm hw hl
  have hown : s.vm.findClass RX6 = some m.cls := hown
  have hl : lv_has ls 4 [(0, .ref (ad 8)), (1, .int (nI a0)), (2, .int (nI b0)), (3, .int 4)] := hl
  obtain ⟨h0, hco, ⟨hLm, hLc, hLr⟩, hbi, hma, hch, hru⟩ := id hI
  have hn60 := h0.1
  have HO := fun (t9 : Nat) (_ : t9 < 15 ∨ 31 ≤ t9) => (rfl : G t9 = G t9)
  refine lv_aload_n hx hb dX6_verdict_0 rfl (lv_at hl 0 rfl) ?_
  refine lv_iload_n hx hb dX6_verdict_1 rfl (lv_at hl 1 rfl) ?_
  refine tg_callRi (va_runV (As := [.int (nI a0)]) (rest := []) (Ts := []) ⟨hx, hb, hml, hown, fun _ h9 => absurd h9 List.not_mem_nil⟩ (co_isNoChange l E _ ad v G hI a0 ha0) (rc_cwV hAm qw_678 qw_1 qw_681 qw_680 qs_46 rfl rfl hd_X6_isNoChange ⟨Nat.le_of_ble_eq_true rfl, Nat.le_of_ble_eq_true rfl⟩) (tg_preV hAm hA hw hco (q := vwCl[7]) rfl) rfl rfl hl.1 rfl (lv_room (Nat.le_of_ble_eq_true rfl)) dX6_verdict_2 ⟨Nat.le_of_ble_eq_true rfl, Nat.le_of_ble_eq_true rfl⟩) hA hw (fun H locs hw => ?_)
  refine lv_if_ne (tgt := 16) hx hb dX6_verdict_5 (by decide) (fun c9 => absurd (by decide) c9) (fun _ => ?_)
  refine lv_aload_n hx hb dX6_verdict_8 rfl (lv_at hl 0 rfl) ?_
  refine lv_iload_n hx hb dX6_verdict_9 rfl (lv_at hl 2 rfl) ?_
  refine tg_callRi (va_runV (As := [.int (nI b0)]) (rest := []) (Ts := []) ⟨hx, hb, hml, hown, fun _ h9 => absurd h9 List.not_mem_nil⟩ (co_isNoChange l E _ ad v G hI b0 hb0) (rc_cwV hAm qw_678 qw_1 qw_681 qw_680 qs_46 rfl rfl hd_X6_isNoChange ⟨Nat.le_of_ble_eq_true rfl, Nat.le_of_ble_eq_true rfl⟩) (tg_preV hAm hA hw hco (q := vwCl[7]) rfl) rfl rfl hl.1 rfl (lv_room (Nat.le_of_ble_eq_true rfl)) dX6_verdict_10 ⟨Nat.le_of_ble_eq_true rfl, Nat.le_of_ble_eq_true rfl⟩) hA hw (fun H locs hw => ?_)
  refine lv_if_eq (tgt := 26) hx hb dX6_verdict_13 (by decide) (fun _ => ?_) (fun c9 => absurd (by decide) c9)
  refine lv_iload_n hx hb dX6_verdict_26 rfl (lv_at hl 3 rfl) ?_
  refine lv_iconst (v := 0) hx hb dX6_verdict_27 (by decide) ?_
  refine lv_iconst (v := 4) hx hb dX6_verdict_28 (by decide) ?_
  refine tg_callRi (va_runS (As := [.int 4, .int 0, .int 4]) (rest := []) (Ts := []) ⟨hx, hb, hml, hown, fun _ h9 => absurd h9 List.not_mem_nil⟩ (lf_isOutside l E _ G 4 0 4 (by decide) (by decide)) (rc_cwS hAm qw_269 qw_1 qw_271 qw_270 rfl rfl hd_X6_isOutside ⟨Nat.le_of_ble_eq_true rfl, Nat.le_of_ble_eq_true rfl⟩) (tg_preS hAm hA hw) rfl rfl hl.1 rfl (lv_room (Nat.le_of_ble_eq_true rfl)) dX6_verdict_29 ⟨Nat.le_of_ble_eq_true rfl, Nat.le_of_ble_eq_true rfl⟩) hA hw (fun H locs hw => ?_)
  refine lv_if_eq (tgt := 45) hx hb dX6_verdict_32 (by decide) (fun _ => ?_) (fun c9 => absurd (by decide) c9)
  refine lv_aload_n hx hb dX6_verdict_45 rfl (lv_at hl 0 rfl) ?_
  refine lv_iload_n hx hb dX6_verdict_46 rfl (lv_at hl 1 rfl) ?_
  refine lv_iload_n hx hb dX6_verdict_47 rfl (lv_at hl 2 rfl) ?_
  refine tg_callv (va_runV (As := [.int (nI a0), .int (nI b0)]) (rest := []) (Ts := []) ⟨hx, hb, hml, hown, fun _ h9 => absurd h9 List.not_mem_nil⟩ (co_meet l E _ ad v G hI hS a0 b0 (by omega) (by omega)) (rc_cwV hAm qw_424 qw_1 qw_427 qw_426 qs_7 rfl rfl hd_X6_meet ⟨Nat.le_of_ble_eq_true rfl, Nat.le_of_ble_eq_true rfl⟩) (tg_preV hAm hA hw hco (q := vwCl[7]) rfl) rfl rfl hl.1 rfl (lv_room (Nat.le_of_ble_eq_true rfl)) dX6_verdict_48 ⟨Nat.le_of_ble_eq_true rfl, Nat.le_of_ble_eq_true rfl⟩) hA hw (fun G_1 H locs hp hw => ?_)
  obtain ⟨hD, hu⟩ := hp
  have hS := scH_meet hS hD hu
  have hco := (hu 8 (by omega)).trans hco
  have hI := hI.scr (fun t9 h9 => hu t9 (by omega))
  have HO := fun (t9 : Nat) (h9 : t9 < 15 ∨ 31 ≤ t9) => (hu t9 (by omega)).trans (HO t9 h9)
  refine lv_aload_n hx hb dX6_verdict_51 rfl (lv_at hl 0 rfl) ?_
  refine lv_iload_n hx hb dX6_verdict_52 rfl (lv_at hl 3 rfl) ?_
  refine tg_callRi (va_runV (As := [.int 4]) (rest := []) (Ts := []) ⟨hx, hb, hml, hown, fun _ h9 => absurd h9 List.not_mem_nil⟩ (co_duelFact4 l E _ ad v G_1 hI hD) (rc_cwV hAm qw_602 qw_1 qw_605 qw_604 qs_41 rfl rfl hd_X6_duelFact ⟨Nat.le_of_ble_eq_true rfl, Nat.le_of_ble_eq_true rfl⟩) (tg_preV hAm hA hw hco (q := vwCl[7]) rfl) rfl rfl hl.1 rfl (lv_room (Nat.le_of_ble_eq_true rfl)) dX6_verdict_53 ⟨Nat.le_of_ble_eq_true rfl, Nat.le_of_ble_eq_true rfl⟩) hA hw (fun H locs hw => ?_)
  exact tg_iret hx hb hr hlocks hw (⟨rfl, hS, HO⟩) (Nat.le_of_ble_eq_true rfl) (Nat.le_of_ble_eq_true rfl) dX6_verdict_56
theorem hd_X2_shareOfHigh : yX2_shareOfHigh.cls ≠ "java/lang/invoke/MethodHandle" ∧ yX2_shareOfHigh.cls ≠ "java/lang/invoke/VarHandle" ∧ (parseMethodDescriptor yX2_shareOfHigh.desc).map (fun d => d.parameters.length) = some 0 := by decide +kernel
set_option maxHeartbeats 4000000 in
set_option maxRecDepth 100000 in
theorem pu_doubt (l : Launch) (E : rc_E) (sz : Nat) (ad : Nat → Nat) (v : av_V) (G : tg_G) (hI : ssH E ad v G) (hS : scH E ad G) (a0 b0 : Nat) (ha0 : a0 < 6) (hb0 : b0 < 6) : tg_M l yX6_doubt [Cond.code yX6_doubt cX6_doubt 3 (some FieldType.double)] { frames := 5, cells := 0, slots := 0, locals := 109 } E [.ref (ad 8), .int (nI a0), .int (nI b0)] G sz (tg_Qd E (fun r u => r = FP.ddiv (FP.i2d (nI (hiN (samp v a0) (samp v b0)))) (FP.i2d (nI (alN (samp v a0) (samp v b0)))) ∧ scH E ad u ∧ ∀ t9, t9 < 15 ∨ 31 ≤ t9 → u t9 = G t9)) 0 0 := by
  refine tg_in (cc := cX6_doubt) (maxL := 3) (ret := (some FieldType.double)) (tg_Qd E (fun r u => r = FP.ddiv (FP.i2d (nI (hiN (samp v a0) (samp v b0)))) (FP.i2d (nI (alN (samp v a0) (samp v b0)))) ∧ scH E ad u ∧ ∀ t9, t9 < 15 ∨ 31 ≤ t9 → u t9 = G t9)) (by decide) rfl (Nat.le_of_ble_eq_true rfl) ?_
  intro p e s m args below meth cd ls A hx hb hr hml hown hlocks hin hA hAm hw hl
  have hown : s.vm.findClass RX6 = some m.cls := hown
  have hl : lv_has ls 3 [(0, .ref (ad 8)), (1, .int (nI a0)), (2, .int (nI b0))] := hl
  obtain ⟨h0, hco, ⟨hLm, hLc, hLr⟩, hbi, hma, hch, hru⟩ := id hI
  have hn60 := h0.1
  have HO := fun (t9 : Nat) (_ : t9 < 15 ∨ 31 ≤ t9) => (rfl : G t9 = G t9)
  refine lv_aload_n hx hb dX6_doubt_0 rfl (lv_at hl 0 rfl) ?_
  refine lv_iload_n hx hb dX6_doubt_1 rfl (lv_at hl 1 rfl) ?_
  refine tg_callRi (va_runV (As := [.int (nI a0)]) (rest := []) (Ts := []) ⟨hx, hb, hml, hown, fun _ h9 => absurd h9 List.not_mem_nil⟩ (co_isNoChange l E _ ad v G hI a0 ha0) (rc_cwV hAm qw_678 qw_1 qw_681 qw_680 qs_46 rfl rfl hd_X6_isNoChange ⟨Nat.le_of_ble_eq_true rfl, Nat.le_of_ble_eq_true rfl⟩) (tg_preV hAm hA hw hco (q := vwCl[7]) rfl) rfl rfl hl.1 rfl (lv_room (Nat.le_of_ble_eq_true rfl)) dX6_doubt_2 ⟨Nat.le_of_ble_eq_true rfl, Nat.le_of_ble_eq_true rfl⟩) hA hw (fun H locs hw => ?_)
  refine lv_if_ne (tgt := 16) hx hb dX6_doubt_5 (by decide) (fun c9 => absurd (by decide) c9) (fun _ => ?_)
  refine lv_aload_n hx hb dX6_doubt_8 rfl (lv_at hl 0 rfl) ?_
  refine lv_iload_n hx hb dX6_doubt_9 rfl (lv_at hl 2 rfl) ?_
  refine tg_callRi (va_runV (As := [.int (nI b0)]) (rest := []) (Ts := []) ⟨hx, hb, hml, hown, fun _ h9 => absurd h9 List.not_mem_nil⟩ (co_isNoChange l E _ ad v G hI b0 hb0) (rc_cwV hAm qw_678 qw_1 qw_681 qw_680 qs_46 rfl rfl hd_X6_isNoChange ⟨Nat.le_of_ble_eq_true rfl, Nat.le_of_ble_eq_true rfl⟩) (tg_preV hAm hA hw hco (q := vwCl[7]) rfl) rfl rfl hl.1 rfl (lv_room (Nat.le_of_ble_eq_true rfl)) dX6_doubt_10 ⟨Nat.le_of_ble_eq_true rfl, Nat.le_of_ble_eq_true rfl⟩) hA hw (fun H locs hw => ?_)
  refine lv_if_eq (tgt := 26) hx hb dX6_doubt_13 (by decide) (fun _ => ?_) (fun c9 => absurd (by decide) c9)
  refine lv_aload_n hx hb dX6_doubt_26 rfl (lv_at hl 0 rfl) ?_
  refine lv_iload_n hx hb dX6_doubt_27 rfl (lv_at hl 1 rfl) ?_
  refine lv_iload_n hx hb dX6_doubt_28 rfl (lv_at hl 2 rfl) ?_
  refine tg_callv (va_runV (As := [.int (nI a0), .int (nI b0)]) (rest := []) (Ts := []) ⟨hx, hb, hml, hown, fun _ h9 => absurd h9 List.not_mem_nil⟩ (co_meet l E _ ad v G hI hS a0 b0 (by omega) (by omega)) (rc_cwV hAm qw_424 qw_1 qw_427 qw_426 qs_7 rfl rfl hd_X6_meet ⟨Nat.le_of_ble_eq_true rfl, Nat.le_of_ble_eq_true rfl⟩) (tg_preV hAm hA hw hco (q := vwCl[7]) rfl) rfl rfl hl.1 rfl (lv_room (Nat.le_of_ble_eq_true rfl)) dX6_doubt_29 ⟨Nat.le_of_ble_eq_true rfl, Nat.le_of_ble_eq_true rfl⟩) hA hw (fun G_1 H locs hp hw => ?_)
  obtain ⟨hD, hu⟩ := hp
  have hS := scH_meet hS hD hu
  have hco := (hu 8 (by omega)).trans hco
  have hI := hI.scr (fun t9 h9 => hu t9 (by omega))
  have HO := fun (t9 : Nat) (h9 : t9 < 15 ∨ 31 ≤ t9) => (hu t9 (by omega)).trans (HO t9 h9)
  obtain ⟨A9, hA9⟩ : ∃ A9, A9 = samp v a0 := ⟨_, rfl⟩
  obtain ⟨B9, hB9⟩ : ∃ B9, B9 = samp v b0 := ⟨_, rfl⟩
  rw [← hA9, ← hB9] at hD
  obtain ⟨hD1, hD2, h17, -⟩ := id hD
  have hal := (alN_sym hD1.2.2.1 hD2.2.2.1).2
  have hhi := hiN_le A9 B9
  have hh0 := hiN_pos A9 B9
  have hp9 : 0 < alN A9 B9 := by omega
  have hnan := nan_ok hD1.2.2.1 hD2.2.2.1 hh0 hhi
  refine lv_aload_n hx hb dX6_doubt_32 rfl (lv_at hl 0 rfl) ?_
  refine tg_get (v := .ref (ad 17)) hx hb hown hAm hw lyX6 hco rfl 5 (by decide) qw_230 (fun _ h9 => h9) rfl dX6_doubt_33 ?_
  refine tg_callRd (va_runVN (As := []) (rest := []) (Ts := []) ⟨hx, hb, hml, hown, fun _ h9 => absurd h9 List.not_mem_nil⟩ (du_share l E _ G_1 (hi := hiN A9 B9) (al := alN A9 B9) hp9 (by omega) hnan h17) (rc_cnV hAm qw_779 qw_7 qw_782 qw_781 qs_49 rfl rfl hd_X2_shareOfHigh ⟨Nat.le_of_ble_eq_true rfl, Nat.le_of_ble_eq_true rfl⟩) (tg_preV hAm hA hw h17 (q := vwCl[3]) rfl) rfl rfl hl.1 rfl (lv_room (Nat.le_of_ble_eq_true rfl)) dX6_doubt_36 ⟨Nat.le_of_ble_eq_true rfl, Nat.le_of_ble_eq_true rfl⟩) hA hw (fun H locs hw => ?_)
  exact tg_dret hx hb hr hlocks hw (⟨by rw [hA9, hB9], hS, HO⟩) (Nat.le_of_ble_eq_true rfl) (Nat.le_of_ble_eq_true rfl) dX6_doubt_39
theorem hd_X6_changeFact : yX6_changeFact.cls ≠ "java/lang/invoke/MethodHandle" ∧ yX6_changeFact.cls ≠ "java/lang/invoke/VarHandle" ∧ (parseMethodDescriptor yX6_changeFact.desc).map (fun d => d.parameters.length) = some 2 := by decide +kernel
set_option maxHeartbeats 4000000 in
set_option maxRecDepth 100000 in
theorem pu_ofChange0 (l : Launch) (E : rc_E) (sz : Nat) (ad : Nat → Nat) (v : av_V) (G : tg_G) (hI : ssH E ad v G) (hS : scH E ad G) (c : Nat) (hc : c < 6) : tg_M l yX6_ofChange [Cond.code yX6_ofChange cX6_ofChange 3 (some FieldType.int)] { frames := 5, cells := 0, slots := 0, locals := 109 } E [.ref (ad 8), .int (nI c), .int 0] G sz (tg_Qi E (fun r u => r = nI ((ixs v c).length) ∧ scH E ad u ∧ ∀ t9, t9 < 15 ∨ 31 ≤ t9 → u t9 = G t9)) 0 0 := by
  refine tg_in (cc := cX6_ofChange) (maxL := 3) (ret := (some FieldType.int)) (tg_Qi E (fun r u => r = nI ((ixs v c).length) ∧ scH E ad u ∧ ∀ t9, t9 < 15 ∨ 31 ≤ t9 → u t9 = G t9)) (by decide) rfl (Nat.le_of_ble_eq_true rfl) ?_
  intro p e s m args below meth cd ls A hx hb hr hml hown hlocks hin hA hAm hw hl
  have hown : s.vm.findClass RX6 = some m.cls := hown
  have hl : lv_has ls 3 [(0, .ref (ad 8)), (1, .int (nI c)), (2, .int 0)] := hl
  obtain ⟨h0, hco, ⟨hLm, hLc, hLr⟩, hbi, hma, hch, hru⟩ := id hI
  have hn60 := h0.1
  have HO := fun (t9 : Nat) (_ : t9 < 15 ∨ 31 ≤ t9) => (rfl : G t9 = G t9)
  have hcc : G (40 + 3 * c) = some (ad (40 + 3 * c), .inr (2, [.ref (ad (41 + 3 * c)), .int (vC v c).1, .int (vC v c).2])) := (hch c (by omega)).1
  refine lv_aload_n hx hb dX6_ofChange_0 rfl (lv_at hl 0 rfl) ?_
  refine lv_iload_n hx hb dX6_ofChange_1 rfl (lv_at hl 1 rfl) ?_
  refine tg_callRi (va_runV (As := [.int (nI c)]) (rest := []) (Ts := []) ⟨hx, hb, hml, hown, fun _ h9 => absurd h9 List.not_mem_nil⟩ (co_isNoChange l E _ ad v G hI c hc) (rc_cwV hAm qw_678 qw_1 qw_681 qw_680 qs_46 rfl rfl hd_X6_isNoChange ⟨Nat.le_of_ble_eq_true rfl, Nat.le_of_ble_eq_true rfl⟩) (tg_preV hAm hA hw hco (q := vwCl[7]) rfl) rfl rfl hl.1 rfl (lv_room (Nat.le_of_ble_eq_true rfl)) dX6_ofChange_2 ⟨Nat.le_of_ble_eq_true rfl, Nat.le_of_ble_eq_true rfl⟩) hA hw (fun H locs hw => ?_)
  refine lv_if_eq (tgt := 18) hx hb dX6_ofChange_5 (by decide) (fun _ => ?_) (fun c9 => absurd (by decide) c9)
  refine lv_iload_n hx hb dX6_ofChange_18 rfl (lv_at hl 2 rfl) ?_
  refine lv_iconst (v := 0) hx hb dX6_ofChange_19 (by decide) ?_
  refine lv_iconst (v := 5) hx hb dX6_ofChange_20 (by decide) ?_
  refine tg_callRi (va_runS (As := [.int 0, .int 0, .int 5]) (rest := []) (Ts := []) ⟨hx, hb, hml, hown, fun _ h9 => absurd h9 List.not_mem_nil⟩ (lf_isOutside l E _ G 0 0 5 (by decide) (by decide)) (rc_cwS hAm qw_269 qw_1 qw_271 qw_270 rfl rfl hd_X6_isOutside ⟨Nat.le_of_ble_eq_true rfl, Nat.le_of_ble_eq_true rfl⟩) (tg_preS hAm hA hw) rfl rfl hl.1 rfl (lv_room (Nat.le_of_ble_eq_true rfl)) dX6_ofChange_21 ⟨Nat.le_of_ble_eq_true rfl, Nat.le_of_ble_eq_true rfl⟩) hA hw (fun H locs hw => ?_)
  refine lv_if_eq (tgt := 37) hx hb dX6_ofChange_24 (by decide) (fun _ => ?_) (fun c9 => absurd (by decide) c9)
  refine lv_aload_n hx hb dX6_ofChange_37 rfl (lv_at hl 0 rfl) ?_
  refine lv_aload_n hx hb dX6_ofChange_38 rfl (lv_at hl 0 rfl) ?_
  refine lv_iload_n hx hb dX6_ofChange_39 rfl (lv_at hl 1 rfl) ?_
  refine tg_callRr (va_runV (As := [.int (nI c)]) (rest := [.ref (ad 8)]) (Ts := []) ⟨hx, hb, hml, hown, fun _ h9 => absurd h9 List.not_mem_nil⟩ (co_changeAt l E _ ad v G hI c hc) (rc_cwV hAm qw_432 qw_1 qw_435 qw_434 qs_9 rfl rfl hd_X6_changeAt ⟨Nat.le_of_ble_eq_true rfl, Nat.le_of_ble_eq_true rfl⟩) (tg_preV hAm hA hw hco (q := vwCl[7]) rfl) rfl rfl hl.1 rfl (lv_room (Nat.le_of_ble_eq_true rfl)) dX6_ofChange_40 ⟨Nat.le_of_ble_eq_true rfl, Nat.le_of_ble_eq_true rfl⟩) hA hw (fun H locs hw => ?_)
  refine lv_iload_n hx hb dX6_ofChange_43 rfl (lv_at hl 2 rfl) ?_
  refine tg_calli (va_runV (As := [.ref (ad (40 + 3 * c)), .int 0]) (rest := []) (Ts := []) ⟨hx, hb, hml, hown, fun _ h9 => absurd h9 List.not_mem_nil⟩ (co_changeFact0 l E _ ad v G hI hS c (by omega)) (rc_cwV hAm qw_573 qw_1 qw_576 qw_575 qs_34 rfl rfl hd_X6_changeFact ⟨Nat.le_of_ble_eq_true rfl, Nat.le_of_ble_eq_true rfl⟩) (tg_preV hAm hA hw hco (q := vwCl[7]) rfl) rfl rfl hl.1 rfl (lv_room (Nat.le_of_ble_eq_true rfl)) dX6_ofChange_44 ⟨Nat.le_of_ble_eq_true rfl, Nat.le_of_ble_eq_true rfl⟩) hA hw (fun r_2 G_1 H locs hp hw => ?_)
  obtain ⟨hr9, hm15, hu⟩ := hp
  rw [hr9]
  have hS := scH_one hS hm15 hu
  have hco := (hu 8 (by omega)).trans hco
  have hcc := (hu (40 + 3 * c) (by omega)).trans hcc
  have hI := hI.scr (fun t9 h9 => hu t9 (by omega))
  have HO := fun (t9 : Nat) (h9 : t9 < 15 ∨ 31 ≤ t9) => (hu t9 (by omega)).trans (HO t9 h9)
  exact tg_iret hx hb hr hlocks hw (⟨rfl, hS, HO⟩) (Nat.le_of_ble_eq_true rfl) (Nat.le_of_ble_eq_true rfl) dX6_ofChange_47
set_option maxHeartbeats 4000000 in
set_option maxRecDepth 100000 in
theorem pu_ofChange1 (l : Launch) (E : rc_E) (sz : Nat) (ad : Nat → Nat) (v : av_V) (G : tg_G) (hI : ssH E ad v G) (hS : scH E ad G) (c : Nat) (hc : c < 6) : tg_M l yX6_ofChange [Cond.code yX6_ofChange cX6_ofChange 3 (some FieldType.int)] { frames := 5, cells := 0, slots := 0, locals := 109 } E [.ref (ad 8), .int (nI c), .int 1] G sz (tg_Qi E (fun r u => r = nI ((samp v c).length) ∧ scH E ad u ∧ ∀ t9, t9 < 15 ∨ 31 ≤ t9 → u t9 = G t9)) 0 0 := by
  refine tg_in (cc := cX6_ofChange) (maxL := 3) (ret := (some FieldType.int)) (tg_Qi E (fun r u => r = nI ((samp v c).length) ∧ scH E ad u ∧ ∀ t9, t9 < 15 ∨ 31 ≤ t9 → u t9 = G t9)) (by decide) rfl (Nat.le_of_ble_eq_true rfl) ?_
  intro p e s m args below meth cd ls A hx hb hr hml hown hlocks hin hA hAm hw hl
  have hown : s.vm.findClass RX6 = some m.cls := hown
  have hl : lv_has ls 3 [(0, .ref (ad 8)), (1, .int (nI c)), (2, .int 1)] := hl
  obtain ⟨h0, hco, ⟨hLm, hLc, hLr⟩, hbi, hma, hch, hru⟩ := id hI
  have hn60 := h0.1
  have HO := fun (t9 : Nat) (_ : t9 < 15 ∨ 31 ≤ t9) => (rfl : G t9 = G t9)
  have hcc : G (40 + 3 * c) = some (ad (40 + 3 * c), .inr (2, [.ref (ad (41 + 3 * c)), .int (vC v c).1, .int (vC v c).2])) := (hch c (by omega)).1
  refine lv_aload_n hx hb dX6_ofChange_0 rfl (lv_at hl 0 rfl) ?_
  refine lv_iload_n hx hb dX6_ofChange_1 rfl (lv_at hl 1 rfl) ?_
  refine tg_callRi (va_runV (As := [.int (nI c)]) (rest := []) (Ts := []) ⟨hx, hb, hml, hown, fun _ h9 => absurd h9 List.not_mem_nil⟩ (co_isNoChange l E _ ad v G hI c hc) (rc_cwV hAm qw_678 qw_1 qw_681 qw_680 qs_46 rfl rfl hd_X6_isNoChange ⟨Nat.le_of_ble_eq_true rfl, Nat.le_of_ble_eq_true rfl⟩) (tg_preV hAm hA hw hco (q := vwCl[7]) rfl) rfl rfl hl.1 rfl (lv_room (Nat.le_of_ble_eq_true rfl)) dX6_ofChange_2 ⟨Nat.le_of_ble_eq_true rfl, Nat.le_of_ble_eq_true rfl⟩) hA hw (fun H locs hw => ?_)
  refine lv_if_eq (tgt := 18) hx hb dX6_ofChange_5 (by decide) (fun _ => ?_) (fun c9 => absurd (by decide) c9)
  refine lv_iload_n hx hb dX6_ofChange_18 rfl (lv_at hl 2 rfl) ?_
  refine lv_iconst (v := 0) hx hb dX6_ofChange_19 (by decide) ?_
  refine lv_iconst (v := 5) hx hb dX6_ofChange_20 (by decide) ?_
  refine tg_callRi (va_runS (As := [.int 1, .int 0, .int 5]) (rest := []) (Ts := []) ⟨hx, hb, hml, hown, fun _ h9 => absurd h9 List.not_mem_nil⟩ (lf_isOutside l E _ G 1 0 5 (by decide) (by decide)) (rc_cwS hAm qw_269 qw_1 qw_271 qw_270 rfl rfl hd_X6_isOutside ⟨Nat.le_of_ble_eq_true rfl, Nat.le_of_ble_eq_true rfl⟩) (tg_preS hAm hA hw) rfl rfl hl.1 rfl (lv_room (Nat.le_of_ble_eq_true rfl)) dX6_ofChange_21 ⟨Nat.le_of_ble_eq_true rfl, Nat.le_of_ble_eq_true rfl⟩) hA hw (fun H locs hw => ?_)
  refine lv_if_eq (tgt := 37) hx hb dX6_ofChange_24 (by decide) (fun _ => ?_) (fun c9 => absurd (by decide) c9)
  refine lv_aload_n hx hb dX6_ofChange_37 rfl (lv_at hl 0 rfl) ?_
  refine lv_aload_n hx hb dX6_ofChange_38 rfl (lv_at hl 0 rfl) ?_
  refine lv_iload_n hx hb dX6_ofChange_39 rfl (lv_at hl 1 rfl) ?_
  refine tg_callRr (va_runV (As := [.int (nI c)]) (rest := [.ref (ad 8)]) (Ts := []) ⟨hx, hb, hml, hown, fun _ h9 => absurd h9 List.not_mem_nil⟩ (co_changeAt l E _ ad v G hI c hc) (rc_cwV hAm qw_432 qw_1 qw_435 qw_434 qs_9 rfl rfl hd_X6_changeAt ⟨Nat.le_of_ble_eq_true rfl, Nat.le_of_ble_eq_true rfl⟩) (tg_preV hAm hA hw hco (q := vwCl[7]) rfl) rfl rfl hl.1 rfl (lv_room (Nat.le_of_ble_eq_true rfl)) dX6_ofChange_40 ⟨Nat.le_of_ble_eq_true rfl, Nat.le_of_ble_eq_true rfl⟩) hA hw (fun H locs hw => ?_)
  refine lv_iload_n hx hb dX6_ofChange_43 rfl (lv_at hl 2 rfl) ?_
  refine tg_calli (va_runV (As := [.ref (ad (40 + 3 * c)), .int 1]) (rest := []) (Ts := []) ⟨hx, hb, hml, hown, fun _ h9 => absurd h9 List.not_mem_nil⟩ (co_changeFact1 l E _ ad v G hI hS c (by omega)) (rc_cwV hAm qw_573 qw_1 qw_576 qw_575 qs_34 rfl rfl hd_X6_changeFact ⟨Nat.le_of_ble_eq_true rfl, Nat.le_of_ble_eq_true rfl⟩) (tg_preV hAm hA hw hco (q := vwCl[7]) rfl) rfl rfl hl.1 rfl (lv_room (Nat.le_of_ble_eq_true rfl)) dX6_ofChange_44 ⟨Nat.le_of_ble_eq_true rfl, Nat.le_of_ble_eq_true rfl⟩) hA hw (fun r_2 G_1 H locs hp hw => ?_)
  obtain ⟨hr9, hm15, hu⟩ := hp
  rw [hr9]
  have hS := scH_one hS hm15 hu
  have hco := (hu 8 (by omega)).trans hco
  have hcc := (hu (40 + 3 * c) (by omega)).trans hcc
  have hI := hI.scr (fun t9 h9 => hu t9 (by omega))
  have HO := fun (t9 : Nat) (h9 : t9 < 15 ∨ 31 ≤ t9) => (hu t9 (by omega)).trans (HO t9 h9)
  exact tg_iret hx hb hr hlocks hw (⟨rfl, hS, HO⟩) (Nat.le_of_ble_eq_true rfl) (Nat.le_of_ble_eq_true rfl) dX6_ofChange_47
set_option maxHeartbeats 4000000 in
set_option maxRecDepth 100000 in
theorem pu_ofChange2 (l : Launch) (E : rc_E) (sz : Nat) (ad : Nat → Nat) (v : av_V) (G : tg_G) (hI : ssH E ad v G) (hS : scH E ad G) (c : Nat) (hc : c < 6) : tg_M l yX6_ofChange [Cond.code yX6_ofChange cX6_ofChange 3 (some FieldType.int)] { frames := 5, cells := 0, slots := 0, locals := 109 } E [.ref (ad 8), .int (nI c), .int 2] G sz (tg_Qi E (fun r u => r = wAt (samp v c) (((samp v c).length - 1) / 2) ∧ scH E ad u ∧ ∀ t9, t9 < 15 ∨ 31 ≤ t9 → u t9 = G t9)) 0 0 := by
  refine tg_in (cc := cX6_ofChange) (maxL := 3) (ret := (some FieldType.int)) (tg_Qi E (fun r u => r = wAt (samp v c) (((samp v c).length - 1) / 2) ∧ scH E ad u ∧ ∀ t9, t9 < 15 ∨ 31 ≤ t9 → u t9 = G t9)) (by decide) rfl (Nat.le_of_ble_eq_true rfl) ?_
  intro p e s m args below meth cd ls A hx hb hr hml hown hlocks hin hA hAm hw hl
  have hown : s.vm.findClass RX6 = some m.cls := hown
  have hl : lv_has ls 3 [(0, .ref (ad 8)), (1, .int (nI c)), (2, .int 2)] := hl
  obtain ⟨h0, hco, ⟨hLm, hLc, hLr⟩, hbi, hma, hch, hru⟩ := id hI
  have hn60 := h0.1
  have HO := fun (t9 : Nat) (_ : t9 < 15 ∨ 31 ≤ t9) => (rfl : G t9 = G t9)
  have hcc : G (40 + 3 * c) = some (ad (40 + 3 * c), .inr (2, [.ref (ad (41 + 3 * c)), .int (vC v c).1, .int (vC v c).2])) := (hch c (by omega)).1
  refine lv_aload_n hx hb dX6_ofChange_0 rfl (lv_at hl 0 rfl) ?_
  refine lv_iload_n hx hb dX6_ofChange_1 rfl (lv_at hl 1 rfl) ?_
  refine tg_callRi (va_runV (As := [.int (nI c)]) (rest := []) (Ts := []) ⟨hx, hb, hml, hown, fun _ h9 => absurd h9 List.not_mem_nil⟩ (co_isNoChange l E _ ad v G hI c hc) (rc_cwV hAm qw_678 qw_1 qw_681 qw_680 qs_46 rfl rfl hd_X6_isNoChange ⟨Nat.le_of_ble_eq_true rfl, Nat.le_of_ble_eq_true rfl⟩) (tg_preV hAm hA hw hco (q := vwCl[7]) rfl) rfl rfl hl.1 rfl (lv_room (Nat.le_of_ble_eq_true rfl)) dX6_ofChange_2 ⟨Nat.le_of_ble_eq_true rfl, Nat.le_of_ble_eq_true rfl⟩) hA hw (fun H locs hw => ?_)
  refine lv_if_eq (tgt := 18) hx hb dX6_ofChange_5 (by decide) (fun _ => ?_) (fun c9 => absurd (by decide) c9)
  refine lv_iload_n hx hb dX6_ofChange_18 rfl (lv_at hl 2 rfl) ?_
  refine lv_iconst (v := 0) hx hb dX6_ofChange_19 (by decide) ?_
  refine lv_iconst (v := 5) hx hb dX6_ofChange_20 (by decide) ?_
  refine tg_callRi (va_runS (As := [.int 2, .int 0, .int 5]) (rest := []) (Ts := []) ⟨hx, hb, hml, hown, fun _ h9 => absurd h9 List.not_mem_nil⟩ (lf_isOutside l E _ G 2 0 5 (by decide) (by decide)) (rc_cwS hAm qw_269 qw_1 qw_271 qw_270 rfl rfl hd_X6_isOutside ⟨Nat.le_of_ble_eq_true rfl, Nat.le_of_ble_eq_true rfl⟩) (tg_preS hAm hA hw) rfl rfl hl.1 rfl (lv_room (Nat.le_of_ble_eq_true rfl)) dX6_ofChange_21 ⟨Nat.le_of_ble_eq_true rfl, Nat.le_of_ble_eq_true rfl⟩) hA hw (fun H locs hw => ?_)
  refine lv_if_eq (tgt := 37) hx hb dX6_ofChange_24 (by decide) (fun _ => ?_) (fun c9 => absurd (by decide) c9)
  refine lv_aload_n hx hb dX6_ofChange_37 rfl (lv_at hl 0 rfl) ?_
  refine lv_aload_n hx hb dX6_ofChange_38 rfl (lv_at hl 0 rfl) ?_
  refine lv_iload_n hx hb dX6_ofChange_39 rfl (lv_at hl 1 rfl) ?_
  refine tg_callRr (va_runV (As := [.int (nI c)]) (rest := [.ref (ad 8)]) (Ts := []) ⟨hx, hb, hml, hown, fun _ h9 => absurd h9 List.not_mem_nil⟩ (co_changeAt l E _ ad v G hI c hc) (rc_cwV hAm qw_432 qw_1 qw_435 qw_434 qs_9 rfl rfl hd_X6_changeAt ⟨Nat.le_of_ble_eq_true rfl, Nat.le_of_ble_eq_true rfl⟩) (tg_preV hAm hA hw hco (q := vwCl[7]) rfl) rfl rfl hl.1 rfl (lv_room (Nat.le_of_ble_eq_true rfl)) dX6_ofChange_40 ⟨Nat.le_of_ble_eq_true rfl, Nat.le_of_ble_eq_true rfl⟩) hA hw (fun H locs hw => ?_)
  refine lv_iload_n hx hb dX6_ofChange_43 rfl (lv_at hl 2 rfl) ?_
  refine tg_calli (va_runV (As := [.ref (ad (40 + 3 * c)), .int 2]) (rest := []) (Ts := []) ⟨hx, hb, hml, hown, fun _ h9 => absurd h9 List.not_mem_nil⟩ (co_changeFact2 l E _ ad v G hI hS c (by omega)) (rc_cwV hAm qw_573 qw_1 qw_576 qw_575 qs_34 rfl rfl hd_X6_changeFact ⟨Nat.le_of_ble_eq_true rfl, Nat.le_of_ble_eq_true rfl⟩) (tg_preV hAm hA hw hco (q := vwCl[7]) rfl) rfl rfl hl.1 rfl (lv_room (Nat.le_of_ble_eq_true rfl)) dX6_ofChange_44 ⟨Nat.le_of_ble_eq_true rfl, Nat.le_of_ble_eq_true rfl⟩) hA hw (fun r_2 G_1 H locs hp hw => ?_)
  obtain ⟨hr9, hm15, hu⟩ := hp
  rw [hr9]
  have hS := scH_one hS hm15 hu
  have hco := (hu 8 (by omega)).trans hco
  have hcc := (hu (40 + 3 * c) (by omega)).trans hcc
  have hI := hI.scr (fun t9 h9 => hu t9 (by omega))
  have HO := fun (t9 : Nat) (h9 : t9 < 15 ∨ 31 ≤ t9) => (hu t9 (by omega)).trans (HO t9 h9)
  exact tg_iret hx hb hr hlocks hw (⟨rfl, hS, HO⟩) (Nat.le_of_ble_eq_true rfl) (Nat.le_of_ble_eq_true rfl) dX6_ofChange_47
set_option maxHeartbeats 4000000 in
set_option maxRecDepth 100000 in
theorem pu_ofChange3 (l : Launch) (E : rc_E) (sz : Nat) (ad : Nat → Nat) (v : av_V) (G : tg_G) (hI : ssH E ad v G) (hS : scH E ad G) (c : Nat) (hc : c < 6) : tg_M l yX6_ofChange [Cond.code yX6_ofChange cX6_ofChange 3 (some FieldType.int)] { frames := 5, cells := 0, slots := 0, locals := 109 } E [.ref (ad 8), .int (nI c), .int 3] G sz (tg_Qi E (fun r u => r = wAt (samp v c) 0 ∧ scH E ad u ∧ ∀ t9, t9 < 15 ∨ 31 ≤ t9 → u t9 = G t9)) 0 0 := by
  refine tg_in (cc := cX6_ofChange) (maxL := 3) (ret := (some FieldType.int)) (tg_Qi E (fun r u => r = wAt (samp v c) 0 ∧ scH E ad u ∧ ∀ t9, t9 < 15 ∨ 31 ≤ t9 → u t9 = G t9)) (by decide) rfl (Nat.le_of_ble_eq_true rfl) ?_
  intro p e s m args below meth cd ls A hx hb hr hml hown hlocks hin hA hAm hw hl
  have hown : s.vm.findClass RX6 = some m.cls := hown
  have hl : lv_has ls 3 [(0, .ref (ad 8)), (1, .int (nI c)), (2, .int 3)] := hl
  obtain ⟨h0, hco, ⟨hLm, hLc, hLr⟩, hbi, hma, hch, hru⟩ := id hI
  have hn60 := h0.1
  have HO := fun (t9 : Nat) (_ : t9 < 15 ∨ 31 ≤ t9) => (rfl : G t9 = G t9)
  have hcc : G (40 + 3 * c) = some (ad (40 + 3 * c), .inr (2, [.ref (ad (41 + 3 * c)), .int (vC v c).1, .int (vC v c).2])) := (hch c (by omega)).1
  refine lv_aload_n hx hb dX6_ofChange_0 rfl (lv_at hl 0 rfl) ?_
  refine lv_iload_n hx hb dX6_ofChange_1 rfl (lv_at hl 1 rfl) ?_
  refine tg_callRi (va_runV (As := [.int (nI c)]) (rest := []) (Ts := []) ⟨hx, hb, hml, hown, fun _ h9 => absurd h9 List.not_mem_nil⟩ (co_isNoChange l E _ ad v G hI c hc) (rc_cwV hAm qw_678 qw_1 qw_681 qw_680 qs_46 rfl rfl hd_X6_isNoChange ⟨Nat.le_of_ble_eq_true rfl, Nat.le_of_ble_eq_true rfl⟩) (tg_preV hAm hA hw hco (q := vwCl[7]) rfl) rfl rfl hl.1 rfl (lv_room (Nat.le_of_ble_eq_true rfl)) dX6_ofChange_2 ⟨Nat.le_of_ble_eq_true rfl, Nat.le_of_ble_eq_true rfl⟩) hA hw (fun H locs hw => ?_)
  refine lv_if_eq (tgt := 18) hx hb dX6_ofChange_5 (by decide) (fun _ => ?_) (fun c9 => absurd (by decide) c9)
  refine lv_iload_n hx hb dX6_ofChange_18 rfl (lv_at hl 2 rfl) ?_
  refine lv_iconst (v := 0) hx hb dX6_ofChange_19 (by decide) ?_
  refine lv_iconst (v := 5) hx hb dX6_ofChange_20 (by decide) ?_
  refine tg_callRi (va_runS (As := [.int 3, .int 0, .int 5]) (rest := []) (Ts := []) ⟨hx, hb, hml, hown, fun _ h9 => absurd h9 List.not_mem_nil⟩ (lf_isOutside l E _ G 3 0 5 (by decide) (by decide)) (rc_cwS hAm qw_269 qw_1 qw_271 qw_270 rfl rfl hd_X6_isOutside ⟨Nat.le_of_ble_eq_true rfl, Nat.le_of_ble_eq_true rfl⟩) (tg_preS hAm hA hw) rfl rfl hl.1 rfl (lv_room (Nat.le_of_ble_eq_true rfl)) dX6_ofChange_21 ⟨Nat.le_of_ble_eq_true rfl, Nat.le_of_ble_eq_true rfl⟩) hA hw (fun H locs hw => ?_)
  refine lv_if_eq (tgt := 37) hx hb dX6_ofChange_24 (by decide) (fun _ => ?_) (fun c9 => absurd (by decide) c9)
  refine lv_aload_n hx hb dX6_ofChange_37 rfl (lv_at hl 0 rfl) ?_
  refine lv_aload_n hx hb dX6_ofChange_38 rfl (lv_at hl 0 rfl) ?_
  refine lv_iload_n hx hb dX6_ofChange_39 rfl (lv_at hl 1 rfl) ?_
  refine tg_callRr (va_runV (As := [.int (nI c)]) (rest := [.ref (ad 8)]) (Ts := []) ⟨hx, hb, hml, hown, fun _ h9 => absurd h9 List.not_mem_nil⟩ (co_changeAt l E _ ad v G hI c hc) (rc_cwV hAm qw_432 qw_1 qw_435 qw_434 qs_9 rfl rfl hd_X6_changeAt ⟨Nat.le_of_ble_eq_true rfl, Nat.le_of_ble_eq_true rfl⟩) (tg_preV hAm hA hw hco (q := vwCl[7]) rfl) rfl rfl hl.1 rfl (lv_room (Nat.le_of_ble_eq_true rfl)) dX6_ofChange_40 ⟨Nat.le_of_ble_eq_true rfl, Nat.le_of_ble_eq_true rfl⟩) hA hw (fun H locs hw => ?_)
  refine lv_iload_n hx hb dX6_ofChange_43 rfl (lv_at hl 2 rfl) ?_
  refine tg_calli (va_runV (As := [.ref (ad (40 + 3 * c)), .int 3]) (rest := []) (Ts := []) ⟨hx, hb, hml, hown, fun _ h9 => absurd h9 List.not_mem_nil⟩ (co_changeFact3 l E _ ad v G hI hS c (by omega)) (rc_cwV hAm qw_573 qw_1 qw_576 qw_575 qs_34 rfl rfl hd_X6_changeFact ⟨Nat.le_of_ble_eq_true rfl, Nat.le_of_ble_eq_true rfl⟩) (tg_preV hAm hA hw hco (q := vwCl[7]) rfl) rfl rfl hl.1 rfl (lv_room (Nat.le_of_ble_eq_true rfl)) dX6_ofChange_44 ⟨Nat.le_of_ble_eq_true rfl, Nat.le_of_ble_eq_true rfl⟩) hA hw (fun r_2 G_1 H locs hp hw => ?_)
  obtain ⟨hr9, hm15, hu⟩ := hp
  rw [hr9]
  have hS := scH_one hS hm15 hu
  have hco := (hu 8 (by omega)).trans hco
  have hcc := (hu (40 + 3 * c) (by omega)).trans hcc
  have hI := hI.scr (fun t9 h9 => hu t9 (by omega))
  have HO := fun (t9 : Nat) (h9 : t9 < 15 ∨ 31 ≤ t9) => (hu t9 (by omega)).trans (HO t9 h9)
  exact tg_iret hx hb hr hlocks hw (⟨rfl, hS, HO⟩) (Nat.le_of_ble_eq_true rfl) (Nat.le_of_ble_eq_true rfl) dX6_ofChange_47
set_option maxHeartbeats 4000000 in
set_option maxRecDepth 100000 in
theorem pu_ofChange4 (l : Launch) (E : rc_E) (sz : Nat) (ad : Nat → Nat) (v : av_V) (G : tg_G) (hI : ssH E ad v G) (hS : scH E ad G) (c : Nat) (hc : c < 6) : tg_M l yX6_ofChange [Cond.code yX6_ofChange cX6_ofChange 3 (some FieldType.int)] { frames := 5, cells := 0, slots := 0, locals := 109 } E [.ref (ad 8), .int (nI c), .int 4] G sz (tg_Qi E (fun r u => r = wAt (samp v c) ((samp v c).length - 1) ∧ scH E ad u ∧ ∀ t9, t9 < 15 ∨ 31 ≤ t9 → u t9 = G t9)) 0 0 := by
  refine tg_in (cc := cX6_ofChange) (maxL := 3) (ret := (some FieldType.int)) (tg_Qi E (fun r u => r = wAt (samp v c) ((samp v c).length - 1) ∧ scH E ad u ∧ ∀ t9, t9 < 15 ∨ 31 ≤ t9 → u t9 = G t9)) (by decide) rfl (Nat.le_of_ble_eq_true rfl) ?_
  intro p e s m args below meth cd ls A hx hb hr hml hown hlocks hin hA hAm hw hl
  have hown : s.vm.findClass RX6 = some m.cls := hown
  have hl : lv_has ls 3 [(0, .ref (ad 8)), (1, .int (nI c)), (2, .int 4)] := hl
  obtain ⟨h0, hco, ⟨hLm, hLc, hLr⟩, hbi, hma, hch, hru⟩ := id hI
  have hn60 := h0.1
  have HO := fun (t9 : Nat) (_ : t9 < 15 ∨ 31 ≤ t9) => (rfl : G t9 = G t9)
  have hcc : G (40 + 3 * c) = some (ad (40 + 3 * c), .inr (2, [.ref (ad (41 + 3 * c)), .int (vC v c).1, .int (vC v c).2])) := (hch c (by omega)).1
  refine lv_aload_n hx hb dX6_ofChange_0 rfl (lv_at hl 0 rfl) ?_
  refine lv_iload_n hx hb dX6_ofChange_1 rfl (lv_at hl 1 rfl) ?_
  refine tg_callRi (va_runV (As := [.int (nI c)]) (rest := []) (Ts := []) ⟨hx, hb, hml, hown, fun _ h9 => absurd h9 List.not_mem_nil⟩ (co_isNoChange l E _ ad v G hI c hc) (rc_cwV hAm qw_678 qw_1 qw_681 qw_680 qs_46 rfl rfl hd_X6_isNoChange ⟨Nat.le_of_ble_eq_true rfl, Nat.le_of_ble_eq_true rfl⟩) (tg_preV hAm hA hw hco (q := vwCl[7]) rfl) rfl rfl hl.1 rfl (lv_room (Nat.le_of_ble_eq_true rfl)) dX6_ofChange_2 ⟨Nat.le_of_ble_eq_true rfl, Nat.le_of_ble_eq_true rfl⟩) hA hw (fun H locs hw => ?_)
  refine lv_if_eq (tgt := 18) hx hb dX6_ofChange_5 (by decide) (fun _ => ?_) (fun c9 => absurd (by decide) c9)
  refine lv_iload_n hx hb dX6_ofChange_18 rfl (lv_at hl 2 rfl) ?_
  refine lv_iconst (v := 0) hx hb dX6_ofChange_19 (by decide) ?_
  refine lv_iconst (v := 5) hx hb dX6_ofChange_20 (by decide) ?_
  refine tg_callRi (va_runS (As := [.int 4, .int 0, .int 5]) (rest := []) (Ts := []) ⟨hx, hb, hml, hown, fun _ h9 => absurd h9 List.not_mem_nil⟩ (lf_isOutside l E _ G 4 0 5 (by decide) (by decide)) (rc_cwS hAm qw_269 qw_1 qw_271 qw_270 rfl rfl hd_X6_isOutside ⟨Nat.le_of_ble_eq_true rfl, Nat.le_of_ble_eq_true rfl⟩) (tg_preS hAm hA hw) rfl rfl hl.1 rfl (lv_room (Nat.le_of_ble_eq_true rfl)) dX6_ofChange_21 ⟨Nat.le_of_ble_eq_true rfl, Nat.le_of_ble_eq_true rfl⟩) hA hw (fun H locs hw => ?_)
  refine lv_if_eq (tgt := 37) hx hb dX6_ofChange_24 (by decide) (fun _ => ?_) (fun c9 => absurd (by decide) c9)
  refine lv_aload_n hx hb dX6_ofChange_37 rfl (lv_at hl 0 rfl) ?_
  refine lv_aload_n hx hb dX6_ofChange_38 rfl (lv_at hl 0 rfl) ?_
  refine lv_iload_n hx hb dX6_ofChange_39 rfl (lv_at hl 1 rfl) ?_
  refine tg_callRr (va_runV (As := [.int (nI c)]) (rest := [.ref (ad 8)]) (Ts := []) ⟨hx, hb, hml, hown, fun _ h9 => absurd h9 List.not_mem_nil⟩ (co_changeAt l E _ ad v G hI c hc) (rc_cwV hAm qw_432 qw_1 qw_435 qw_434 qs_9 rfl rfl hd_X6_changeAt ⟨Nat.le_of_ble_eq_true rfl, Nat.le_of_ble_eq_true rfl⟩) (tg_preV hAm hA hw hco (q := vwCl[7]) rfl) rfl rfl hl.1 rfl (lv_room (Nat.le_of_ble_eq_true rfl)) dX6_ofChange_40 ⟨Nat.le_of_ble_eq_true rfl, Nat.le_of_ble_eq_true rfl⟩) hA hw (fun H locs hw => ?_)
  refine lv_iload_n hx hb dX6_ofChange_43 rfl (lv_at hl 2 rfl) ?_
  refine tg_calli (va_runV (As := [.ref (ad (40 + 3 * c)), .int 4]) (rest := []) (Ts := []) ⟨hx, hb, hml, hown, fun _ h9 => absurd h9 List.not_mem_nil⟩ (co_changeFact4 l E _ ad v G hI hS c (by omega)) (rc_cwV hAm qw_573 qw_1 qw_576 qw_575 qs_34 rfl rfl hd_X6_changeFact ⟨Nat.le_of_ble_eq_true rfl, Nat.le_of_ble_eq_true rfl⟩) (tg_preV hAm hA hw hco (q := vwCl[7]) rfl) rfl rfl hl.1 rfl (lv_room (Nat.le_of_ble_eq_true rfl)) dX6_ofChange_44 ⟨Nat.le_of_ble_eq_true rfl, Nat.le_of_ble_eq_true rfl⟩) hA hw (fun r_2 G_1 H locs hp hw => ?_)
  obtain ⟨hr9, hm15, hu⟩ := hp
  rw [hr9]
  have hS := scH_one hS hm15 hu
  have hco := (hu 8 (by omega)).trans hco
  have hcc := (hu (40 + 3 * c) (by omega)).trans hcc
  have hI := hI.scr (fun t9 h9 => hu t9 (by omega))
  have HO := fun (t9 : Nat) (h9 : t9 < 15 ∨ 31 ≤ t9) => (hu t9 (by omega)).trans (HO t9 h9)
  exact tg_iret hx hb hr hlocks hw (⟨rfl, hS, HO⟩) (Nat.le_of_ble_eq_true rfl) (Nat.le_of_ble_eq_true rfl) dX6_ofChange_47
set_option maxHeartbeats 4000000 in
set_option maxRecDepth 100000 in
theorem pu_ofChange5 (l : Launch) (E : rc_E) (sz : Nat) (ad : Nat → Nat) (v : av_V) (G : tg_G) (hI : ssH E ad v G) (hS : scH E ad G) (c : Nat) (hc : c < 6) : tg_M l yX6_ofChange [Cond.code yX6_ofChange cX6_ofChange 3 (some FieldType.int)] { frames := 5, cells := 0, slots := 0, locals := 109 } E [.ref (ad 8), .int (nI c), .int 5] G sz (tg_Qi E (fun r u => r = chE v c ∧ scH E ad u ∧ ∀ t9, t9 < 15 ∨ 31 ≤ t9 → u t9 = G t9)) 0 0 := by
  refine tg_in (cc := cX6_ofChange) (maxL := 3) (ret := (some FieldType.int)) (tg_Qi E (fun r u => r = chE v c ∧ scH E ad u ∧ ∀ t9, t9 < 15 ∨ 31 ≤ t9 → u t9 = G t9)) (by decide) rfl (Nat.le_of_ble_eq_true rfl) ?_
  intro p e s m args below meth cd ls A hx hb hr hml hown hlocks hin hA hAm hw hl
  have hown : s.vm.findClass RX6 = some m.cls := hown
  have hl : lv_has ls 3 [(0, .ref (ad 8)), (1, .int (nI c)), (2, .int 5)] := hl
  obtain ⟨h0, hco, ⟨hLm, hLc, hLr⟩, hbi, hma, hch, hru⟩ := id hI
  have hn60 := h0.1
  have HO := fun (t9 : Nat) (_ : t9 < 15 ∨ 31 ≤ t9) => (rfl : G t9 = G t9)
  have hcc : G (40 + 3 * c) = some (ad (40 + 3 * c), .inr (2, [.ref (ad (41 + 3 * c)), .int (vC v c).1, .int (vC v c).2])) := (hch c (by omega)).1
  refine lv_aload_n hx hb dX6_ofChange_0 rfl (lv_at hl 0 rfl) ?_
  refine lv_iload_n hx hb dX6_ofChange_1 rfl (lv_at hl 1 rfl) ?_
  refine tg_callRi (va_runV (As := [.int (nI c)]) (rest := []) (Ts := []) ⟨hx, hb, hml, hown, fun _ h9 => absurd h9 List.not_mem_nil⟩ (co_isNoChange l E _ ad v G hI c hc) (rc_cwV hAm qw_678 qw_1 qw_681 qw_680 qs_46 rfl rfl hd_X6_isNoChange ⟨Nat.le_of_ble_eq_true rfl, Nat.le_of_ble_eq_true rfl⟩) (tg_preV hAm hA hw hco (q := vwCl[7]) rfl) rfl rfl hl.1 rfl (lv_room (Nat.le_of_ble_eq_true rfl)) dX6_ofChange_2 ⟨Nat.le_of_ble_eq_true rfl, Nat.le_of_ble_eq_true rfl⟩) hA hw (fun H locs hw => ?_)
  refine lv_if_eq (tgt := 18) hx hb dX6_ofChange_5 (by decide) (fun _ => ?_) (fun c9 => absurd (by decide) c9)
  refine lv_iload_n hx hb dX6_ofChange_18 rfl (lv_at hl 2 rfl) ?_
  refine lv_iconst (v := 0) hx hb dX6_ofChange_19 (by decide) ?_
  refine lv_iconst (v := 5) hx hb dX6_ofChange_20 (by decide) ?_
  refine tg_callRi (va_runS (As := [.int 5, .int 0, .int 5]) (rest := []) (Ts := []) ⟨hx, hb, hml, hown, fun _ h9 => absurd h9 List.not_mem_nil⟩ (lf_isOutside l E _ G 5 0 5 (by decide) (by decide)) (rc_cwS hAm qw_269 qw_1 qw_271 qw_270 rfl rfl hd_X6_isOutside ⟨Nat.le_of_ble_eq_true rfl, Nat.le_of_ble_eq_true rfl⟩) (tg_preS hAm hA hw) rfl rfl hl.1 rfl (lv_room (Nat.le_of_ble_eq_true rfl)) dX6_ofChange_21 ⟨Nat.le_of_ble_eq_true rfl, Nat.le_of_ble_eq_true rfl⟩) hA hw (fun H locs hw => ?_)
  refine lv_if_eq (tgt := 37) hx hb dX6_ofChange_24 (by decide) (fun _ => ?_) (fun c9 => absurd (by decide) c9)
  refine lv_aload_n hx hb dX6_ofChange_37 rfl (lv_at hl 0 rfl) ?_
  refine lv_aload_n hx hb dX6_ofChange_38 rfl (lv_at hl 0 rfl) ?_
  refine lv_iload_n hx hb dX6_ofChange_39 rfl (lv_at hl 1 rfl) ?_
  refine tg_callRr (va_runV (As := [.int (nI c)]) (rest := [.ref (ad 8)]) (Ts := []) ⟨hx, hb, hml, hown, fun _ h9 => absurd h9 List.not_mem_nil⟩ (co_changeAt l E _ ad v G hI c hc) (rc_cwV hAm qw_432 qw_1 qw_435 qw_434 qs_9 rfl rfl hd_X6_changeAt ⟨Nat.le_of_ble_eq_true rfl, Nat.le_of_ble_eq_true rfl⟩) (tg_preV hAm hA hw hco (q := vwCl[7]) rfl) rfl rfl hl.1 rfl (lv_room (Nat.le_of_ble_eq_true rfl)) dX6_ofChange_40 ⟨Nat.le_of_ble_eq_true rfl, Nat.le_of_ble_eq_true rfl⟩) hA hw (fun H locs hw => ?_)
  refine lv_iload_n hx hb dX6_ofChange_43 rfl (lv_at hl 2 rfl) ?_
  refine tg_calli (va_runV (As := [.ref (ad (40 + 3 * c)), .int 5]) (rest := []) (Ts := []) ⟨hx, hb, hml, hown, fun _ h9 => absurd h9 List.not_mem_nil⟩ (co_changeFact5 l E _ ad v G hI hS c (by omega)) (rc_cwV hAm qw_573 qw_1 qw_576 qw_575 qs_34 rfl rfl hd_X6_changeFact ⟨Nat.le_of_ble_eq_true rfl, Nat.le_of_ble_eq_true rfl⟩) (tg_preV hAm hA hw hco (q := vwCl[7]) rfl) rfl rfl hl.1 rfl (lv_room (Nat.le_of_ble_eq_true rfl)) dX6_ofChange_44 ⟨Nat.le_of_ble_eq_true rfl, Nat.le_of_ble_eq_true rfl⟩) hA hw (fun r_2 G_1 H locs hp hw => ?_)
  obtain ⟨hr9, hm15, hu⟩ := hp
  rw [hr9]
  have hS := scH_one hS hm15 hu
  have hco := (hu 8 (by omega)).trans hco
  have hcc := (hu (40 + 3 * c) (by omega)).trans hcc
  have hI := hI.scr (fun t9 h9 => hu t9 (by omega))
  have HO := fun (t9 : Nat) (h9 : t9 < 15 ∨ 31 ≤ t9) => (hu t9 (by omega)).trans (HO t9 h9)
  exact tg_iret hx hb hr hlocks hw (⟨rfl, hS, HO⟩) (Nat.le_of_ble_eq_true rfl) (Nat.le_of_ble_eq_true rfl) dX6_ofChange_47
