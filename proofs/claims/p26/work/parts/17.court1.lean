set_option maxHeartbeats 4000000 in
set_option maxRecDepth 100000 in
theorem co_isNoChange (l : Launch) (E : rc_E) (sz : Nat) (ad : Nat → Nat) (v : av_V) (G : tg_G) (hI : ssH E ad v G) (c : Nat) (hc : c < 6) : tg_M l yX6_isNoChange [Cond.code yX6_isNoChange cX6_isNoChange 2 (some FieldType.boolean)] { frames := 1, cells := 0, slots := 0, locals := 20 } E [.ref (ad 8), .int (nI c)] G sz (tg_Qi E (fun r u => r = 0 ∧ u = G)) 0 0 := by
  refine tg_in (cc := cX6_isNoChange) (maxL := 2) (ret := (some FieldType.boolean)) (tg_Qi E (fun r u => r = 0 ∧ u = G)) (by decide) rfl (Nat.le_of_ble_eq_true rfl) ?_
  intro p e s m args below meth cd ls A hx hb hr hml hown hlocks hin hA hAm hw hl
  have hown : s.vm.findClass RX6 = some m.cls := hown
  have hl : lv_has ls 2 [(0, .ref (ad 8)), (1, .int (nI c))] := hl
  obtain ⟨h0, hco, ⟨hLm, hLc, hLr⟩, hbi, hma, hch, hru⟩ := id hI
  have hn60 := h0.1
  obtain ⟨mcc, lac, capc, fc, hlc, hrc, hpc, hqc, hfc⟩ := ltH.pos hLc (by decide)
  refine lv_iload_n hx hb dX6_isNoChange_0 rfl (lv_at hl 1 rfl) ?_
  refine lv_if_lt (tgt := 15) hx hb dX6_isNoChange_1 (by decide) (fun c9 => absurd c9 (fun z9 => absurd ((nI_ltI (a := c) (b := 0) (by omega) (by omega)).mp z9) (by omega))) (fun _ => ?_)
  refine lv_iload_n hx hb dX6_isNoChange_4 rfl (lv_at hl 1 rfl) ?_
  refine lv_aload_n hx hb dX6_isNoChange_5 rfl (lv_at hl 0 rfl) ?_
  refine tg_get (v := .ref (ad 11)) hx hb hown hAm hw lyX6 hco rfl 1 (by decide) qw_226 (fun _ h9 => h9) rfl dX6_isNoChange_6 ?_
  refine tg_callRi (va_runV (As := []) (rest := [.int (nI c)]) (Ts := []) ⟨hx, hb, hml, hown, fun _ h9 => absurd h9 List.not_mem_nil⟩ (lf_size l E _ G (n := 6) hlc) (rc_cwV hAm qw_343 qw_4 qw_346 qw_344 qw_345 rfl rfl hd_Jx4a65c_size_8abf5 ⟨Nat.le_of_ble_eq_true rfl, Nat.le_of_ble_eq_true rfl⟩) (tg_preV hAm hA hw hlc (q := vwCl[0]) rfl) rfl rfl hl.1 rfl (lv_room (Nat.le_of_ble_eq_true rfl)) dX6_isNoChange_9 ⟨Nat.le_of_ble_eq_true rfl, Nat.le_of_ble_eq_true rfl⟩) hA hw (fun H locs hw => ?_)
  refine lv_icmp_lt (tgt := 19) hx hb dX6_isNoChange_12 (by decide) (fun _ => ?_) (fun c9 => absurd ((nI_ltI (a := c) (b := 6) (by omega) (by omega)).mpr (by omega)) c9)
  refine lv_iconst (v := 0) hx hb dX6_isNoChange_19 (by decide) ?_
  exact tg_zret hx hb hr hlocks hw rfl (⟨rfl, rfl⟩) (Nat.le_of_ble_eq_true rfl) (Nat.le_of_ble_eq_true rfl) dX6_isNoChange_20
set_option maxHeartbeats 4000000 in
set_option maxRecDepth 100000 in
theorem co_changeAt (l : Launch) (E : rc_E) (sz : Nat) (ad : Nat → Nat) (v : av_V) (G : tg_G) (hI : ssH E ad v G) (c : Nat) (hc : c < 6) : tg_M l yX6_changeAt [Cond.code yX6_changeAt cX6_changeAt 2 (some (FieldType.object "RegressionCourt$Change"))] { frames := 3, cells := 0, slots := 0, locals := 64 } E [.ref (ad 8), .int (nI c)] G sz (tg_Qr E (fun u r => r = ad (40 + 3 * c) ∧ u = G)) 0 0 := by
  refine tg_in (cc := cX6_changeAt) (maxL := 2) (ret := (some (FieldType.object "RegressionCourt$Change"))) (tg_Qr E (fun u r => r = ad (40 + 3 * c) ∧ u = G)) (by decide) rfl (Nat.le_of_ble_eq_true rfl) ?_
  intro p e s m args below meth cd ls A hx hb hr hml hown hlocks hin hA hAm hw hl
  have hown : s.vm.findClass RX6 = some m.cls := hown
  have hl : lv_has ls 2 [(0, .ref (ad 8)), (1, .int (nI c))] := hl
  obtain ⟨h0, hco, ⟨hLm, hLc, hLr⟩, hbi, hma, hch, hru⟩ := id hI
  have hn60 := h0.1
  obtain ⟨mcc, lac, capc, fc, hlc, hrc, hpc, hqc, hfc⟩ := ltH.pos hLc (by decide)
  by_cases hz : c = 0
  · subst hz
    refine lv_iload_n hx hb dX6_changeAt_0 rfl (lv_at hl 1 rfl) ?_
    refine lv_if_le (tgt := 29) hx hb dX6_changeAt_1 (by decide) (fun _ => ?_) (fun c9 => absurd ((nI_leI (a := 0) (b := 0) (by omega) (by omega)).mpr (by omega)) c9)
    refine lv_aload_n hx hb dX6_changeAt_29 rfl (lv_at hl 0 rfl) ?_
    refine tg_get (v := .ref (ad 40)) hx hb hown hAm hw lyX6 hco rfl 3 (by decide) qw_228 (fun _ h9 => h9) rfl dX6_changeAt_30 ?_
    exact tg_aret hx hb hr (by first | exact Or.inl ⟨_, rfl⟩ | exact Or.inr ⟨_, rfl⟩) hlocks hw (⟨rfl, rfl⟩) (Nat.le_of_ble_eq_true rfl) (Nat.le_of_ble_eq_true rfl) dX6_changeAt_33
  · have hc1 : G (40 + 3 * c) = some (ad (40 + 3 * c), .inr (2, [.ref (ad (41 + 3 * c)), .int (vC v c).1, .int (vC v c).2])) := (hch c (by omega)).1
    refine lv_iload_n hx hb dX6_changeAt_0 rfl (lv_at hl 1 rfl) ?_
    refine lv_if_le (tgt := 29) hx hb dX6_changeAt_1 (by decide) (fun c9 => absurd c9 (fun z9 => absurd ((nI_leI (a := c) (b := 0) (by omega) (by omega)).mp z9) (by omega))) (fun _ => ?_)
    refine lv_iload_n hx hb dX6_changeAt_4 rfl (lv_at hl 1 rfl) ?_
    refine lv_aload_n hx hb dX6_changeAt_5 rfl (lv_at hl 0 rfl) ?_
    refine tg_get (v := .ref (ad 11)) hx hb hown hAm hw lyX6 hco rfl 1 (by decide) qw_226 (fun _ h9 => h9) rfl dX6_changeAt_6 ?_
    refine tg_callRi (va_runV (As := []) (rest := [.int (nI c)]) (Ts := []) ⟨hx, hb, hml, hown, fun _ h9 => absurd h9 List.not_mem_nil⟩ (lf_size l E _ G (n := 6) hlc) (rc_cwV hAm qw_343 qw_4 qw_346 qw_344 qw_345 rfl rfl hd_Jx4a65c_size_8abf5 ⟨Nat.le_of_ble_eq_true rfl, Nat.le_of_ble_eq_true rfl⟩) (tg_preV hAm hA hw hlc (q := vwCl[0]) rfl) rfl rfl hl.1 rfl (lv_room (Nat.le_of_ble_eq_true rfl)) dX6_changeAt_9 ⟨Nat.le_of_ble_eq_true rfl, Nat.le_of_ble_eq_true rfl⟩) hA hw (fun H locs hw => ?_)
    refine lv_icmp_ge (tgt := 29) hx hb dX6_changeAt_12 (by decide) (fun c9 => absurd c9 (fun z9 => absurd ((nI_leI (a := 6) (b := c) (by omega) (by omega)).mp z9) (by omega))) (fun _ => ?_)
    refine lv_aload_n hx hb dX6_changeAt_15 rfl (lv_at hl 0 rfl) ?_
    refine tg_get (v := .ref (ad 11)) hx hb hown hAm hw lyX6 hco rfl 1 (by decide) qw_226 (fun _ h9 => h9) rfl dX6_changeAt_16 ?_
    refine lv_iload_n hx hb dX6_changeAt_19 rfl (lv_at hl 1 rfl) ?_
    refine tg_callRr (va_runV (As := [.int (nI c)]) (rest := []) (Ts := []) ⟨hx, hb, hml, hown, fun _ h9 => absurd h9 List.not_mem_nil⟩ (lf_get l E _ G (k := c) (n := 6) (y := ad (40 + 3 * c)) (by omega) (by omega) (by omega) (hfc c (by omega)) hlc hrc) (rc_cwV hAm qw_436 qw_4 qw_439 qw_437 qw_438 rfl rfl hd_Jx4a65c_get_915e3 ⟨Nat.le_of_ble_eq_true rfl, Nat.le_of_ble_eq_true rfl⟩) (tg_preV hAm hA hw hlc (q := vwCl[0]) rfl) rfl rfl hl.1 rfl (lv_room (Nat.le_of_ble_eq_true rfl)) dX6_changeAt_20 ⟨Nat.le_of_ble_eq_true rfl, Nat.le_of_ble_eq_true rfl⟩) hA hw (fun H locs hw => ?_)
    refine tg_castS (C := RX1) hx hb hown hAm hw qw_59 hc1 rfl dX6_changeAt_23 ?_
    refine lv_goto (tgt := 33) hx hb dX6_changeAt_26 (by decide) ?_
    exact tg_aret hx hb hr (by first | exact Or.inl ⟨_, rfl⟩ | exact Or.inr ⟨_, rfl⟩) hlocks hw (⟨rfl, rfl⟩) (Nat.le_of_ble_eq_true rfl) (Nat.le_of_ble_eq_true rfl) dX6_changeAt_33
set_option maxHeartbeats 4000000 in
set_option maxRecDepth 100000 in
theorem co_machineFact0 (l : Launch) (E : rc_E) (sz : Nat) (ad : Nat → Nat) (v : av_V) (G : tg_G) (hI : ssH E ad v G) (j : Nat) (hj : j < 2) : tg_M l yX6_machineFact [Cond.code yX6_machineFact cX6_machineFact 3 (some FieldType.int)] { frames := 0, cells := 0, slots := 0, locals := 0 } E [.ref (ad 8), .ref (ad (32 + j)), .int 0] G sz (tg_Qi E (fun r u => r = nI (vMN v j 1) ∧ u = G)) 0 0 := by
  refine tg_in (cc := cX6_machineFact) (maxL := 3) (ret := (some FieldType.int)) (tg_Qi E (fun r u => r = nI (vMN v j 1) ∧ u = G)) (by decide) rfl (Nat.le_of_ble_eq_true rfl) ?_
  intro p e s m args below meth cd ls A hx hb hr hml hown hlocks hin hA hAm hw hl
  have hown : s.vm.findClass RX6 = some m.cls := hown
  have hl : lv_has ls 3 [(0, .ref (ad 8)), (1, .ref (ad (32 + j))), (2, .int 0)] := hl
  obtain ⟨h0, hco, ⟨hLm, hLc, hLr⟩, hbi, hma, hch, hru⟩ := id hI
  have hn60 := h0.1
  have hm_j : G (32 + j) = some (ad (32 + j), .inr (4, [.int (nI j), .int (nI (vMN v j 1)), .int (nI (vMN v j 2)), .int (vMI v j 3), .int (vMI v j 4), .int (vMI v j 5), .int (nI (vMN v j 6)), .int (vMI v j 7)])) := hma j (by omega)
  refine lv_iload_n hx hb dX6_machineFact_0 rfl (lv_at hl 2 rfl) ?_
  refine lv_tableIn (tgt := 32) hx hb dX6_machineFact_1 (by decide) (by decide) rfl (by decide) ?_
  refine lv_aload_n hx hb dX6_machineFact_32 rfl (lv_at hl 1 rfl) ?_
  refine tg_getN (v := .int (nI (vMN v j 1))) hx hb hown hAm hw lyX3 hm_j rfl 1 (by decide) qw_372 (fun _ h9 => h9) rfl dX6_machineFact_33 ?_
  exact tg_iret hx hb hr hlocks hw (⟨rfl, rfl⟩) (Nat.le_of_ble_eq_true rfl) (Nat.le_of_ble_eq_true rfl) dX6_machineFact_36
set_option maxHeartbeats 4000000 in
set_option maxRecDepth 100000 in
theorem co_machineFact1 (l : Launch) (E : rc_E) (sz : Nat) (ad : Nat → Nat) (v : av_V) (G : tg_G) (hI : ssH E ad v G) (j : Nat) (hj : j < 2) : tg_M l yX6_machineFact [Cond.code yX6_machineFact cX6_machineFact 3 (some FieldType.int)] { frames := 0, cells := 0, slots := 0, locals := 0 } E [.ref (ad 8), .ref (ad (32 + j)), .int 1] G sz (tg_Qi E (fun r u => r = nI (vMN v j 2) ∧ u = G)) 0 0 := by
  refine tg_in (cc := cX6_machineFact) (maxL := 3) (ret := (some FieldType.int)) (tg_Qi E (fun r u => r = nI (vMN v j 2) ∧ u = G)) (by decide) rfl (Nat.le_of_ble_eq_true rfl) ?_
  intro p e s m args below meth cd ls A hx hb hr hml hown hlocks hin hA hAm hw hl
  have hown : s.vm.findClass RX6 = some m.cls := hown
  have hl : lv_has ls 3 [(0, .ref (ad 8)), (1, .ref (ad (32 + j))), (2, .int 1)] := hl
  obtain ⟨h0, hco, ⟨hLm, hLc, hLr⟩, hbi, hma, hch, hru⟩ := id hI
  have hn60 := h0.1
  have hm_j : G (32 + j) = some (ad (32 + j), .inr (4, [.int (nI j), .int (nI (vMN v j 1)), .int (nI (vMN v j 2)), .int (vMI v j 3), .int (vMI v j 4), .int (vMI v j 5), .int (nI (vMN v j 6)), .int (vMI v j 7)])) := hma j (by omega)
  refine lv_iload_n hx hb dX6_machineFact_0 rfl (lv_at hl 2 rfl) ?_
  refine lv_tableIn (tgt := 37) hx hb dX6_machineFact_1 (by decide) (by decide) rfl (by decide) ?_
  refine lv_aload_n hx hb dX6_machineFact_37 rfl (lv_at hl 1 rfl) ?_
  refine tg_getN (v := .int (nI (vMN v j 2))) hx hb hown hAm hw lyX3 hm_j rfl 2 (by decide) qw_374 (fun _ h9 => h9) rfl dX6_machineFact_38 ?_
  exact tg_iret hx hb hr hlocks hw (⟨rfl, rfl⟩) (Nat.le_of_ble_eq_true rfl) (Nat.le_of_ble_eq_true rfl) dX6_machineFact_41
set_option maxHeartbeats 4000000 in
set_option maxRecDepth 100000 in
theorem co_machineFact2 (l : Launch) (E : rc_E) (sz : Nat) (ad : Nat → Nat) (v : av_V) (G : tg_G) (hI : ssH E ad v G) (j : Nat) (hj : j < 2) : tg_M l yX6_machineFact [Cond.code yX6_machineFact cX6_machineFact 3 (some FieldType.int)] { frames := 1, cells := 0, slots := 0, locals := 20 } E [.ref (ad 8), .ref (ad (32 + j)), .int 2] G sz (tg_Qi E (fun r u => r = vMI v j 7 ∧ u = G)) 0 0 := by
  refine tg_in (cc := cX6_machineFact) (maxL := 3) (ret := (some FieldType.int)) (tg_Qi E (fun r u => r = vMI v j 7 ∧ u = G)) (by decide) rfl (Nat.le_of_ble_eq_true rfl) ?_
  intro p e s m args below meth cd ls A hx hb hr hml hown hlocks hin hA hAm hw hl
  have hown : s.vm.findClass RX6 = some m.cls := hown
  have hl : lv_has ls 3 [(0, .ref (ad 8)), (1, .ref (ad (32 + j))), (2, .int 2)] := hl
  obtain ⟨h0, hco, ⟨hLm, hLc, hLr⟩, hbi, hma, hch, hru⟩ := id hI
  have hn60 := h0.1
  have hm_j : G (32 + j) = some (ad (32 + j), .inr (4, [.int (nI j), .int (nI (vMN v j 1)), .int (nI (vMN v j 2)), .int (vMI v j 3), .int (vMI v j 4), .int (vMI v j 5), .int (nI (vMN v j 6)), .int (vMI v j 7)])) := hma j (by omega)
  refine lv_iload_n hx hb dX6_machineFact_0 rfl (lv_at hl 2 rfl) ?_
  refine lv_tableIn (tgt := 42) hx hb dX6_machineFact_1 (by decide) (by decide) rfl (by decide) ?_
  refine lv_aload_n hx hb dX6_machineFact_42 rfl (lv_at hl 1 rfl) ?_
  refine tg_getN (v := .int (vMI v j 7)) hx hb hown hAm hw lyX3 hm_j rfl 7 (by decide) qw_383 (fun _ h9 => h9) rfl dX6_machineFact_43 ?_
  refine tg_callRi (va_runS (As := [.int (vMI v j 7)]) (rest := []) (Ts := []) ⟨hx, hb, hml, hown, fun _ h9 => absurd h9 List.not_mem_nil⟩ (lf_oneIf l E _ G (z := vMI v j 7) (h0.2.2.1 j hj).2.2.2.2.2) (rc_cwS hAm qw_526 qw_1 qw_528 qw_527 rfl rfl hd_X6_oneIf ⟨Nat.le_of_ble_eq_true rfl, Nat.le_of_ble_eq_true rfl⟩) (tg_preS hAm hA hw) rfl rfl hl.1 rfl (lv_room (Nat.le_of_ble_eq_true rfl)) dX6_machineFact_46 ⟨Nat.le_of_ble_eq_true rfl, Nat.le_of_ble_eq_true rfl⟩) hA hw (fun H locs hw => ?_)
  exact tg_iret hx hb hr hlocks hw (⟨rfl, rfl⟩) (Nat.le_of_ble_eq_true rfl) (Nat.le_of_ble_eq_true rfl) dX6_machineFact_49
set_option maxHeartbeats 4000000 in
set_option maxRecDepth 100000 in
theorem co_machineFact3 (l : Launch) (E : rc_E) (sz : Nat) (ad : Nat → Nat) (v : av_V) (G : tg_G) (hI : ssH E ad v G) (j : Nat) (hj : j < 2) : tg_M l yX6_machineFact [Cond.code yX6_machineFact cX6_machineFact 3 (some FieldType.int)] { frames := 0, cells := 0, slots := 0, locals := 0 } E [.ref (ad 8), .ref (ad (32 + j)), .int 3] G sz (tg_Qi E (fun r u => r = nI (vMN v j 6) ∧ u = G)) 0 0 := by
  refine tg_in (cc := cX6_machineFact) (maxL := 3) (ret := (some FieldType.int)) (tg_Qi E (fun r u => r = nI (vMN v j 6) ∧ u = G)) (by decide) rfl (Nat.le_of_ble_eq_true rfl) ?_
  intro p e s m args below meth cd ls A hx hb hr hml hown hlocks hin hA hAm hw hl
  have hown : s.vm.findClass RX6 = some m.cls := hown
  have hl : lv_has ls 3 [(0, .ref (ad 8)), (1, .ref (ad (32 + j))), (2, .int 3)] := hl
  obtain ⟨h0, hco, ⟨hLm, hLc, hLr⟩, hbi, hma, hch, hru⟩ := id hI
  have hn60 := h0.1
  have hm_j : G (32 + j) = some (ad (32 + j), .inr (4, [.int (nI j), .int (nI (vMN v j 1)), .int (nI (vMN v j 2)), .int (vMI v j 3), .int (vMI v j 4), .int (vMI v j 5), .int (nI (vMN v j 6)), .int (vMI v j 7)])) := hma j (by omega)
  refine lv_iload_n hx hb dX6_machineFact_0 rfl (lv_at hl 2 rfl) ?_
  refine lv_tableIn (tgt := 50) hx hb dX6_machineFact_1 (by decide) (by decide) rfl (by decide) ?_
  refine lv_aload_n hx hb dX6_machineFact_50 rfl (lv_at hl 1 rfl) ?_
  refine tg_getN (v := .int (nI (vMN v j 6))) hx hb hown hAm hw lyX3 hm_j rfl 6 (by decide) qw_380 (fun _ h9 => h9) rfl dX6_machineFact_51 ?_
  exact tg_iret hx hb hr hlocks hw (⟨rfl, rfl⟩) (Nat.le_of_ble_eq_true rfl) (Nat.le_of_ble_eq_true rfl) dX6_machineFact_54
set_option maxHeartbeats 4000000 in
set_option maxRecDepth 100000 in
theorem co_machineFact4 (l : Launch) (E : rc_E) (sz : Nat) (ad : Nat → Nat) (v : av_V) (G : tg_G) (hI : ssH E ad v G) (j : Nat) (hj : j < 2) : tg_M l yX6_machineFact [Cond.code yX6_machineFact cX6_machineFact 3 (some FieldType.int)] { frames := 0, cells := 0, slots := 0, locals := 0 } E [.ref (ad 8), .ref (ad (32 + j)), .int 4] G sz (tg_Qi E (fun r u => r = vMI v j 5 ∧ u = G)) 0 0 := by
  refine tg_in (cc := cX6_machineFact) (maxL := 3) (ret := (some FieldType.int)) (tg_Qi E (fun r u => r = vMI v j 5 ∧ u = G)) (by decide) rfl (Nat.le_of_ble_eq_true rfl) ?_
  intro p e s m args below meth cd ls A hx hb hr hml hown hlocks hin hA hAm hw hl
  have hown : s.vm.findClass RX6 = some m.cls := hown
  have hl : lv_has ls 3 [(0, .ref (ad 8)), (1, .ref (ad (32 + j))), (2, .int 4)] := hl
  obtain ⟨h0, hco, ⟨hLm, hLc, hLr⟩, hbi, hma, hch, hru⟩ := id hI
  have hn60 := h0.1
  have hm_j : G (32 + j) = some (ad (32 + j), .inr (4, [.int (nI j), .int (nI (vMN v j 1)), .int (nI (vMN v j 2)), .int (vMI v j 3), .int (vMI v j 4), .int (vMI v j 5), .int (nI (vMN v j 6)), .int (vMI v j 7)])) := hma j (by omega)
  refine lv_iload_n hx hb dX6_machineFact_0 rfl (lv_at hl 2 rfl) ?_
  refine lv_tableOut (tgt := 55) hx hb dX6_machineFact_1 (by decide) (by decide) ?_
  refine lv_aload_n hx hb dX6_machineFact_55 rfl (lv_at hl 1 rfl) ?_
  refine tg_getN (v := .int (vMI v j 5)) hx hb hown hAm hw lyX3 hm_j rfl 5 (by decide) qw_378 (fun _ h9 => h9) rfl dX6_machineFact_56 ?_
  exact tg_iret hx hb hr hlocks hw (⟨rfl, rfl⟩) (Nat.le_of_ble_eq_true rfl) (Nat.le_of_ble_eq_true rfl) dX6_machineFact_59
set_option maxHeartbeats 4000000 in
set_option maxRecDepth 100000 in
theorem co_caseFact0 (l : Launch) (E : rc_E) (sz : Nat) (ad : Nat → Nat) (v : av_V) (G : tg_G) (hI : ssH E ad v G) : tg_M l yX6_caseFact [Cond.code yX6_caseFact cX6_caseFact 2 (some FieldType.int)] { frames := 0, cells := 0, slots := 0, locals := 0 } E [.ref (ad 8), .int 0] G sz (tg_Qi E (fun r u => r = vI v 2 ∧ u = G)) 0 0 := by
  refine tg_in (cc := cX6_caseFact) (maxL := 2) (ret := (some FieldType.int)) (tg_Qi E (fun r u => r = vI v 2 ∧ u = G)) (by decide) rfl (Nat.le_of_ble_eq_true rfl) ?_
  intro p e s m args below meth cd ls A hx hb hr hml hown hlocks hin hA hAm hw hl
  have hown : s.vm.findClass RX6 = some m.cls := hown
  have hl : lv_has ls 2 [(0, .ref (ad 8)), (1, .int 0)] := hl
  obtain ⟨h0, hco, ⟨hLm, hLc, hLr⟩, hbi, hma, hch, hru⟩ := id hI
  have hn60 := h0.1
  refine lv_iload_n hx hb dX6_caseFact_0 rfl (lv_at hl 1 rfl) ?_
  refine lv_tableIn (tgt := 28) hx hb dX6_caseFact_1 (by decide) (by decide) rfl (by decide) ?_
  refine lv_aload_n hx hb dX6_caseFact_28 rfl (lv_at hl 0 rfl) ?_
  refine tg_get (v := .ref (ad 31)) hx hb hown hAm hw lyX6 hco rfl 6 (by decide) qw_231 (fun _ h9 => h9) rfl dX6_caseFact_29 ?_
  refine tg_getN (v := .int (vI v 2)) hx hb hown hAm hw lyX0 hbi rfl 1 (by decide) qw_153 (fun _ h9 => h9) rfl dX6_caseFact_32 ?_
  exact tg_iret hx hb hr hlocks hw (⟨rfl, rfl⟩) (Nat.le_of_ble_eq_true rfl) (Nat.le_of_ble_eq_true rfl) dX6_caseFact_35
set_option maxHeartbeats 4000000 in
set_option maxRecDepth 100000 in
theorem co_caseFact1 (l : Launch) (E : rc_E) (sz : Nat) (ad : Nat → Nat) (v : av_V) (G : tg_G) (hI : ssH E ad v G) : tg_M l yX6_caseFact [Cond.code yX6_caseFact cX6_caseFact 2 (some FieldType.int)] { frames := 0, cells := 0, slots := 0, locals := 0 } E [.ref (ad 8), .int 1] G sz (tg_Qi E (fun r u => r = vI v 3 ∧ u = G)) 0 0 := by
  refine tg_in (cc := cX6_caseFact) (maxL := 2) (ret := (some FieldType.int)) (tg_Qi E (fun r u => r = vI v 3 ∧ u = G)) (by decide) rfl (Nat.le_of_ble_eq_true rfl) ?_
  intro p e s m args below meth cd ls A hx hb hr hml hown hlocks hin hA hAm hw hl
  have hown : s.vm.findClass RX6 = some m.cls := hown
  have hl : lv_has ls 2 [(0, .ref (ad 8)), (1, .int 1)] := hl
  obtain ⟨h0, hco, ⟨hLm, hLc, hLr⟩, hbi, hma, hch, hru⟩ := id hI
  have hn60 := h0.1
  refine lv_iload_n hx hb dX6_caseFact_0 rfl (lv_at hl 1 rfl) ?_
  refine lv_tableIn (tgt := 36) hx hb dX6_caseFact_1 (by decide) (by decide) rfl (by decide) ?_
  refine lv_aload_n hx hb dX6_caseFact_36 rfl (lv_at hl 0 rfl) ?_
  refine tg_get (v := .ref (ad 31)) hx hb hown hAm hw lyX6 hco rfl 6 (by decide) qw_231 (fun _ h9 => h9) rfl dX6_caseFact_37 ?_
  refine tg_getN (v := .int (vI v 3)) hx hb hown hAm hw lyX0 hbi rfl 2 (by decide) qw_155 (fun _ h9 => h9) rfl dX6_caseFact_40 ?_
  exact tg_iret hx hb hr hlocks hw (⟨rfl, rfl⟩) (Nat.le_of_ble_eq_true rfl) (Nat.le_of_ble_eq_true rfl) dX6_caseFact_43
set_option maxHeartbeats 4000000 in
set_option maxRecDepth 100000 in
theorem co_caseFact2 (l : Launch) (E : rc_E) (sz : Nat) (ad : Nat → Nat) (v : av_V) (G : tg_G) (hI : ssH E ad v G) : tg_M l yX6_caseFact [Cond.code yX6_caseFact cX6_caseFact 2 (some FieldType.int)] { frames := 0, cells := 0, slots := 0, locals := 0 } E [.ref (ad 8), .int 2] G sz (tg_Qi E (fun r u => r = vI v 4 ∧ u = G)) 0 0 := by
  refine tg_in (cc := cX6_caseFact) (maxL := 2) (ret := (some FieldType.int)) (tg_Qi E (fun r u => r = vI v 4 ∧ u = G)) (by decide) rfl (Nat.le_of_ble_eq_true rfl) ?_
  intro p e s m args below meth cd ls A hx hb hr hml hown hlocks hin hA hAm hw hl
  have hown : s.vm.findClass RX6 = some m.cls := hown
  have hl : lv_has ls 2 [(0, .ref (ad 8)), (1, .int 2)] := hl
  obtain ⟨h0, hco, ⟨hLm, hLc, hLr⟩, hbi, hma, hch, hru⟩ := id hI
  have hn60 := h0.1
  refine lv_iload_n hx hb dX6_caseFact_0 rfl (lv_at hl 1 rfl) ?_
  refine lv_tableIn (tgt := 44) hx hb dX6_caseFact_1 (by decide) (by decide) rfl (by decide) ?_
  refine lv_aload_n hx hb dX6_caseFact_44 rfl (lv_at hl 0 rfl) ?_
  refine tg_get (v := .ref (ad 31)) hx hb hown hAm hw lyX6 hco rfl 6 (by decide) qw_231 (fun _ h9 => h9) rfl dX6_caseFact_45 ?_
  refine tg_getN (v := .int (vI v 4)) hx hb hown hAm hw lyX0 hbi rfl 3 (by decide) qw_157 (fun _ h9 => h9) rfl dX6_caseFact_48 ?_
  exact tg_iret hx hb hr hlocks hw (⟨rfl, rfl⟩) (Nat.le_of_ble_eq_true rfl) (Nat.le_of_ble_eq_true rfl) dX6_caseFact_51
set_option maxHeartbeats 4000000 in
set_option maxRecDepth 100000 in
theorem co_caseFact3 (l : Launch) (E : rc_E) (sz : Nat) (ad : Nat → Nat) (v : av_V) (G : tg_G) (hI : ssH E ad v G) : tg_M l yX6_caseFact [Cond.code yX6_caseFact cX6_caseFact 2 (some FieldType.int)] { frames := 0, cells := 0, slots := 0, locals := 0 } E [.ref (ad 8), .int 3] G sz (tg_Qi E (fun r u => r = vI v 0 ∧ u = G)) 0 0 := by
  refine tg_in (cc := cX6_caseFact) (maxL := 2) (ret := (some FieldType.int)) (tg_Qi E (fun r u => r = vI v 0 ∧ u = G)) (by decide) rfl (Nat.le_of_ble_eq_true rfl) ?_
  intro p e s m args below meth cd ls A hx hb hr hml hown hlocks hin hA hAm hw hl
  have hown : s.vm.findClass RX6 = some m.cls := hown
  have hl : lv_has ls 2 [(0, .ref (ad 8)), (1, .int 3)] := hl
  obtain ⟨h0, hco, ⟨hLm, hLc, hLr⟩, hbi, hma, hch, hru⟩ := id hI
  have hn60 := h0.1
  refine lv_iload_n hx hb dX6_caseFact_0 rfl (lv_at hl 1 rfl) ?_
  refine lv_tableOut (tgt := 52) hx hb dX6_caseFact_1 (by decide) (by decide) ?_
  refine lv_aload_n hx hb dX6_caseFact_52 rfl (lv_at hl 0 rfl) ?_
  refine tg_get (v := .int (vI v 0)) hx hb hown hAm hw lyX6 hco rfl 12 (by decide) qw_237 (fun _ h9 => h9) rfl dX6_caseFact_53 ?_
  exact tg_iret hx hb hr hlocks hw (⟨rfl, rfl⟩) (Nat.le_of_ble_eq_true rfl) (Nat.le_of_ble_eq_true rfl) dX6_caseFact_56
set_option maxHeartbeats 4000000 in
set_option maxRecDepth 100000 in
theorem co_runFact0 (l : Launch) (E : rc_E) (sz : Nat) (ad : Nat → Nat) (v : av_V) (G : tg_G) (hI : ssH E ad v G) (k : Nat) (hk : k < vn v) : tg_M l yX6_runFact [Cond.code yX6_runFact cX6_runFact 3 (some FieldType.int)] { frames := 0, cells := 0, slots := 0, locals := 0 } E [.ref (ad 8), .ref (ad (64 + k)), .int 0] G sz (tg_Qi E (fun r u => r = nI (vR v k).1 ∧ u = G)) 0 0 := by
  refine tg_in (cc := cX6_runFact) (maxL := 3) (ret := (some FieldType.int)) (tg_Qi E (fun r u => r = nI (vR v k).1 ∧ u = G)) (by decide) rfl (Nat.le_of_ble_eq_true rfl) ?_
  intro p e s m args below meth cd ls A hx hb hr hml hown hlocks hin hA hAm hw hl
  have hown : s.vm.findClass RX6 = some m.cls := hown
  have hl : lv_has ls 3 [(0, .ref (ad 8)), (1, .ref (ad (64 + k))), (2, .int 0)] := hl
  obtain ⟨h0, hco, ⟨hLm, hLc, hLr⟩, hbi, hma, hch, hru⟩ := id hI
  have hn60 := h0.1
  obtain ⟨hb1, hb2, hb3⟩ := h0.2.1 k hk
  have hr9 : G (64 + k) = some (ad (64 + k), .inr (5, [.int (nI (vR v k).1), .ref (ad (32 + (vR v k).2.1)), .int (vT v k).1, .int (nI (vR v k).2.2), .int (vT v k).2])) := hru k hk
  have hm9 : G (32 + (vR v k).2.1) = some (ad (32 + (vR v k).2.1), .inr (4, [.int (nI (vR v k).2.1), .int (nI (vMN v (vR v k).2.1 1)), .int (nI (vMN v (vR v k).2.1 2)), .int (vMI v (vR v k).2.1 3), .int (vMI v (vR v k).2.1 4), .int (vMI v (vR v k).2.1 5), .int (nI (vMN v (vR v k).2.1 6)), .int (vMI v (vR v k).2.1 7)])) := hma _ hb2
  have hc9 : G (40 + 3 * (vR v k).1) = some (ad (40 + 3 * (vR v k).1), .inr (2, [.ref (ad (41 + 3 * (vR v k).1)), .int ((vC v (vR v k).1).1), .int ((vC v (vR v k).1).2)])) := (hch _ hb1).1
  refine lv_iload_n hx hb dX6_runFact_0 rfl (lv_at hl 2 rfl) ?_
  refine lv_tableIn (tgt := 36) hx hb dX6_runFact_1 (by decide) (by decide) rfl (by decide) ?_
  refine lv_aload_n hx hb dX6_runFact_36 rfl (lv_at hl 1 rfl) ?_
  refine tg_getN (v := .int (nI (vR v k).1)) hx hb hown hAm hw lyX4 hr9 rfl 0 (by decide) qw_735 (fun _ h9 => h9) rfl dX6_runFact_37 ?_
  exact tg_iret hx hb hr hlocks hw (⟨rfl, rfl⟩) (Nat.le_of_ble_eq_true rfl) (Nat.le_of_ble_eq_true rfl) dX6_runFact_40
set_option maxHeartbeats 4000000 in
set_option maxRecDepth 100000 in
theorem co_runFact1 (l : Launch) (E : rc_E) (sz : Nat) (ad : Nat → Nat) (v : av_V) (G : tg_G) (hI : ssH E ad v G) (k : Nat) (hk : k < vn v) : tg_M l yX6_runFact [Cond.code yX6_runFact cX6_runFact 3 (some FieldType.int)] { frames := 0, cells := 0, slots := 0, locals := 0 } E [.ref (ad 8), .ref (ad (64 + k)), .int 1] G sz (tg_Qi E (fun r u => r = nI (vR v k).2.1 ∧ u = G)) 0 0 := by
  refine tg_in (cc := cX6_runFact) (maxL := 3) (ret := (some FieldType.int)) (tg_Qi E (fun r u => r = nI (vR v k).2.1 ∧ u = G)) (by decide) rfl (Nat.le_of_ble_eq_true rfl) ?_
  intro p e s m args below meth cd ls A hx hb hr hml hown hlocks hin hA hAm hw hl
  have hown : s.vm.findClass RX6 = some m.cls := hown
  have hl : lv_has ls 3 [(0, .ref (ad 8)), (1, .ref (ad (64 + k))), (2, .int 1)] := hl
  obtain ⟨h0, hco, ⟨hLm, hLc, hLr⟩, hbi, hma, hch, hru⟩ := id hI
  have hn60 := h0.1
  obtain ⟨hb1, hb2, hb3⟩ := h0.2.1 k hk
  have hr9 : G (64 + k) = some (ad (64 + k), .inr (5, [.int (nI (vR v k).1), .ref (ad (32 + (vR v k).2.1)), .int (vT v k).1, .int (nI (vR v k).2.2), .int (vT v k).2])) := hru k hk
  have hm9 : G (32 + (vR v k).2.1) = some (ad (32 + (vR v k).2.1), .inr (4, [.int (nI (vR v k).2.1), .int (nI (vMN v (vR v k).2.1 1)), .int (nI (vMN v (vR v k).2.1 2)), .int (vMI v (vR v k).2.1 3), .int (vMI v (vR v k).2.1 4), .int (vMI v (vR v k).2.1 5), .int (nI (vMN v (vR v k).2.1 6)), .int (vMI v (vR v k).2.1 7)])) := hma _ hb2
  have hc9 : G (40 + 3 * (vR v k).1) = some (ad (40 + 3 * (vR v k).1), .inr (2, [.ref (ad (41 + 3 * (vR v k).1)), .int ((vC v (vR v k).1).1), .int ((vC v (vR v k).1).2)])) := (hch _ hb1).1
  refine lv_iload_n hx hb dX6_runFact_0 rfl (lv_at hl 2 rfl) ?_
  refine lv_tableIn (tgt := 41) hx hb dX6_runFact_1 (by decide) (by decide) rfl (by decide) ?_
  refine lv_aload_n hx hb dX6_runFact_41 rfl (lv_at hl 1 rfl) ?_
  refine tg_getN (v := .ref (ad (32 + (vR v k).2.1))) hx hb hown hAm hw lyX4 hr9 rfl 1 (by decide) qw_738 (fun _ h9 => h9) rfl dX6_runFact_42 ?_
  refine tg_getN (v := .int (nI (vR v k).2.1)) hx hb hown hAm hw lyX3 hm9 rfl 0 (by decide) qw_370 (fun _ h9 => h9) rfl dX6_runFact_45 ?_
  exact tg_iret hx hb hr hlocks hw (⟨rfl, rfl⟩) (Nat.le_of_ble_eq_true rfl) (Nat.le_of_ble_eq_true rfl) dX6_runFact_48
set_option maxHeartbeats 4000000 in
set_option maxRecDepth 100000 in
theorem co_runFact2 (l : Launch) (E : rc_E) (sz : Nat) (ad : Nat → Nat) (v : av_V) (G : tg_G) (hI : ssH E ad v G) (k : Nat) (hk : k < vn v) : tg_M l yX6_runFact [Cond.code yX6_runFact cX6_runFact 3 (some FieldType.int)] { frames := 0, cells := 0, slots := 0, locals := 0 } E [.ref (ad 8), .ref (ad (64 + k)), .int 2] G sz (tg_Qi E (fun r u => r = (vT v k).1 ∧ u = G)) 0 0 := by
  refine tg_in (cc := cX6_runFact) (maxL := 3) (ret := (some FieldType.int)) (tg_Qi E (fun r u => r = (vT v k).1 ∧ u = G)) (by decide) rfl (Nat.le_of_ble_eq_true rfl) ?_
  intro p e s m args below meth cd ls A hx hb hr hml hown hlocks hin hA hAm hw hl
  have hown : s.vm.findClass RX6 = some m.cls := hown
  have hl : lv_has ls 3 [(0, .ref (ad 8)), (1, .ref (ad (64 + k))), (2, .int 2)] := hl
  obtain ⟨h0, hco, ⟨hLm, hLc, hLr⟩, hbi, hma, hch, hru⟩ := id hI
  have hn60 := h0.1
  obtain ⟨hb1, hb2, hb3⟩ := h0.2.1 k hk
  have hr9 : G (64 + k) = some (ad (64 + k), .inr (5, [.int (nI (vR v k).1), .ref (ad (32 + (vR v k).2.1)), .int (vT v k).1, .int (nI (vR v k).2.2), .int (vT v k).2])) := hru k hk
  have hm9 : G (32 + (vR v k).2.1) = some (ad (32 + (vR v k).2.1), .inr (4, [.int (nI (vR v k).2.1), .int (nI (vMN v (vR v k).2.1 1)), .int (nI (vMN v (vR v k).2.1 2)), .int (vMI v (vR v k).2.1 3), .int (vMI v (vR v k).2.1 4), .int (vMI v (vR v k).2.1 5), .int (nI (vMN v (vR v k).2.1 6)), .int (vMI v (vR v k).2.1 7)])) := hma _ hb2
  have hc9 : G (40 + 3 * (vR v k).1) = some (ad (40 + 3 * (vR v k).1), .inr (2, [.ref (ad (41 + 3 * (vR v k).1)), .int ((vC v (vR v k).1).1), .int ((vC v (vR v k).1).2)])) := (hch _ hb1).1
  refine lv_iload_n hx hb dX6_runFact_0 rfl (lv_at hl 2 rfl) ?_
  refine lv_tableIn (tgt := 49) hx hb dX6_runFact_1 (by decide) (by decide) rfl (by decide) ?_
  refine lv_aload_n hx hb dX6_runFact_49 rfl (lv_at hl 1 rfl) ?_
  refine tg_getN (v := .int (vT v k).1) hx hb hown hAm hw lyX4 hr9 rfl 2 (by decide) qw_740 (fun _ h9 => h9) rfl dX6_runFact_50 ?_
  exact tg_iret hx hb hr hlocks hw (⟨rfl, rfl⟩) (Nat.le_of_ble_eq_true rfl) (Nat.le_of_ble_eq_true rfl) dX6_runFact_53
set_option maxHeartbeats 4000000 in
set_option maxRecDepth 100000 in
theorem co_runFact3 (l : Launch) (E : rc_E) (sz : Nat) (ad : Nat → Nat) (v : av_V) (G : tg_G) (hI : ssH E ad v G) (k : Nat) (hk : k < vn v) : tg_M l yX6_runFact [Cond.code yX6_runFact cX6_runFact 3 (some FieldType.int)] { frames := 0, cells := 0, slots := 0, locals := 0 } E [.ref (ad 8), .ref (ad (64 + k)), .int 3] G sz (tg_Qi E (fun r u => r = nI (vR v k).2.2 ∧ u = G)) 0 0 := by
  refine tg_in (cc := cX6_runFact) (maxL := 3) (ret := (some FieldType.int)) (tg_Qi E (fun r u => r = nI (vR v k).2.2 ∧ u = G)) (by decide) rfl (Nat.le_of_ble_eq_true rfl) ?_
  intro p e s m args below meth cd ls A hx hb hr hml hown hlocks hin hA hAm hw hl
  have hown : s.vm.findClass RX6 = some m.cls := hown
  have hl : lv_has ls 3 [(0, .ref (ad 8)), (1, .ref (ad (64 + k))), (2, .int 3)] := hl
  obtain ⟨h0, hco, ⟨hLm, hLc, hLr⟩, hbi, hma, hch, hru⟩ := id hI
  have hn60 := h0.1
  obtain ⟨hb1, hb2, hb3⟩ := h0.2.1 k hk
  have hr9 : G (64 + k) = some (ad (64 + k), .inr (5, [.int (nI (vR v k).1), .ref (ad (32 + (vR v k).2.1)), .int (vT v k).1, .int (nI (vR v k).2.2), .int (vT v k).2])) := hru k hk
  have hm9 : G (32 + (vR v k).2.1) = some (ad (32 + (vR v k).2.1), .inr (4, [.int (nI (vR v k).2.1), .int (nI (vMN v (vR v k).2.1 1)), .int (nI (vMN v (vR v k).2.1 2)), .int (vMI v (vR v k).2.1 3), .int (vMI v (vR v k).2.1 4), .int (vMI v (vR v k).2.1 5), .int (nI (vMN v (vR v k).2.1 6)), .int (vMI v (vR v k).2.1 7)])) := hma _ hb2
  have hc9 : G (40 + 3 * (vR v k).1) = some (ad (40 + 3 * (vR v k).1), .inr (2, [.ref (ad (41 + 3 * (vR v k).1)), .int ((vC v (vR v k).1).1), .int ((vC v (vR v k).1).2)])) := (hch _ hb1).1
  refine lv_iload_n hx hb dX6_runFact_0 rfl (lv_at hl 2 rfl) ?_
  refine lv_tableIn (tgt := 54) hx hb dX6_runFact_1 (by decide) (by decide) rfl (by decide) ?_
  refine lv_aload_n hx hb dX6_runFact_54 rfl (lv_at hl 1 rfl) ?_
  refine tg_getN (v := .int (nI (vR v k).2.2)) hx hb hown hAm hw lyX4 hr9 rfl 3 (by decide) qw_743 (fun _ h9 => h9) rfl dX6_runFact_55 ?_
  exact tg_iret hx hb hr hlocks hw (⟨rfl, rfl⟩) (Nat.le_of_ble_eq_true rfl) (Nat.le_of_ble_eq_true rfl) dX6_runFact_58
set_option maxHeartbeats 4000000 in
set_option maxRecDepth 100000 in
theorem co_runFact4 (l : Launch) (E : rc_E) (sz : Nat) (ad : Nat → Nat) (v : av_V) (G : tg_G) (hI : ssH E ad v G) (k : Nat) (hk : k < vn v) : tg_M l yX6_runFact [Cond.code yX6_runFact cX6_runFact 3 (some FieldType.int)] { frames := 1, cells := 0, slots := 0, locals := 20 } E [.ref (ad 8), .ref (ad (64 + k)), .int 4] G sz (tg_Qi E (fun r u => r = nI (cK v k) ∧ u = G)) 0 0 := by
  refine tg_in (cc := cX6_runFact) (maxL := 3) (ret := (some FieldType.int)) (tg_Qi E (fun r u => r = nI (cK v k) ∧ u = G)) (by decide) rfl (Nat.le_of_ble_eq_true rfl) ?_
  intro p e s m args below meth cd ls A hx hb hr hml hown hlocks hin hA hAm hw hl
  have hown : s.vm.findClass RX6 = some m.cls := hown
  have hl : lv_has ls 3 [(0, .ref (ad 8)), (1, .ref (ad (64 + k))), (2, .int 4)] := hl
  obtain ⟨h0, hco, ⟨hLm, hLc, hLr⟩, hbi, hma, hch, hru⟩ := id hI
  have hn60 := h0.1
  obtain ⟨hb1, hb2, hb3⟩ := h0.2.1 k hk
  have hr9 : G (64 + k) = some (ad (64 + k), .inr (5, [.int (nI (vR v k).1), .ref (ad (32 + (vR v k).2.1)), .int (vT v k).1, .int (nI (vR v k).2.2), .int (vT v k).2])) := hru k hk
  have hm9 : G (32 + (vR v k).2.1) = some (ad (32 + (vR v k).2.1), .inr (4, [.int (nI (vR v k).2.1), .int (nI (vMN v (vR v k).2.1 1)), .int (nI (vMN v (vR v k).2.1 2)), .int (vMI v (vR v k).2.1 3), .int (vMI v (vR v k).2.1 4), .int (vMI v (vR v k).2.1 5), .int (nI (vMN v (vR v k).2.1 6)), .int (vMI v (vR v k).2.1 7)])) := hma _ hb2
  have hc9 : G (40 + 3 * (vR v k).1) = some (ad (40 + 3 * (vR v k).1), .inr (2, [.ref (ad (41 + 3 * (vR v k).1)), .int ((vC v (vR v k).1).1), .int ((vC v (vR v k).1).2)])) := (hch _ hb1).1
  refine lv_iload_n hx hb dX6_runFact_0 rfl (lv_at hl 2 rfl) ?_
  refine lv_tableIn (tgt := 59) hx hb dX6_runFact_1 (by decide) (by decide) rfl (by decide) ?_
  refine lv_aload_n hx hb dX6_runFact_59 rfl (lv_at hl 1 rfl) ?_
  refine tg_callRi (va_runVN (As := []) (rest := []) (Ts := []) ⟨hx, hb, hml, hown, fun _ h9 => absurd h9 List.not_mem_nil⟩ (lf_counts l E _ G hr9 hm9) (rc_cnV hAm qw_525 qw_22 qw_461 qw_459 qs_11 rfl rfl hd_X4_isCounting ⟨Nat.le_of_ble_eq_true rfl, Nat.le_of_ble_eq_true rfl⟩) (tg_preV hAm hA hw hr9 (q := vwCl[5]) rfl) rfl rfl hl.1 rfl (lv_room (Nat.le_of_ble_eq_true rfl)) dX6_runFact_60 ⟨Nat.le_of_ble_eq_true rfl, Nat.le_of_ble_eq_true rfl⟩) hA hw (fun H locs hw => ?_)
  refine tg_callRi (va_runS (As := [.int (nI (cN (vT v k).2 (vMI v (vR v k).2.1 7)))]) (rest := []) (Ts := []) ⟨hx, hb, hml, hown, fun _ h9 => absurd h9 List.not_mem_nil⟩ (lf_oneIf l E _ G (z := nI (cN (vT v k).2 (vMI v (vR v k).2.1 7))) (nI_bit (cN_le _ _))) (rc_cwS hAm qw_526 qw_1 qw_528 qw_527 rfl rfl hd_X6_oneIf ⟨Nat.le_of_ble_eq_true rfl, Nat.le_of_ble_eq_true rfl⟩) (tg_preS hAm hA hw) rfl rfl hl.1 rfl (lv_room (Nat.le_of_ble_eq_true rfl)) dX6_runFact_63 ⟨Nat.le_of_ble_eq_true rfl, Nat.le_of_ble_eq_true rfl⟩) hA hw (fun H locs hw => ?_)
  exact tg_iret hx hb hr hlocks hw (⟨rfl, rfl⟩) (Nat.le_of_ble_eq_true rfl) (Nat.le_of_ble_eq_true rfl) dX6_runFact_66
theorem hd_X6_changeAt : yX6_changeAt.cls ≠ "java/lang/invoke/MethodHandle" ∧ yX6_changeAt.cls ≠ "java/lang/invoke/VarHandle" ∧ (parseMethodDescriptor yX6_changeAt.desc).map (fun d => d.parameters.length) = some 1 := by decide +kernel
theorem hd_X1_isInSample : yX1_isInSample.cls ≠ "java/lang/invoke/MethodHandle" ∧ yX1_isInSample.cls ≠ "java/lang/invoke/VarHandle" ∧ (parseMethodDescriptor yX1_isInSample.desc).map (fun d => d.parameters.length) = some 1 := by decide +kernel
set_option maxHeartbeats 4000000 in
set_option maxRecDepth 100000 in
theorem co_runFact5 (l : Launch) (E : rc_E) (sz : Nat) (ad : Nat → Nat) (v : av_V) (G : tg_G) (hI : ssH E ad v G) (k : Nat) (hk : k < vn v) : tg_M l yX6_runFact [Cond.code yX6_runFact cX6_runFact 3 (some FieldType.int)] { frames := 4, cells := 0, slots := 0, locals := 88 } E [.ref (ad 8), .ref (ad (64 + k)), .int 5] G sz (tg_Qi E (fun r u => r = nI (isR v (ixs v (vR v k).1) k (ixs v (vR v k).1).length 0) ∧ u = G)) 0 0 := by
  refine tg_in (cc := cX6_runFact) (maxL := 3) (ret := (some FieldType.int)) (tg_Qi E (fun r u => r = nI (isR v (ixs v (vR v k).1) k (ixs v (vR v k).1).length 0) ∧ u = G)) (by decide) rfl (Nat.le_of_ble_eq_true rfl) ?_
  intro p e s m args below meth cd ls A hx hb hr hml hown hlocks hin hA hAm hw hl
  have hown : s.vm.findClass RX6 = some m.cls := hown
  have hl : lv_has ls 3 [(0, .ref (ad 8)), (1, .ref (ad (64 + k))), (2, .int 5)] := hl
  obtain ⟨h0, hco, ⟨hLm, hLc, hLr⟩, hbi, hma, hch, hru⟩ := id hI
  have hn60 := h0.1
  obtain ⟨hb1, hb2, hb3⟩ := h0.2.1 k hk
  have hr9 : G (64 + k) = some (ad (64 + k), .inr (5, [.int (nI (vR v k).1), .ref (ad (32 + (vR v k).2.1)), .int (vT v k).1, .int (nI (vR v k).2.2), .int (vT v k).2])) := hru k hk
  have hm9 : G (32 + (vR v k).2.1) = some (ad (32 + (vR v k).2.1), .inr (4, [.int (nI (vR v k).2.1), .int (nI (vMN v (vR v k).2.1 1)), .int (nI (vMN v (vR v k).2.1 2)), .int (vMI v (vR v k).2.1 3), .int (vMI v (vR v k).2.1 4), .int (vMI v (vR v k).2.1 5), .int (nI (vMN v (vR v k).2.1 6)), .int (vMI v (vR v k).2.1 7)])) := hma _ hb2
  have hc9 : G (40 + 3 * (vR v k).1) = some (ad (40 + 3 * (vR v k).1), .inr (2, [.ref (ad (41 + 3 * (vR v k).1)), .int ((vC v (vR v k).1).1), .int ((vC v (vR v k).1).2)])) := (hch _ hb1).1
  refine lv_iload_n hx hb dX6_runFact_0 rfl (lv_at hl 2 rfl) ?_
  refine lv_tableOut (tgt := 67) hx hb dX6_runFact_1 (by decide) (by decide) ?_
  refine lv_aload_n hx hb dX6_runFact_67 rfl (lv_at hl 0 rfl) ?_
  refine lv_aload_n hx hb dX6_runFact_68 rfl (lv_at hl 1 rfl) ?_
  refine tg_getN (v := .int (nI (vR v k).1)) hx hb hown hAm hw lyX4 hr9 rfl 0 (by decide) qw_735 (fun _ h9 => h9) rfl dX6_runFact_69 ?_
  refine tg_callRr (va_runV (As := [.int (nI (vR v k).1)]) (rest := []) (Ts := []) ⟨hx, hb, hml, hown, fun _ h9 => absurd h9 List.not_mem_nil⟩ (co_changeAt l E _ ad v G hI (vR v k).1 hb1) (rc_cwV hAm qw_432 qw_1 qw_435 qw_434 qs_9 rfl rfl hd_X6_changeAt ⟨Nat.le_of_ble_eq_true rfl, Nat.le_of_ble_eq_true rfl⟩) (tg_preV hAm hA hw hco (q := vwCl[7]) rfl) rfl rfl hl.1 rfl (lv_room (Nat.le_of_ble_eq_true rfl)) dX6_runFact_72 ⟨Nat.le_of_ble_eq_true rfl, Nat.le_of_ble_eq_true rfl⟩) hA hw (fun H locs hw => ?_)
  refine lv_aload_n hx hb dX6_runFact_75 rfl (lv_at hl 1 rfl) ?_
  refine tg_callRi (va_runVN (As := [.ref (ad (64 + k))]) (rest := []) (Ts := []) ⟨hx, hb, hml, hown, fun _ h9 => absurd h9 List.not_mem_nil⟩ (ch_isInSample l E _ ad v (vR v k).1 G (hI.cs hb1) k (by omega)) (rc_cnV hAm qw_594 qw_5 qw_597 qw_596 qs_39 rfl rfl hd_X1_isInSample ⟨Nat.le_of_ble_eq_true rfl, Nat.le_of_ble_eq_true rfl⟩) (tg_preV hAm hA hw hc9 (q := vwCl[2]) rfl) rfl rfl hl.1 rfl (lv_room (Nat.le_of_ble_eq_true rfl)) dX6_runFact_76 ⟨Nat.le_of_ble_eq_true rfl, Nat.le_of_ble_eq_true rfl⟩) hA hw (fun H locs hw => ?_)
  refine tg_callRi (va_runS (As := [.int (nI (isR v (ixs v (vR v k).1) k (ixs v (vR v k).1).length 0))]) (rest := []) (Ts := []) ⟨hx, hb, hml, hown, fun _ h9 => absurd h9 List.not_mem_nil⟩ (lf_oneIf l E _ G (z := nI (isR v (ixs v (vR v k).1) k (ixs v (vR v k).1).length 0)) (nI_bit (isR_le _ _ _ _ _))) (rc_cwS hAm qw_526 qw_1 qw_528 qw_527 rfl rfl hd_X6_oneIf ⟨Nat.le_of_ble_eq_true rfl, Nat.le_of_ble_eq_true rfl⟩) (tg_preS hAm hA hw) rfl rfl hl.1 rfl (lv_room (Nat.le_of_ble_eq_true rfl)) dX6_runFact_79 ⟨Nat.le_of_ble_eq_true rfl, Nat.le_of_ble_eq_true rfl⟩) hA hw (fun H locs hw => ?_)
  exact tg_iret hx hb hr hlocks hw (⟨rfl, rfl⟩) (Nat.le_of_ble_eq_true rfl) (Nat.le_of_ble_eq_true rfl) dX6_runFact_82
