theorem hd_X6_courtFact : yX6_courtFact.cls ≠ "java/lang/invoke/MethodHandle" ∧ yX6_courtFact.cls ≠ "java/lang/invoke/VarHandle" ∧ (parseMethodDescriptor yX6_courtFact.desc).map (fun d => d.parameters.length) = some 1 := by decide +kernel
set_option maxHeartbeats 4000000 in
set_option maxRecDepth 100000 in
theorem pu_many0 (l : Launch) (E : rc_E) (sz : Nat) (ad : Nat → Nat) (v : av_V) (G : tg_G) (hI : ssH E ad v G) : tg_M l yX6_many [Cond.code yX6_many cX6_many 2 (some FieldType.int)] { frames := 2, cells := 0, slots := 0, locals := 41 } E [.ref (ad 8), .int 0] G sz (tg_Qi E (fun r u => r = nI 2 ∧ u = G)) 0 0 := by
  refine tg_in (cc := cX6_many) (maxL := 2) (ret := (some FieldType.int)) (tg_Qi E (fun r u => r = nI 2 ∧ u = G)) (by decide) rfl (Nat.le_of_ble_eq_true rfl) ?_
  intro p e s m args below meth cd ls A hx hb hr hml hown hlocks hin hA hAm hw hl
  have hown : s.vm.findClass RX6 = some m.cls := hown
  have hl : lv_has ls 2 [(0, .ref (ad 8)), (1, .int 0)] := hl
  obtain ⟨h0, hco, ⟨hLm, hLc, hLr⟩, hbi, hma, hch, hru⟩ := id hI
  have hn60 := h0.1
  refine lv_iload_n hx hb dX6_many_0 rfl (lv_at hl 1 rfl) ?_
  refine lv_iconst (v := 0) hx hb dX6_many_1 (by decide) ?_
  refine lv_bipush (v := 8) hx hb dX6_many_2 (by decide) ?_
  refine tg_callRi (va_runS (As := [.int 0, .int 0, .int 8]) (rest := []) (Ts := []) ⟨hx, hb, hml, hown, fun _ h9 => absurd h9 List.not_mem_nil⟩ (lf_isOutside l E _ G 0 0 8 (by decide) (by decide)) (rc_cwS hAm qw_269 qw_1 qw_271 qw_270 rfl rfl hd_X6_isOutside ⟨Nat.le_of_ble_eq_true rfl, Nat.le_of_ble_eq_true rfl⟩) (tg_preS hAm hA hw) rfl rfl hl.1 rfl (lv_room (Nat.le_of_ble_eq_true rfl)) dX6_many_4 ⟨Nat.le_of_ble_eq_true rfl, Nat.le_of_ble_eq_true rfl⟩) hA hw (fun H locs hw => ?_)
  refine lv_if_eq (tgt := 20) hx hb dX6_many_7 (by decide) (fun _ => ?_) (fun c9 => absurd (by decide) c9)
  refine lv_aload_n hx hb dX6_many_20 rfl (lv_at hl 0 rfl) ?_
  refine lv_iload_n hx hb dX6_many_21 rfl (lv_at hl 1 rfl) ?_
  refine tg_callRi (va_runV (As := [.int 0]) (rest := []) (Ts := []) ⟨hx, hb, hml, hown, fun _ h9 => absurd h9 List.not_mem_nil⟩ (co_courtFact0 l E _ ad v G hI) (rc_cwV hAm qw_516 qw_1 qw_519 qw_518 qs_24 rfl rfl hd_X6_courtFact ⟨Nat.le_of_ble_eq_true rfl, Nat.le_of_ble_eq_true rfl⟩) (tg_preV hAm hA hw hco (q := vwCl[7]) rfl) rfl rfl hl.1 rfl (lv_room (Nat.le_of_ble_eq_true rfl)) dX6_many_22 ⟨Nat.le_of_ble_eq_true rfl, Nat.le_of_ble_eq_true rfl⟩) hA hw (fun H locs hw => ?_)
  exact tg_iret hx hb hr hlocks hw (⟨rfl, rfl⟩) (Nat.le_of_ble_eq_true rfl) (Nat.le_of_ble_eq_true rfl) dX6_many_25
set_option maxHeartbeats 4000000 in
set_option maxRecDepth 100000 in
theorem pu_many1 (l : Launch) (E : rc_E) (sz : Nat) (ad : Nat → Nat) (v : av_V) (G : tg_G) (hI : ssH E ad v G) : tg_M l yX6_many [Cond.code yX6_many cX6_many 2 (some FieldType.int)] { frames := 2, cells := 0, slots := 0, locals := 41 } E [.ref (ad 8), .int 1] G sz (tg_Qi E (fun r u => r = nI 6 ∧ u = G)) 0 0 := by
  refine tg_in (cc := cX6_many) (maxL := 2) (ret := (some FieldType.int)) (tg_Qi E (fun r u => r = nI 6 ∧ u = G)) (by decide) rfl (Nat.le_of_ble_eq_true rfl) ?_
  intro p e s m args below meth cd ls A hx hb hr hml hown hlocks hin hA hAm hw hl
  have hown : s.vm.findClass RX6 = some m.cls := hown
  have hl : lv_has ls 2 [(0, .ref (ad 8)), (1, .int 1)] := hl
  obtain ⟨h0, hco, ⟨hLm, hLc, hLr⟩, hbi, hma, hch, hru⟩ := id hI
  have hn60 := h0.1
  refine lv_iload_n hx hb dX6_many_0 rfl (lv_at hl 1 rfl) ?_
  refine lv_iconst (v := 0) hx hb dX6_many_1 (by decide) ?_
  refine lv_bipush (v := 8) hx hb dX6_many_2 (by decide) ?_
  refine tg_callRi (va_runS (As := [.int 1, .int 0, .int 8]) (rest := []) (Ts := []) ⟨hx, hb, hml, hown, fun _ h9 => absurd h9 List.not_mem_nil⟩ (lf_isOutside l E _ G 1 0 8 (by decide) (by decide)) (rc_cwS hAm qw_269 qw_1 qw_271 qw_270 rfl rfl hd_X6_isOutside ⟨Nat.le_of_ble_eq_true rfl, Nat.le_of_ble_eq_true rfl⟩) (tg_preS hAm hA hw) rfl rfl hl.1 rfl (lv_room (Nat.le_of_ble_eq_true rfl)) dX6_many_4 ⟨Nat.le_of_ble_eq_true rfl, Nat.le_of_ble_eq_true rfl⟩) hA hw (fun H locs hw => ?_)
  refine lv_if_eq (tgt := 20) hx hb dX6_many_7 (by decide) (fun _ => ?_) (fun c9 => absurd (by decide) c9)
  refine lv_aload_n hx hb dX6_many_20 rfl (lv_at hl 0 rfl) ?_
  refine lv_iload_n hx hb dX6_many_21 rfl (lv_at hl 1 rfl) ?_
  refine tg_callRi (va_runV (As := [.int 1]) (rest := []) (Ts := []) ⟨hx, hb, hml, hown, fun _ h9 => absurd h9 List.not_mem_nil⟩ (co_courtFact1 l E _ ad v G hI) (rc_cwV hAm qw_516 qw_1 qw_519 qw_518 qs_24 rfl rfl hd_X6_courtFact ⟨Nat.le_of_ble_eq_true rfl, Nat.le_of_ble_eq_true rfl⟩) (tg_preV hAm hA hw hco (q := vwCl[7]) rfl) rfl rfl hl.1 rfl (lv_room (Nat.le_of_ble_eq_true rfl)) dX6_many_22 ⟨Nat.le_of_ble_eq_true rfl, Nat.le_of_ble_eq_true rfl⟩) hA hw (fun H locs hw => ?_)
  exact tg_iret hx hb hr hlocks hw (⟨rfl, rfl⟩) (Nat.le_of_ble_eq_true rfl) (Nat.le_of_ble_eq_true rfl) dX6_many_25
set_option maxHeartbeats 4000000 in
set_option maxRecDepth 100000 in
theorem pu_many2 (l : Launch) (E : rc_E) (sz : Nat) (ad : Nat → Nat) (v : av_V) (G : tg_G) (hI : ssH E ad v G) : tg_M l yX6_many [Cond.code yX6_many cX6_many 2 (some FieldType.int)] { frames := 2, cells := 0, slots := 0, locals := 41 } E [.ref (ad 8), .int 2] G sz (tg_Qi E (fun r u => r = nI (vn v) ∧ u = G)) 0 0 := by
  refine tg_in (cc := cX6_many) (maxL := 2) (ret := (some FieldType.int)) (tg_Qi E (fun r u => r = nI (vn v) ∧ u = G)) (by decide) rfl (Nat.le_of_ble_eq_true rfl) ?_
  intro p e s m args below meth cd ls A hx hb hr hml hown hlocks hin hA hAm hw hl
  have hown : s.vm.findClass RX6 = some m.cls := hown
  have hl : lv_has ls 2 [(0, .ref (ad 8)), (1, .int 2)] := hl
  obtain ⟨h0, hco, ⟨hLm, hLc, hLr⟩, hbi, hma, hch, hru⟩ := id hI
  have hn60 := h0.1
  refine lv_iload_n hx hb dX6_many_0 rfl (lv_at hl 1 rfl) ?_
  refine lv_iconst (v := 0) hx hb dX6_many_1 (by decide) ?_
  refine lv_bipush (v := 8) hx hb dX6_many_2 (by decide) ?_
  refine tg_callRi (va_runS (As := [.int 2, .int 0, .int 8]) (rest := []) (Ts := []) ⟨hx, hb, hml, hown, fun _ h9 => absurd h9 List.not_mem_nil⟩ (lf_isOutside l E _ G 2 0 8 (by decide) (by decide)) (rc_cwS hAm qw_269 qw_1 qw_271 qw_270 rfl rfl hd_X6_isOutside ⟨Nat.le_of_ble_eq_true rfl, Nat.le_of_ble_eq_true rfl⟩) (tg_preS hAm hA hw) rfl rfl hl.1 rfl (lv_room (Nat.le_of_ble_eq_true rfl)) dX6_many_4 ⟨Nat.le_of_ble_eq_true rfl, Nat.le_of_ble_eq_true rfl⟩) hA hw (fun H locs hw => ?_)
  refine lv_if_eq (tgt := 20) hx hb dX6_many_7 (by decide) (fun _ => ?_) (fun c9 => absurd (by decide) c9)
  refine lv_aload_n hx hb dX6_many_20 rfl (lv_at hl 0 rfl) ?_
  refine lv_iload_n hx hb dX6_many_21 rfl (lv_at hl 1 rfl) ?_
  refine tg_callRi (va_runV (As := [.int 2]) (rest := []) (Ts := []) ⟨hx, hb, hml, hown, fun _ h9 => absurd h9 List.not_mem_nil⟩ (co_courtFact2 l E _ ad v G hI) (rc_cwV hAm qw_516 qw_1 qw_519 qw_518 qs_24 rfl rfl hd_X6_courtFact ⟨Nat.le_of_ble_eq_true rfl, Nat.le_of_ble_eq_true rfl⟩) (tg_preV hAm hA hw hco (q := vwCl[7]) rfl) rfl rfl hl.1 rfl (lv_room (Nat.le_of_ble_eq_true rfl)) dX6_many_22 ⟨Nat.le_of_ble_eq_true rfl, Nat.le_of_ble_eq_true rfl⟩) hA hw (fun H locs hw => ?_)
  exact tg_iret hx hb hr hlocks hw (⟨rfl, rfl⟩) (Nat.le_of_ble_eq_true rfl) (Nat.le_of_ble_eq_true rfl) dX6_many_25
set_option maxHeartbeats 4000000 in
set_option maxRecDepth 100000 in
theorem pu_many3 (l : Launch) (E : rc_E) (sz : Nat) (ad : Nat → Nat) (v : av_V) (G : tg_G) (hI : ssH E ad v G) : tg_M l yX6_many [Cond.code yX6_many cX6_many 2 (some FieldType.int)] { frames := 5, cells := 0, slots := 0, locals := 107 } E [.ref (ad 8), .int 3] G sz (tg_Qi E (fun r u => r = nI (smR (fun k => cK v k) (vn v)) ∧ u = G)) 0 0 := by
  refine tg_in (cc := cX6_many) (maxL := 2) (ret := (some FieldType.int)) (tg_Qi E (fun r u => r = nI (smR (fun k => cK v k) (vn v)) ∧ u = G)) (by decide) rfl (Nat.le_of_ble_eq_true rfl) ?_
  intro p e s m args below meth cd ls A hx hb hr hml hown hlocks hin hA hAm hw hl
  have hown : s.vm.findClass RX6 = some m.cls := hown
  have hl : lv_has ls 2 [(0, .ref (ad 8)), (1, .int 3)] := hl
  obtain ⟨h0, hco, ⟨hLm, hLc, hLr⟩, hbi, hma, hch, hru⟩ := id hI
  have hn60 := h0.1
  refine lv_iload_n hx hb dX6_many_0 rfl (lv_at hl 1 rfl) ?_
  refine lv_iconst (v := 0) hx hb dX6_many_1 (by decide) ?_
  refine lv_bipush (v := 8) hx hb dX6_many_2 (by decide) ?_
  refine tg_callRi (va_runS (As := [.int 3, .int 0, .int 8]) (rest := []) (Ts := []) ⟨hx, hb, hml, hown, fun _ h9 => absurd h9 List.not_mem_nil⟩ (lf_isOutside l E _ G 3 0 8 (by decide) (by decide)) (rc_cwS hAm qw_269 qw_1 qw_271 qw_270 rfl rfl hd_X6_isOutside ⟨Nat.le_of_ble_eq_true rfl, Nat.le_of_ble_eq_true rfl⟩) (tg_preS hAm hA hw) rfl rfl hl.1 rfl (lv_room (Nat.le_of_ble_eq_true rfl)) dX6_many_4 ⟨Nat.le_of_ble_eq_true rfl, Nat.le_of_ble_eq_true rfl⟩) hA hw (fun H locs hw => ?_)
  refine lv_if_eq (tgt := 20) hx hb dX6_many_7 (by decide) (fun _ => ?_) (fun c9 => absurd (by decide) c9)
  refine lv_aload_n hx hb dX6_many_20 rfl (lv_at hl 0 rfl) ?_
  refine lv_iload_n hx hb dX6_many_21 rfl (lv_at hl 1 rfl) ?_
  refine tg_callRi (va_runV (As := [.int 3]) (rest := []) (Ts := []) ⟨hx, hb, hml, hown, fun _ h9 => absurd h9 List.not_mem_nil⟩ (co_courtFact3 l E _ ad v G hI) (rc_cwV hAm qw_516 qw_1 qw_519 qw_518 qs_24 rfl rfl hd_X6_courtFact ⟨Nat.le_of_ble_eq_true rfl, Nat.le_of_ble_eq_true rfl⟩) (tg_preV hAm hA hw hco (q := vwCl[7]) rfl) rfl rfl hl.1 rfl (lv_room (Nat.le_of_ble_eq_true rfl)) dX6_many_22 ⟨Nat.le_of_ble_eq_true rfl, Nat.le_of_ble_eq_true rfl⟩) hA hw (fun H locs hw => ?_)
  exact tg_iret hx hb hr hlocks hw (⟨rfl, rfl⟩) (Nat.le_of_ble_eq_true rfl) (Nat.le_of_ble_eq_true rfl) dX6_many_25
set_option maxHeartbeats 4000000 in
set_option maxRecDepth 100000 in
theorem pu_many4 (l : Launch) (E : rc_E) (sz : Nat) (ad : Nat → Nat) (v : av_V) (G : tg_G) (hI : ssH E ad v G) : tg_M l yX6_many [Cond.code yX6_many cX6_many 2 (some FieldType.int)] { frames := 1, cells := 0, slots := 0, locals := 22 } E [.ref (ad 8), .int 4] G sz (tg_Qi E (fun r u => r = nI (vN v 2) ∧ u = G)) 0 0 := by
  refine tg_in (cc := cX6_many) (maxL := 2) (ret := (some FieldType.int)) (tg_Qi E (fun r u => r = nI (vN v 2) ∧ u = G)) (by decide) rfl (Nat.le_of_ble_eq_true rfl) ?_
  intro p e s m args below meth cd ls A hx hb hr hml hown hlocks hin hA hAm hw hl
  have hown : s.vm.findClass RX6 = some m.cls := hown
  have hl : lv_has ls 2 [(0, .ref (ad 8)), (1, .int 4)] := hl
  obtain ⟨h0, hco, ⟨hLm, hLc, hLr⟩, hbi, hma, hch, hru⟩ := id hI
  have hn60 := h0.1
  refine lv_iload_n hx hb dX6_many_0 rfl (lv_at hl 1 rfl) ?_
  refine lv_iconst (v := 0) hx hb dX6_many_1 (by decide) ?_
  refine lv_bipush (v := 8) hx hb dX6_many_2 (by decide) ?_
  refine tg_callRi (va_runS (As := [.int 4, .int 0, .int 8]) (rest := []) (Ts := []) ⟨hx, hb, hml, hown, fun _ h9 => absurd h9 List.not_mem_nil⟩ (lf_isOutside l E _ G 4 0 8 (by decide) (by decide)) (rc_cwS hAm qw_269 qw_1 qw_271 qw_270 rfl rfl hd_X6_isOutside ⟨Nat.le_of_ble_eq_true rfl, Nat.le_of_ble_eq_true rfl⟩) (tg_preS hAm hA hw) rfl rfl hl.1 rfl (lv_room (Nat.le_of_ble_eq_true rfl)) dX6_many_4 ⟨Nat.le_of_ble_eq_true rfl, Nat.le_of_ble_eq_true rfl⟩) hA hw (fun H locs hw => ?_)
  refine lv_if_eq (tgt := 20) hx hb dX6_many_7 (by decide) (fun _ => ?_) (fun c9 => absurd (by decide) c9)
  refine lv_aload_n hx hb dX6_many_20 rfl (lv_at hl 0 rfl) ?_
  refine lv_iload_n hx hb dX6_many_21 rfl (lv_at hl 1 rfl) ?_
  refine tg_callRi (va_runV (As := [.int 4]) (rest := []) (Ts := []) ⟨hx, hb, hml, hown, fun _ h9 => absurd h9 List.not_mem_nil⟩ (co_courtFact4 l E _ ad v G hI) (rc_cwV hAm qw_516 qw_1 qw_519 qw_518 qs_24 rfl rfl hd_X6_courtFact ⟨Nat.le_of_ble_eq_true rfl, Nat.le_of_ble_eq_true rfl⟩) (tg_preV hAm hA hw hco (q := vwCl[7]) rfl) rfl rfl hl.1 rfl (lv_room (Nat.le_of_ble_eq_true rfl)) dX6_many_22 ⟨Nat.le_of_ble_eq_true rfl, Nat.le_of_ble_eq_true rfl⟩) hA hw (fun H locs hw => ?_)
  exact tg_iret hx hb hr hlocks hw (⟨rfl, rfl⟩) (Nat.le_of_ble_eq_true rfl) (Nat.le_of_ble_eq_true rfl) dX6_many_25
set_option maxHeartbeats 4000000 in
set_option maxRecDepth 100000 in
theorem pu_many5 (l : Launch) (E : rc_E) (sz : Nat) (ad : Nat → Nat) (v : av_V) (G : tg_G) (hI : ssH E ad v G) : tg_M l yX6_many [Cond.code yX6_many cX6_many 2 (some FieldType.int)] { frames := 1, cells := 0, slots := 0, locals := 22 } E [.ref (ad 8), .int 5] G sz (tg_Qi E (fun r u => r = nI (vN v 3) ∧ u = G)) 0 0 := by
  refine tg_in (cc := cX6_many) (maxL := 2) (ret := (some FieldType.int)) (tg_Qi E (fun r u => r = nI (vN v 3) ∧ u = G)) (by decide) rfl (Nat.le_of_ble_eq_true rfl) ?_
  intro p e s m args below meth cd ls A hx hb hr hml hown hlocks hin hA hAm hw hl
  have hown : s.vm.findClass RX6 = some m.cls := hown
  have hl : lv_has ls 2 [(0, .ref (ad 8)), (1, .int 5)] := hl
  obtain ⟨h0, hco, ⟨hLm, hLc, hLr⟩, hbi, hma, hch, hru⟩ := id hI
  have hn60 := h0.1
  refine lv_iload_n hx hb dX6_many_0 rfl (lv_at hl 1 rfl) ?_
  refine lv_iconst (v := 0) hx hb dX6_many_1 (by decide) ?_
  refine lv_bipush (v := 8) hx hb dX6_many_2 (by decide) ?_
  refine tg_callRi (va_runS (As := [.int 5, .int 0, .int 8]) (rest := []) (Ts := []) ⟨hx, hb, hml, hown, fun _ h9 => absurd h9 List.not_mem_nil⟩ (lf_isOutside l E _ G 5 0 8 (by decide) (by decide)) (rc_cwS hAm qw_269 qw_1 qw_271 qw_270 rfl rfl hd_X6_isOutside ⟨Nat.le_of_ble_eq_true rfl, Nat.le_of_ble_eq_true rfl⟩) (tg_preS hAm hA hw) rfl rfl hl.1 rfl (lv_room (Nat.le_of_ble_eq_true rfl)) dX6_many_4 ⟨Nat.le_of_ble_eq_true rfl, Nat.le_of_ble_eq_true rfl⟩) hA hw (fun H locs hw => ?_)
  refine lv_if_eq (tgt := 20) hx hb dX6_many_7 (by decide) (fun _ => ?_) (fun c9 => absurd (by decide) c9)
  refine lv_aload_n hx hb dX6_many_20 rfl (lv_at hl 0 rfl) ?_
  refine lv_iload_n hx hb dX6_many_21 rfl (lv_at hl 1 rfl) ?_
  refine tg_callRi (va_runV (As := [.int 5]) (rest := []) (Ts := []) ⟨hx, hb, hml, hown, fun _ h9 => absurd h9 List.not_mem_nil⟩ (co_courtFact5 l E _ ad v G hI) (rc_cwV hAm qw_516 qw_1 qw_519 qw_518 qs_24 rfl rfl hd_X6_courtFact ⟨Nat.le_of_ble_eq_true rfl, Nat.le_of_ble_eq_true rfl⟩) (tg_preV hAm hA hw hco (q := vwCl[7]) rfl) rfl rfl hl.1 rfl (lv_room (Nat.le_of_ble_eq_true rfl)) dX6_many_22 ⟨Nat.le_of_ble_eq_true rfl, Nat.le_of_ble_eq_true rfl⟩) hA hw (fun H locs hw => ?_)
  exact tg_iret hx hb hr hlocks hw (⟨rfl, rfl⟩) (Nat.le_of_ble_eq_true rfl) (Nat.le_of_ble_eq_true rfl) dX6_many_25
set_option maxHeartbeats 4000000 in
set_option maxRecDepth 100000 in
theorem pu_many6 (l : Launch) (E : rc_E) (sz : Nat) (ad : Nat → Nat) (v : av_V) (G : tg_G) (hI : ssH E ad v G) : tg_M l yX6_many [Cond.code yX6_many cX6_many 2 (some FieldType.int)] { frames := 1, cells := 0, slots := 0, locals := 22 } E [.ref (ad 8), .int 6] G sz (tg_Qi E (fun r u => r = nI (vN v 4) ∧ u = G)) 0 0 := by
  refine tg_in (cc := cX6_many) (maxL := 2) (ret := (some FieldType.int)) (tg_Qi E (fun r u => r = nI (vN v 4) ∧ u = G)) (by decide) rfl (Nat.le_of_ble_eq_true rfl) ?_
  intro p e s m args below meth cd ls A hx hb hr hml hown hlocks hin hA hAm hw hl
  have hown : s.vm.findClass RX6 = some m.cls := hown
  have hl : lv_has ls 2 [(0, .ref (ad 8)), (1, .int 6)] := hl
  obtain ⟨h0, hco, ⟨hLm, hLc, hLr⟩, hbi, hma, hch, hru⟩ := id hI
  have hn60 := h0.1
  refine lv_iload_n hx hb dX6_many_0 rfl (lv_at hl 1 rfl) ?_
  refine lv_iconst (v := 0) hx hb dX6_many_1 (by decide) ?_
  refine lv_bipush (v := 8) hx hb dX6_many_2 (by decide) ?_
  refine tg_callRi (va_runS (As := [.int 6, .int 0, .int 8]) (rest := []) (Ts := []) ⟨hx, hb, hml, hown, fun _ h9 => absurd h9 List.not_mem_nil⟩ (lf_isOutside l E _ G 6 0 8 (by decide) (by decide)) (rc_cwS hAm qw_269 qw_1 qw_271 qw_270 rfl rfl hd_X6_isOutside ⟨Nat.le_of_ble_eq_true rfl, Nat.le_of_ble_eq_true rfl⟩) (tg_preS hAm hA hw) rfl rfl hl.1 rfl (lv_room (Nat.le_of_ble_eq_true rfl)) dX6_many_4 ⟨Nat.le_of_ble_eq_true rfl, Nat.le_of_ble_eq_true rfl⟩) hA hw (fun H locs hw => ?_)
  refine lv_if_eq (tgt := 20) hx hb dX6_many_7 (by decide) (fun _ => ?_) (fun c9 => absurd (by decide) c9)
  refine lv_aload_n hx hb dX6_many_20 rfl (lv_at hl 0 rfl) ?_
  refine lv_iload_n hx hb dX6_many_21 rfl (lv_at hl 1 rfl) ?_
  refine tg_callRi (va_runV (As := [.int 6]) (rest := []) (Ts := []) ⟨hx, hb, hml, hown, fun _ h9 => absurd h9 List.not_mem_nil⟩ (co_courtFact6 l E _ ad v G hI) (rc_cwV hAm qw_516 qw_1 qw_519 qw_518 qs_24 rfl rfl hd_X6_courtFact ⟨Nat.le_of_ble_eq_true rfl, Nat.le_of_ble_eq_true rfl⟩) (tg_preV hAm hA hw hco (q := vwCl[7]) rfl) rfl rfl hl.1 rfl (lv_room (Nat.le_of_ble_eq_true rfl)) dX6_many_22 ⟨Nat.le_of_ble_eq_true rfl, Nat.le_of_ble_eq_true rfl⟩) hA hw (fun H locs hw => ?_)
  exact tg_iret hx hb hr hlocks hw (⟨rfl, rfl⟩) (Nat.le_of_ble_eq_true rfl) (Nat.le_of_ble_eq_true rfl) dX6_many_25
set_option maxHeartbeats 4000000 in
set_option maxRecDepth 100000 in
theorem pu_many7 (l : Launch) (E : rc_E) (sz : Nat) (ad : Nat → Nat) (v : av_V) (G : tg_G) (hI : ssH E ad v G) : tg_M l yX6_many [Cond.code yX6_many cX6_many 2 (some FieldType.int)] { frames := 5, cells := 0, slots := 0, locals := 107 } E [.ref (ad 8), .int 7] G sz (tg_Qi E (fun r u => r = nI (smR (fun c => bN (vC v c).1) 6) ∧ u = G)) 0 0 := by
  refine tg_in (cc := cX6_many) (maxL := 2) (ret := (some FieldType.int)) (tg_Qi E (fun r u => r = nI (smR (fun c => bN (vC v c).1) 6) ∧ u = G)) (by decide) rfl (Nat.le_of_ble_eq_true rfl) ?_
  intro p e s m args below meth cd ls A hx hb hr hml hown hlocks hin hA hAm hw hl
  have hown : s.vm.findClass RX6 = some m.cls := hown
  have hl : lv_has ls 2 [(0, .ref (ad 8)), (1, .int 7)] := hl
  obtain ⟨h0, hco, ⟨hLm, hLc, hLr⟩, hbi, hma, hch, hru⟩ := id hI
  have hn60 := h0.1
  refine lv_iload_n hx hb dX6_many_0 rfl (lv_at hl 1 rfl) ?_
  refine lv_iconst (v := 0) hx hb dX6_many_1 (by decide) ?_
  refine lv_bipush (v := 8) hx hb dX6_many_2 (by decide) ?_
  refine tg_callRi (va_runS (As := [.int 7, .int 0, .int 8]) (rest := []) (Ts := []) ⟨hx, hb, hml, hown, fun _ h9 => absurd h9 List.not_mem_nil⟩ (lf_isOutside l E _ G 7 0 8 (by decide) (by decide)) (rc_cwS hAm qw_269 qw_1 qw_271 qw_270 rfl rfl hd_X6_isOutside ⟨Nat.le_of_ble_eq_true rfl, Nat.le_of_ble_eq_true rfl⟩) (tg_preS hAm hA hw) rfl rfl hl.1 rfl (lv_room (Nat.le_of_ble_eq_true rfl)) dX6_many_4 ⟨Nat.le_of_ble_eq_true rfl, Nat.le_of_ble_eq_true rfl⟩) hA hw (fun H locs hw => ?_)
  refine lv_if_eq (tgt := 20) hx hb dX6_many_7 (by decide) (fun _ => ?_) (fun c9 => absurd (by decide) c9)
  refine lv_aload_n hx hb dX6_many_20 rfl (lv_at hl 0 rfl) ?_
  refine lv_iload_n hx hb dX6_many_21 rfl (lv_at hl 1 rfl) ?_
  refine tg_callRi (va_runV (As := [.int 7]) (rest := []) (Ts := []) ⟨hx, hb, hml, hown, fun _ h9 => absurd h9 List.not_mem_nil⟩ (co_courtFact7 l E _ ad v G hI) (rc_cwV hAm qw_516 qw_1 qw_519 qw_518 qs_24 rfl rfl hd_X6_courtFact ⟨Nat.le_of_ble_eq_true rfl, Nat.le_of_ble_eq_true rfl⟩) (tg_preV hAm hA hw hco (q := vwCl[7]) rfl) rfl rfl hl.1 rfl (lv_room (Nat.le_of_ble_eq_true rfl)) dX6_many_22 ⟨Nat.le_of_ble_eq_true rfl, Nat.le_of_ble_eq_true rfl⟩) hA hw (fun H locs hw => ?_)
  exact tg_iret hx hb hr hlocks hw (⟨rfl, rfl⟩) (Nat.le_of_ble_eq_true rfl) (Nat.le_of_ble_eq_true rfl) dX6_many_25
set_option maxHeartbeats 4000000 in
set_option maxRecDepth 100000 in
theorem pu_many8 (l : Launch) (E : rc_E) (sz : Nat) (ad : Nat → Nat) (v : av_V) (G : tg_G) (hI : ssH E ad v G) : tg_M l yX6_many [Cond.code yX6_many cX6_many 2 (some FieldType.int)] { frames := 5, cells := 0, slots := 0, locals := 107 } E [.ref (ad 8), .int 8] G sz (tg_Qi E (fun r u => r = nI (smR (fun j => bN (vMI v j 7)) 2) ∧ u = G)) 0 0 := by
  refine tg_in (cc := cX6_many) (maxL := 2) (ret := (some FieldType.int)) (tg_Qi E (fun r u => r = nI (smR (fun j => bN (vMI v j 7)) 2) ∧ u = G)) (by decide) rfl (Nat.le_of_ble_eq_true rfl) ?_
  intro p e s m args below meth cd ls A hx hb hr hml hown hlocks hin hA hAm hw hl
  have hown : s.vm.findClass RX6 = some m.cls := hown
  have hl : lv_has ls 2 [(0, .ref (ad 8)), (1, .int 8)] := hl
  obtain ⟨h0, hco, ⟨hLm, hLc, hLr⟩, hbi, hma, hch, hru⟩ := id hI
  have hn60 := h0.1
  refine lv_iload_n hx hb dX6_many_0 rfl (lv_at hl 1 rfl) ?_
  refine lv_iconst (v := 0) hx hb dX6_many_1 (by decide) ?_
  refine lv_bipush (v := 8) hx hb dX6_many_2 (by decide) ?_
  refine tg_callRi (va_runS (As := [.int 8, .int 0, .int 8]) (rest := []) (Ts := []) ⟨hx, hb, hml, hown, fun _ h9 => absurd h9 List.not_mem_nil⟩ (lf_isOutside l E _ G 8 0 8 (by decide) (by decide)) (rc_cwS hAm qw_269 qw_1 qw_271 qw_270 rfl rfl hd_X6_isOutside ⟨Nat.le_of_ble_eq_true rfl, Nat.le_of_ble_eq_true rfl⟩) (tg_preS hAm hA hw) rfl rfl hl.1 rfl (lv_room (Nat.le_of_ble_eq_true rfl)) dX6_many_4 ⟨Nat.le_of_ble_eq_true rfl, Nat.le_of_ble_eq_true rfl⟩) hA hw (fun H locs hw => ?_)
  refine lv_if_eq (tgt := 20) hx hb dX6_many_7 (by decide) (fun _ => ?_) (fun c9 => absurd (by decide) c9)
  refine lv_aload_n hx hb dX6_many_20 rfl (lv_at hl 0 rfl) ?_
  refine lv_iload_n hx hb dX6_many_21 rfl (lv_at hl 1 rfl) ?_
  refine tg_callRi (va_runV (As := [.int 8]) (rest := []) (Ts := []) ⟨hx, hb, hml, hown, fun _ h9 => absurd h9 List.not_mem_nil⟩ (co_courtFact8 l E _ ad v G hI) (rc_cwV hAm qw_516 qw_1 qw_519 qw_518 qs_24 rfl rfl hd_X6_courtFact ⟨Nat.le_of_ble_eq_true rfl, Nat.le_of_ble_eq_true rfl⟩) (tg_preV hAm hA hw hco (q := vwCl[7]) rfl) rfl rfl hl.1 rfl (lv_room (Nat.le_of_ble_eq_true rfl)) dX6_many_22 ⟨Nat.le_of_ble_eq_true rfl, Nat.le_of_ble_eq_true rfl⟩) hA hw (fun H locs hw => ?_)
  exact tg_iret hx hb hr hlocks hw (⟨rfl, rfl⟩) (Nat.le_of_ble_eq_true rfl) (Nat.le_of_ble_eq_true rfl) dX6_many_25
theorem hd_X6_caseFact : yX6_caseFact.cls ≠ "java/lang/invoke/MethodHandle" ∧ yX6_caseFact.cls ≠ "java/lang/invoke/VarHandle" ∧ (parseMethodDescriptor yX6_caseFact.desc).map (fun d => d.parameters.length) = some 1 := by decide +kernel
set_option maxHeartbeats 4000000 in
set_option maxRecDepth 100000 in
theorem pu_ofCase0 (l : Launch) (E : rc_E) (sz : Nat) (ad : Nat → Nat) (v : av_V) (G : tg_G) (hI : ssH E ad v G) : tg_M l yX6_ofCase [Cond.code yX6_ofCase cX6_ofCase 2 (some FieldType.int)] { frames := 1, cells := 0, slots := 0, locals := 22 } E [.ref (ad 8), .int 0] G sz (tg_Qi E (fun r u => r = vI v 2 ∧ u = G)) 0 0 := by
  refine tg_in (cc := cX6_ofCase) (maxL := 2) (ret := (some FieldType.int)) (tg_Qi E (fun r u => r = vI v 2 ∧ u = G)) (by decide) rfl (Nat.le_of_ble_eq_true rfl) ?_
  intro p e s m args below meth cd ls A hx hb hr hml hown hlocks hin hA hAm hw hl
  have hown : s.vm.findClass RX6 = some m.cls := hown
  have hl : lv_has ls 2 [(0, .ref (ad 8)), (1, .int 0)] := hl
  obtain ⟨h0, hco, ⟨hLm, hLc, hLr⟩, hbi, hma, hch, hru⟩ := id hI
  have hn60 := h0.1
  refine lv_iload_n hx hb dX6_ofCase_0 rfl (lv_at hl 1 rfl) ?_
  refine lv_iconst (v := 0) hx hb dX6_ofCase_1 (by decide) ?_
  refine lv_iconst (v := 3) hx hb dX6_ofCase_2 (by decide) ?_
  refine tg_callRi (va_runS (As := [.int 0, .int 0, .int 3]) (rest := []) (Ts := []) ⟨hx, hb, hml, hown, fun _ h9 => absurd h9 List.not_mem_nil⟩ (lf_isOutside l E _ G 0 0 3 (by decide) (by decide)) (rc_cwS hAm qw_269 qw_1 qw_271 qw_270 rfl rfl hd_X6_isOutside ⟨Nat.le_of_ble_eq_true rfl, Nat.le_of_ble_eq_true rfl⟩) (tg_preS hAm hA hw) rfl rfl hl.1 rfl (lv_room (Nat.le_of_ble_eq_true rfl)) dX6_ofCase_3 ⟨Nat.le_of_ble_eq_true rfl, Nat.le_of_ble_eq_true rfl⟩) hA hw (fun H locs hw => ?_)
  refine lv_if_eq (tgt := 19) hx hb dX6_ofCase_6 (by decide) (fun _ => ?_) (fun c9 => absurd (by decide) c9)
  refine lv_aload_n hx hb dX6_ofCase_19 rfl (lv_at hl 0 rfl) ?_
  refine lv_iload_n hx hb dX6_ofCase_20 rfl (lv_at hl 1 rfl) ?_
  refine tg_callRi (va_runV (As := [.int 0]) (rest := []) (Ts := []) ⟨hx, hb, hml, hown, fun _ h9 => absurd h9 List.not_mem_nil⟩ (co_caseFact0 l E _ ad v G hI) (rc_cwV hAm qw_606 qw_1 qw_609 qw_608 qs_42 rfl rfl hd_X6_caseFact ⟨Nat.le_of_ble_eq_true rfl, Nat.le_of_ble_eq_true rfl⟩) (tg_preV hAm hA hw hco (q := vwCl[7]) rfl) rfl rfl hl.1 rfl (lv_room (Nat.le_of_ble_eq_true rfl)) dX6_ofCase_21 ⟨Nat.le_of_ble_eq_true rfl, Nat.le_of_ble_eq_true rfl⟩) hA hw (fun H locs hw => ?_)
  exact tg_iret hx hb hr hlocks hw (⟨rfl, rfl⟩) (Nat.le_of_ble_eq_true rfl) (Nat.le_of_ble_eq_true rfl) dX6_ofCase_24
set_option maxHeartbeats 4000000 in
set_option maxRecDepth 100000 in
theorem pu_ofCase1 (l : Launch) (E : rc_E) (sz : Nat) (ad : Nat → Nat) (v : av_V) (G : tg_G) (hI : ssH E ad v G) : tg_M l yX6_ofCase [Cond.code yX6_ofCase cX6_ofCase 2 (some FieldType.int)] { frames := 1, cells := 0, slots := 0, locals := 22 } E [.ref (ad 8), .int 1] G sz (tg_Qi E (fun r u => r = vI v 3 ∧ u = G)) 0 0 := by
  refine tg_in (cc := cX6_ofCase) (maxL := 2) (ret := (some FieldType.int)) (tg_Qi E (fun r u => r = vI v 3 ∧ u = G)) (by decide) rfl (Nat.le_of_ble_eq_true rfl) ?_
  intro p e s m args below meth cd ls A hx hb hr hml hown hlocks hin hA hAm hw hl
  have hown : s.vm.findClass RX6 = some m.cls := hown
  have hl : lv_has ls 2 [(0, .ref (ad 8)), (1, .int 1)] := hl
  obtain ⟨h0, hco, ⟨hLm, hLc, hLr⟩, hbi, hma, hch, hru⟩ := id hI
  have hn60 := h0.1
  refine lv_iload_n hx hb dX6_ofCase_0 rfl (lv_at hl 1 rfl) ?_
  refine lv_iconst (v := 0) hx hb dX6_ofCase_1 (by decide) ?_
  refine lv_iconst (v := 3) hx hb dX6_ofCase_2 (by decide) ?_
  refine tg_callRi (va_runS (As := [.int 1, .int 0, .int 3]) (rest := []) (Ts := []) ⟨hx, hb, hml, hown, fun _ h9 => absurd h9 List.not_mem_nil⟩ (lf_isOutside l E _ G 1 0 3 (by decide) (by decide)) (rc_cwS hAm qw_269 qw_1 qw_271 qw_270 rfl rfl hd_X6_isOutside ⟨Nat.le_of_ble_eq_true rfl, Nat.le_of_ble_eq_true rfl⟩) (tg_preS hAm hA hw) rfl rfl hl.1 rfl (lv_room (Nat.le_of_ble_eq_true rfl)) dX6_ofCase_3 ⟨Nat.le_of_ble_eq_true rfl, Nat.le_of_ble_eq_true rfl⟩) hA hw (fun H locs hw => ?_)
  refine lv_if_eq (tgt := 19) hx hb dX6_ofCase_6 (by decide) (fun _ => ?_) (fun c9 => absurd (by decide) c9)
  refine lv_aload_n hx hb dX6_ofCase_19 rfl (lv_at hl 0 rfl) ?_
  refine lv_iload_n hx hb dX6_ofCase_20 rfl (lv_at hl 1 rfl) ?_
  refine tg_callRi (va_runV (As := [.int 1]) (rest := []) (Ts := []) ⟨hx, hb, hml, hown, fun _ h9 => absurd h9 List.not_mem_nil⟩ (co_caseFact1 l E _ ad v G hI) (rc_cwV hAm qw_606 qw_1 qw_609 qw_608 qs_42 rfl rfl hd_X6_caseFact ⟨Nat.le_of_ble_eq_true rfl, Nat.le_of_ble_eq_true rfl⟩) (tg_preV hAm hA hw hco (q := vwCl[7]) rfl) rfl rfl hl.1 rfl (lv_room (Nat.le_of_ble_eq_true rfl)) dX6_ofCase_21 ⟨Nat.le_of_ble_eq_true rfl, Nat.le_of_ble_eq_true rfl⟩) hA hw (fun H locs hw => ?_)
  exact tg_iret hx hb hr hlocks hw (⟨rfl, rfl⟩) (Nat.le_of_ble_eq_true rfl) (Nat.le_of_ble_eq_true rfl) dX6_ofCase_24
set_option maxHeartbeats 4000000 in
set_option maxRecDepth 100000 in
theorem pu_ofCase2 (l : Launch) (E : rc_E) (sz : Nat) (ad : Nat → Nat) (v : av_V) (G : tg_G) (hI : ssH E ad v G) : tg_M l yX6_ofCase [Cond.code yX6_ofCase cX6_ofCase 2 (some FieldType.int)] { frames := 1, cells := 0, slots := 0, locals := 22 } E [.ref (ad 8), .int 2] G sz (tg_Qi E (fun r u => r = vI v 4 ∧ u = G)) 0 0 := by
  refine tg_in (cc := cX6_ofCase) (maxL := 2) (ret := (some FieldType.int)) (tg_Qi E (fun r u => r = vI v 4 ∧ u = G)) (by decide) rfl (Nat.le_of_ble_eq_true rfl) ?_
  intro p e s m args below meth cd ls A hx hb hr hml hown hlocks hin hA hAm hw hl
  have hown : s.vm.findClass RX6 = some m.cls := hown
  have hl : lv_has ls 2 [(0, .ref (ad 8)), (1, .int 2)] := hl
  obtain ⟨h0, hco, ⟨hLm, hLc, hLr⟩, hbi, hma, hch, hru⟩ := id hI
  have hn60 := h0.1
  refine lv_iload_n hx hb dX6_ofCase_0 rfl (lv_at hl 1 rfl) ?_
  refine lv_iconst (v := 0) hx hb dX6_ofCase_1 (by decide) ?_
  refine lv_iconst (v := 3) hx hb dX6_ofCase_2 (by decide) ?_
  refine tg_callRi (va_runS (As := [.int 2, .int 0, .int 3]) (rest := []) (Ts := []) ⟨hx, hb, hml, hown, fun _ h9 => absurd h9 List.not_mem_nil⟩ (lf_isOutside l E _ G 2 0 3 (by decide) (by decide)) (rc_cwS hAm qw_269 qw_1 qw_271 qw_270 rfl rfl hd_X6_isOutside ⟨Nat.le_of_ble_eq_true rfl, Nat.le_of_ble_eq_true rfl⟩) (tg_preS hAm hA hw) rfl rfl hl.1 rfl (lv_room (Nat.le_of_ble_eq_true rfl)) dX6_ofCase_3 ⟨Nat.le_of_ble_eq_true rfl, Nat.le_of_ble_eq_true rfl⟩) hA hw (fun H locs hw => ?_)
  refine lv_if_eq (tgt := 19) hx hb dX6_ofCase_6 (by decide) (fun _ => ?_) (fun c9 => absurd (by decide) c9)
  refine lv_aload_n hx hb dX6_ofCase_19 rfl (lv_at hl 0 rfl) ?_
  refine lv_iload_n hx hb dX6_ofCase_20 rfl (lv_at hl 1 rfl) ?_
  refine tg_callRi (va_runV (As := [.int 2]) (rest := []) (Ts := []) ⟨hx, hb, hml, hown, fun _ h9 => absurd h9 List.not_mem_nil⟩ (co_caseFact2 l E _ ad v G hI) (rc_cwV hAm qw_606 qw_1 qw_609 qw_608 qs_42 rfl rfl hd_X6_caseFact ⟨Nat.le_of_ble_eq_true rfl, Nat.le_of_ble_eq_true rfl⟩) (tg_preV hAm hA hw hco (q := vwCl[7]) rfl) rfl rfl hl.1 rfl (lv_room (Nat.le_of_ble_eq_true rfl)) dX6_ofCase_21 ⟨Nat.le_of_ble_eq_true rfl, Nat.le_of_ble_eq_true rfl⟩) hA hw (fun H locs hw => ?_)
  exact tg_iret hx hb hr hlocks hw (⟨rfl, rfl⟩) (Nat.le_of_ble_eq_true rfl) (Nat.le_of_ble_eq_true rfl) dX6_ofCase_24
set_option maxHeartbeats 4000000 in
set_option maxRecDepth 100000 in
theorem pu_ofCase3 (l : Launch) (E : rc_E) (sz : Nat) (ad : Nat → Nat) (v : av_V) (G : tg_G) (hI : ssH E ad v G) : tg_M l yX6_ofCase [Cond.code yX6_ofCase cX6_ofCase 2 (some FieldType.int)] { frames := 1, cells := 0, slots := 0, locals := 22 } E [.ref (ad 8), .int 3] G sz (tg_Qi E (fun r u => r = vI v 0 ∧ u = G)) 0 0 := by
  refine tg_in (cc := cX6_ofCase) (maxL := 2) (ret := (some FieldType.int)) (tg_Qi E (fun r u => r = vI v 0 ∧ u = G)) (by decide) rfl (Nat.le_of_ble_eq_true rfl) ?_
  intro p e s m args below meth cd ls A hx hb hr hml hown hlocks hin hA hAm hw hl
  have hown : s.vm.findClass RX6 = some m.cls := hown
  have hl : lv_has ls 2 [(0, .ref (ad 8)), (1, .int 3)] := hl
  obtain ⟨h0, hco, ⟨hLm, hLc, hLr⟩, hbi, hma, hch, hru⟩ := id hI
  have hn60 := h0.1
  refine lv_iload_n hx hb dX6_ofCase_0 rfl (lv_at hl 1 rfl) ?_
  refine lv_iconst (v := 0) hx hb dX6_ofCase_1 (by decide) ?_
  refine lv_iconst (v := 3) hx hb dX6_ofCase_2 (by decide) ?_
  refine tg_callRi (va_runS (As := [.int 3, .int 0, .int 3]) (rest := []) (Ts := []) ⟨hx, hb, hml, hown, fun _ h9 => absurd h9 List.not_mem_nil⟩ (lf_isOutside l E _ G 3 0 3 (by decide) (by decide)) (rc_cwS hAm qw_269 qw_1 qw_271 qw_270 rfl rfl hd_X6_isOutside ⟨Nat.le_of_ble_eq_true rfl, Nat.le_of_ble_eq_true rfl⟩) (tg_preS hAm hA hw) rfl rfl hl.1 rfl (lv_room (Nat.le_of_ble_eq_true rfl)) dX6_ofCase_3 ⟨Nat.le_of_ble_eq_true rfl, Nat.le_of_ble_eq_true rfl⟩) hA hw (fun H locs hw => ?_)
  refine lv_if_eq (tgt := 19) hx hb dX6_ofCase_6 (by decide) (fun _ => ?_) (fun c9 => absurd (by decide) c9)
  refine lv_aload_n hx hb dX6_ofCase_19 rfl (lv_at hl 0 rfl) ?_
  refine lv_iload_n hx hb dX6_ofCase_20 rfl (lv_at hl 1 rfl) ?_
  refine tg_callRi (va_runV (As := [.int 3]) (rest := []) (Ts := []) ⟨hx, hb, hml, hown, fun _ h9 => absurd h9 List.not_mem_nil⟩ (co_caseFact3 l E _ ad v G hI) (rc_cwV hAm qw_606 qw_1 qw_609 qw_608 qs_42 rfl rfl hd_X6_caseFact ⟨Nat.le_of_ble_eq_true rfl, Nat.le_of_ble_eq_true rfl⟩) (tg_preV hAm hA hw hco (q := vwCl[7]) rfl) rfl rfl hl.1 rfl (lv_room (Nat.le_of_ble_eq_true rfl)) dX6_ofCase_21 ⟨Nat.le_of_ble_eq_true rfl, Nat.le_of_ble_eq_true rfl⟩) hA hw (fun H locs hw => ?_)
  exact tg_iret hx hb hr hlocks hw (⟨rfl, rfl⟩) (Nat.le_of_ble_eq_true rfl) (Nat.le_of_ble_eq_true rfl) dX6_ofCase_24
theorem hd_X6_machineFact : yX6_machineFact.cls ≠ "java/lang/invoke/MethodHandle" ∧ yX6_machineFact.cls ≠ "java/lang/invoke/VarHandle" ∧ (parseMethodDescriptor yX6_machineFact.desc).map (fun d => d.parameters.length) = some 2 := by decide +kernel
set_option maxHeartbeats 4000000 in
set_option maxRecDepth 100000 in
theorem pu_ofMachine0 (l : Launch) (E : rc_E) (sz : Nat) (ad : Nat → Nat) (v : av_V) (G : tg_G) (hI : ssH E ad v G) (j : Nat) (hj : j < 2) : tg_M l yX6_ofMachine [Cond.code yX6_ofMachine cX6_ofMachine 3 (some FieldType.int)] { frames := 3, cells := 0, slots := 0, locals := 64 } E [.ref (ad 8), .int (nI j), .int 0] G sz (tg_Qi E (fun r u => r = nI (vMN v j 1) ∧ u = G)) 0 0 := by
  refine tg_in (cc := cX6_ofMachine) (maxL := 3) (ret := (some FieldType.int)) (tg_Qi E (fun r u => r = nI (vMN v j 1) ∧ u = G)) (by decide) rfl (Nat.le_of_ble_eq_true rfl) ?_
  intro p e s m args below meth cd ls A hx hb hr hml hown hlocks hin hA hAm hw hl
  have hown : s.vm.findClass RX6 = some m.cls := hown
  have hl : lv_has ls 3 [(0, .ref (ad 8)), (1, .int (nI j)), (2, .int 0)] := hl
  obtain ⟨h0, hco, ⟨hLm, hLc, hLr⟩, hbi, hma, hch, hru⟩ := id hI
  have hn60 := h0.1
  obtain ⟨mcm, lam, capm, fm, hlm, hrm, hpm, hqm, hfm⟩ := ltH.pos hLm (by decide)
  have hm_j : G (32 + j) = some (ad (32 + j), .inr (4, [.int (nI j), .int (nI (vMN v j 1)), .int (nI (vMN v j 2)), .int (vMI v j 3), .int (vMI v j 4), .int (vMI v j 5), .int (nI (vMN v j 6)), .int (vMI v j 7)])) := hma j (by omega)
  refine lv_iload_n hx hb dX6_ofMachine_0 rfl (lv_at hl 1 rfl) ?_
  refine lv_if_lt (tgt := 15) hx hb dX6_ofMachine_1 (by decide) (fun c9 => absurd c9 (fun z9 => absurd ((nI_ltI (a := j) (b := 0) (by omega) (by omega)).mp z9) (by omega))) (fun _ => ?_)
  refine lv_iload_n hx hb dX6_ofMachine_4 rfl (lv_at hl 1 rfl) ?_
  refine lv_aload_n hx hb dX6_ofMachine_5 rfl (lv_at hl 0 rfl) ?_
  refine tg_get (v := .ref (ad 9)) hx hb hown hAm hw lyX6 hco rfl 0 (by decide) qw_225 (fun _ h9 => h9) rfl dX6_ofMachine_6 ?_
  refine tg_callRi (va_runV (As := []) (rest := [.int (nI j)]) (Ts := []) ⟨hx, hb, hml, hown, fun _ h9 => absurd h9 List.not_mem_nil⟩ (lf_size l E _ G (n := 2) hlm) (rc_cwV hAm qw_343 qw_4 qw_346 qw_344 qw_345 rfl rfl hd_Jx4a65c_size_8abf5 ⟨Nat.le_of_ble_eq_true rfl, Nat.le_of_ble_eq_true rfl⟩) (tg_preV hAm hA hw hlm (q := vwCl[0]) rfl) rfl rfl hl.1 rfl (lv_room (Nat.le_of_ble_eq_true rfl)) dX6_ofMachine_9 ⟨Nat.le_of_ble_eq_true rfl, Nat.le_of_ble_eq_true rfl⟩) hA hw (fun H locs hw => ?_)
  refine lv_icmp_lt (tgt := 25) hx hb dX6_ofMachine_12 (by decide) (fun _ => ?_) (fun c9 => absurd ((nI_ltI (a := j) (b := 2) (by omega) (by omega)).mpr (by omega)) c9)
  refine lv_iload_n hx hb dX6_ofMachine_25 rfl (lv_at hl 2 rfl) ?_
  refine lv_iconst (v := 0) hx hb dX6_ofMachine_26 (by decide) ?_
  refine lv_iconst (v := 4) hx hb dX6_ofMachine_27 (by decide) ?_
  refine tg_callRi (va_runS (As := [.int 0, .int 0, .int 4]) (rest := []) (Ts := []) ⟨hx, hb, hml, hown, fun _ h9 => absurd h9 List.not_mem_nil⟩ (lf_isOutside l E _ G 0 0 4 (by decide) (by decide)) (rc_cwS hAm qw_269 qw_1 qw_271 qw_270 rfl rfl hd_X6_isOutside ⟨Nat.le_of_ble_eq_true rfl, Nat.le_of_ble_eq_true rfl⟩) (tg_preS hAm hA hw) rfl rfl hl.1 rfl (lv_room (Nat.le_of_ble_eq_true rfl)) dX6_ofMachine_28 ⟨Nat.le_of_ble_eq_true rfl, Nat.le_of_ble_eq_true rfl⟩) hA hw (fun H locs hw => ?_)
  refine lv_if_eq (tgt := 44) hx hb dX6_ofMachine_31 (by decide) (fun _ => ?_) (fun c9 => absurd (by decide) c9)
  refine lv_aload_n hx hb dX6_ofMachine_44 rfl (lv_at hl 0 rfl) ?_
  refine lv_aload_n hx hb dX6_ofMachine_45 rfl (lv_at hl 0 rfl) ?_
  refine tg_get (v := .ref (ad 9)) hx hb hown hAm hw lyX6 hco rfl 0 (by decide) qw_225 (fun _ h9 => h9) rfl dX6_ofMachine_46 ?_
  refine lv_iload_n hx hb dX6_ofMachine_49 rfl (lv_at hl 1 rfl) ?_
  refine tg_callRr (va_runV (As := [.int (nI j)]) (rest := [.ref (ad 8)]) (Ts := []) ⟨hx, hb, hml, hown, fun _ h9 => absurd h9 List.not_mem_nil⟩ (lf_get l E _ G (k := j) (n := 2) (y := ad (32 + j)) (by omega) (by omega) (by omega) (hfm j (by omega)) hlm hrm) (rc_cwV hAm qw_436 qw_4 qw_439 qw_437 qw_438 rfl rfl hd_Jx4a65c_get_915e3 ⟨Nat.le_of_ble_eq_true rfl, Nat.le_of_ble_eq_true rfl⟩) (tg_preV hAm hA hw hlm (q := vwCl[0]) rfl) rfl rfl hl.1 rfl (lv_room (Nat.le_of_ble_eq_true rfl)) dX6_ofMachine_50 ⟨Nat.le_of_ble_eq_true rfl, Nat.le_of_ble_eq_true rfl⟩) hA hw (fun H locs hw => ?_)
  refine tg_castS (C := RX3) hx hb hown hAm hw qw_363 hm_j rfl dX6_ofMachine_53 ?_
  refine lv_iload_n hx hb dX6_ofMachine_56 rfl (lv_at hl 2 rfl) ?_
  refine tg_callRi (va_runV (As := [.ref (ad (32 + j)), .int 0]) (rest := []) (Ts := []) ⟨hx, hb, hml, hown, fun _ h9 => absurd h9 List.not_mem_nil⟩ (co_machineFact0 l E _ ad v G hI j (by omega)) (rc_cwV hAm qw_547 qw_1 qw_550 qw_549 qs_29 rfl rfl hd_X6_machineFact ⟨Nat.le_of_ble_eq_true rfl, Nat.le_of_ble_eq_true rfl⟩) (tg_preV hAm hA hw hco (q := vwCl[7]) rfl) rfl rfl hl.1 rfl (lv_room (Nat.le_of_ble_eq_true rfl)) dX6_ofMachine_57 ⟨Nat.le_of_ble_eq_true rfl, Nat.le_of_ble_eq_true rfl⟩) hA hw (fun H locs hw => ?_)
  exact tg_iret hx hb hr hlocks hw (⟨rfl, rfl⟩) (Nat.le_of_ble_eq_true rfl) (Nat.le_of_ble_eq_true rfl) dX6_ofMachine_60
set_option maxHeartbeats 4000000 in
set_option maxRecDepth 100000 in
theorem pu_ofMachine1 (l : Launch) (E : rc_E) (sz : Nat) (ad : Nat → Nat) (v : av_V) (G : tg_G) (hI : ssH E ad v G) (j : Nat) (hj : j < 2) : tg_M l yX6_ofMachine [Cond.code yX6_ofMachine cX6_ofMachine 3 (some FieldType.int)] { frames := 3, cells := 0, slots := 0, locals := 64 } E [.ref (ad 8), .int (nI j), .int 1] G sz (tg_Qi E (fun r u => r = nI (vMN v j 2) ∧ u = G)) 0 0 := by
  refine tg_in (cc := cX6_ofMachine) (maxL := 3) (ret := (some FieldType.int)) (tg_Qi E (fun r u => r = nI (vMN v j 2) ∧ u = G)) (by decide) rfl (Nat.le_of_ble_eq_true rfl) ?_
  intro p e s m args below meth cd ls A hx hb hr hml hown hlocks hin hA hAm hw hl
  have hown : s.vm.findClass RX6 = some m.cls := hown
  have hl : lv_has ls 3 [(0, .ref (ad 8)), (1, .int (nI j)), (2, .int 1)] := hl
  obtain ⟨h0, hco, ⟨hLm, hLc, hLr⟩, hbi, hma, hch, hru⟩ := id hI
  have hn60 := h0.1
  obtain ⟨mcm, lam, capm, fm, hlm, hrm, hpm, hqm, hfm⟩ := ltH.pos hLm (by decide)
  have hm_j : G (32 + j) = some (ad (32 + j), .inr (4, [.int (nI j), .int (nI (vMN v j 1)), .int (nI (vMN v j 2)), .int (vMI v j 3), .int (vMI v j 4), .int (vMI v j 5), .int (nI (vMN v j 6)), .int (vMI v j 7)])) := hma j (by omega)
  refine lv_iload_n hx hb dX6_ofMachine_0 rfl (lv_at hl 1 rfl) ?_
  refine lv_if_lt (tgt := 15) hx hb dX6_ofMachine_1 (by decide) (fun c9 => absurd c9 (fun z9 => absurd ((nI_ltI (a := j) (b := 0) (by omega) (by omega)).mp z9) (by omega))) (fun _ => ?_)
  refine lv_iload_n hx hb dX6_ofMachine_4 rfl (lv_at hl 1 rfl) ?_
  refine lv_aload_n hx hb dX6_ofMachine_5 rfl (lv_at hl 0 rfl) ?_
  refine tg_get (v := .ref (ad 9)) hx hb hown hAm hw lyX6 hco rfl 0 (by decide) qw_225 (fun _ h9 => h9) rfl dX6_ofMachine_6 ?_
  refine tg_callRi (va_runV (As := []) (rest := [.int (nI j)]) (Ts := []) ⟨hx, hb, hml, hown, fun _ h9 => absurd h9 List.not_mem_nil⟩ (lf_size l E _ G (n := 2) hlm) (rc_cwV hAm qw_343 qw_4 qw_346 qw_344 qw_345 rfl rfl hd_Jx4a65c_size_8abf5 ⟨Nat.le_of_ble_eq_true rfl, Nat.le_of_ble_eq_true rfl⟩) (tg_preV hAm hA hw hlm (q := vwCl[0]) rfl) rfl rfl hl.1 rfl (lv_room (Nat.le_of_ble_eq_true rfl)) dX6_ofMachine_9 ⟨Nat.le_of_ble_eq_true rfl, Nat.le_of_ble_eq_true rfl⟩) hA hw (fun H locs hw => ?_)
  refine lv_icmp_lt (tgt := 25) hx hb dX6_ofMachine_12 (by decide) (fun _ => ?_) (fun c9 => absurd ((nI_ltI (a := j) (b := 2) (by omega) (by omega)).mpr (by omega)) c9)
  refine lv_iload_n hx hb dX6_ofMachine_25 rfl (lv_at hl 2 rfl) ?_
  refine lv_iconst (v := 0) hx hb dX6_ofMachine_26 (by decide) ?_
  refine lv_iconst (v := 4) hx hb dX6_ofMachine_27 (by decide) ?_
  refine tg_callRi (va_runS (As := [.int 1, .int 0, .int 4]) (rest := []) (Ts := []) ⟨hx, hb, hml, hown, fun _ h9 => absurd h9 List.not_mem_nil⟩ (lf_isOutside l E _ G 1 0 4 (by decide) (by decide)) (rc_cwS hAm qw_269 qw_1 qw_271 qw_270 rfl rfl hd_X6_isOutside ⟨Nat.le_of_ble_eq_true rfl, Nat.le_of_ble_eq_true rfl⟩) (tg_preS hAm hA hw) rfl rfl hl.1 rfl (lv_room (Nat.le_of_ble_eq_true rfl)) dX6_ofMachine_28 ⟨Nat.le_of_ble_eq_true rfl, Nat.le_of_ble_eq_true rfl⟩) hA hw (fun H locs hw => ?_)
  refine lv_if_eq (tgt := 44) hx hb dX6_ofMachine_31 (by decide) (fun _ => ?_) (fun c9 => absurd (by decide) c9)
  refine lv_aload_n hx hb dX6_ofMachine_44 rfl (lv_at hl 0 rfl) ?_
  refine lv_aload_n hx hb dX6_ofMachine_45 rfl (lv_at hl 0 rfl) ?_
  refine tg_get (v := .ref (ad 9)) hx hb hown hAm hw lyX6 hco rfl 0 (by decide) qw_225 (fun _ h9 => h9) rfl dX6_ofMachine_46 ?_
  refine lv_iload_n hx hb dX6_ofMachine_49 rfl (lv_at hl 1 rfl) ?_
  refine tg_callRr (va_runV (As := [.int (nI j)]) (rest := [.ref (ad 8)]) (Ts := []) ⟨hx, hb, hml, hown, fun _ h9 => absurd h9 List.not_mem_nil⟩ (lf_get l E _ G (k := j) (n := 2) (y := ad (32 + j)) (by omega) (by omega) (by omega) (hfm j (by omega)) hlm hrm) (rc_cwV hAm qw_436 qw_4 qw_439 qw_437 qw_438 rfl rfl hd_Jx4a65c_get_915e3 ⟨Nat.le_of_ble_eq_true rfl, Nat.le_of_ble_eq_true rfl⟩) (tg_preV hAm hA hw hlm (q := vwCl[0]) rfl) rfl rfl hl.1 rfl (lv_room (Nat.le_of_ble_eq_true rfl)) dX6_ofMachine_50 ⟨Nat.le_of_ble_eq_true rfl, Nat.le_of_ble_eq_true rfl⟩) hA hw (fun H locs hw => ?_)
  refine tg_castS (C := RX3) hx hb hown hAm hw qw_363 hm_j rfl dX6_ofMachine_53 ?_
  refine lv_iload_n hx hb dX6_ofMachine_56 rfl (lv_at hl 2 rfl) ?_
  refine tg_callRi (va_runV (As := [.ref (ad (32 + j)), .int 1]) (rest := []) (Ts := []) ⟨hx, hb, hml, hown, fun _ h9 => absurd h9 List.not_mem_nil⟩ (co_machineFact1 l E _ ad v G hI j (by omega)) (rc_cwV hAm qw_547 qw_1 qw_550 qw_549 qs_29 rfl rfl hd_X6_machineFact ⟨Nat.le_of_ble_eq_true rfl, Nat.le_of_ble_eq_true rfl⟩) (tg_preV hAm hA hw hco (q := vwCl[7]) rfl) rfl rfl hl.1 rfl (lv_room (Nat.le_of_ble_eq_true rfl)) dX6_ofMachine_57 ⟨Nat.le_of_ble_eq_true rfl, Nat.le_of_ble_eq_true rfl⟩) hA hw (fun H locs hw => ?_)
  exact tg_iret hx hb hr hlocks hw (⟨rfl, rfl⟩) (Nat.le_of_ble_eq_true rfl) (Nat.le_of_ble_eq_true rfl) dX6_ofMachine_60
set_option maxHeartbeats 4000000 in
set_option maxRecDepth 100000 in
theorem pu_ofMachine2 (l : Launch) (E : rc_E) (sz : Nat) (ad : Nat → Nat) (v : av_V) (G : tg_G) (hI : ssH E ad v G) (j : Nat) (hj : j < 2) : tg_M l yX6_ofMachine [Cond.code yX6_ofMachine cX6_ofMachine 3 (some FieldType.int)] { frames := 3, cells := 0, slots := 0, locals := 64 } E [.ref (ad 8), .int (nI j), .int 2] G sz (tg_Qi E (fun r u => r = vMI v j 7 ∧ u = G)) 0 0 := by
  refine tg_in (cc := cX6_ofMachine) (maxL := 3) (ret := (some FieldType.int)) (tg_Qi E (fun r u => r = vMI v j 7 ∧ u = G)) (by decide) rfl (Nat.le_of_ble_eq_true rfl) ?_
  intro p e s m args below meth cd ls A hx hb hr hml hown hlocks hin hA hAm hw hl
  have hown : s.vm.findClass RX6 = some m.cls := hown
  have hl : lv_has ls 3 [(0, .ref (ad 8)), (1, .int (nI j)), (2, .int 2)] := hl
  obtain ⟨h0, hco, ⟨hLm, hLc, hLr⟩, hbi, hma, hch, hru⟩ := id hI
  have hn60 := h0.1
  obtain ⟨mcm, lam, capm, fm, hlm, hrm, hpm, hqm, hfm⟩ := ltH.pos hLm (by decide)
  have hm_j : G (32 + j) = some (ad (32 + j), .inr (4, [.int (nI j), .int (nI (vMN v j 1)), .int (nI (vMN v j 2)), .int (vMI v j 3), .int (vMI v j 4), .int (vMI v j 5), .int (nI (vMN v j 6)), .int (vMI v j 7)])) := hma j (by omega)
  refine lv_iload_n hx hb dX6_ofMachine_0 rfl (lv_at hl 1 rfl) ?_
  refine lv_if_lt (tgt := 15) hx hb dX6_ofMachine_1 (by decide) (fun c9 => absurd c9 (fun z9 => absurd ((nI_ltI (a := j) (b := 0) (by omega) (by omega)).mp z9) (by omega))) (fun _ => ?_)
  refine lv_iload_n hx hb dX6_ofMachine_4 rfl (lv_at hl 1 rfl) ?_
  refine lv_aload_n hx hb dX6_ofMachine_5 rfl (lv_at hl 0 rfl) ?_
  refine tg_get (v := .ref (ad 9)) hx hb hown hAm hw lyX6 hco rfl 0 (by decide) qw_225 (fun _ h9 => h9) rfl dX6_ofMachine_6 ?_
  refine tg_callRi (va_runV (As := []) (rest := [.int (nI j)]) (Ts := []) ⟨hx, hb, hml, hown, fun _ h9 => absurd h9 List.not_mem_nil⟩ (lf_size l E _ G (n := 2) hlm) (rc_cwV hAm qw_343 qw_4 qw_346 qw_344 qw_345 rfl rfl hd_Jx4a65c_size_8abf5 ⟨Nat.le_of_ble_eq_true rfl, Nat.le_of_ble_eq_true rfl⟩) (tg_preV hAm hA hw hlm (q := vwCl[0]) rfl) rfl rfl hl.1 rfl (lv_room (Nat.le_of_ble_eq_true rfl)) dX6_ofMachine_9 ⟨Nat.le_of_ble_eq_true rfl, Nat.le_of_ble_eq_true rfl⟩) hA hw (fun H locs hw => ?_)
  refine lv_icmp_lt (tgt := 25) hx hb dX6_ofMachine_12 (by decide) (fun _ => ?_) (fun c9 => absurd ((nI_ltI (a := j) (b := 2) (by omega) (by omega)).mpr (by omega)) c9)
  refine lv_iload_n hx hb dX6_ofMachine_25 rfl (lv_at hl 2 rfl) ?_
  refine lv_iconst (v := 0) hx hb dX6_ofMachine_26 (by decide) ?_
  refine lv_iconst (v := 4) hx hb dX6_ofMachine_27 (by decide) ?_
  refine tg_callRi (va_runS (As := [.int 2, .int 0, .int 4]) (rest := []) (Ts := []) ⟨hx, hb, hml, hown, fun _ h9 => absurd h9 List.not_mem_nil⟩ (lf_isOutside l E _ G 2 0 4 (by decide) (by decide)) (rc_cwS hAm qw_269 qw_1 qw_271 qw_270 rfl rfl hd_X6_isOutside ⟨Nat.le_of_ble_eq_true rfl, Nat.le_of_ble_eq_true rfl⟩) (tg_preS hAm hA hw) rfl rfl hl.1 rfl (lv_room (Nat.le_of_ble_eq_true rfl)) dX6_ofMachine_28 ⟨Nat.le_of_ble_eq_true rfl, Nat.le_of_ble_eq_true rfl⟩) hA hw (fun H locs hw => ?_)
  refine lv_if_eq (tgt := 44) hx hb dX6_ofMachine_31 (by decide) (fun _ => ?_) (fun c9 => absurd (by decide) c9)
  refine lv_aload_n hx hb dX6_ofMachine_44 rfl (lv_at hl 0 rfl) ?_
  refine lv_aload_n hx hb dX6_ofMachine_45 rfl (lv_at hl 0 rfl) ?_
  refine tg_get (v := .ref (ad 9)) hx hb hown hAm hw lyX6 hco rfl 0 (by decide) qw_225 (fun _ h9 => h9) rfl dX6_ofMachine_46 ?_
  refine lv_iload_n hx hb dX6_ofMachine_49 rfl (lv_at hl 1 rfl) ?_
  refine tg_callRr (va_runV (As := [.int (nI j)]) (rest := [.ref (ad 8)]) (Ts := []) ⟨hx, hb, hml, hown, fun _ h9 => absurd h9 List.not_mem_nil⟩ (lf_get l E _ G (k := j) (n := 2) (y := ad (32 + j)) (by omega) (by omega) (by omega) (hfm j (by omega)) hlm hrm) (rc_cwV hAm qw_436 qw_4 qw_439 qw_437 qw_438 rfl rfl hd_Jx4a65c_get_915e3 ⟨Nat.le_of_ble_eq_true rfl, Nat.le_of_ble_eq_true rfl⟩) (tg_preV hAm hA hw hlm (q := vwCl[0]) rfl) rfl rfl hl.1 rfl (lv_room (Nat.le_of_ble_eq_true rfl)) dX6_ofMachine_50 ⟨Nat.le_of_ble_eq_true rfl, Nat.le_of_ble_eq_true rfl⟩) hA hw (fun H locs hw => ?_)
  refine tg_castS (C := RX3) hx hb hown hAm hw qw_363 hm_j rfl dX6_ofMachine_53 ?_
  refine lv_iload_n hx hb dX6_ofMachine_56 rfl (lv_at hl 2 rfl) ?_
  refine tg_callRi (va_runV (As := [.ref (ad (32 + j)), .int 2]) (rest := []) (Ts := []) ⟨hx, hb, hml, hown, fun _ h9 => absurd h9 List.not_mem_nil⟩ (co_machineFact2 l E _ ad v G hI j (by omega)) (rc_cwV hAm qw_547 qw_1 qw_550 qw_549 qs_29 rfl rfl hd_X6_machineFact ⟨Nat.le_of_ble_eq_true rfl, Nat.le_of_ble_eq_true rfl⟩) (tg_preV hAm hA hw hco (q := vwCl[7]) rfl) rfl rfl hl.1 rfl (lv_room (Nat.le_of_ble_eq_true rfl)) dX6_ofMachine_57 ⟨Nat.le_of_ble_eq_true rfl, Nat.le_of_ble_eq_true rfl⟩) hA hw (fun H locs hw => ?_)
  exact tg_iret hx hb hr hlocks hw (⟨rfl, rfl⟩) (Nat.le_of_ble_eq_true rfl) (Nat.le_of_ble_eq_true rfl) dX6_ofMachine_60
set_option maxHeartbeats 4000000 in
set_option maxRecDepth 100000 in
theorem pu_ofMachine3 (l : Launch) (E : rc_E) (sz : Nat) (ad : Nat → Nat) (v : av_V) (G : tg_G) (hI : ssH E ad v G) (j : Nat) (hj : j < 2) : tg_M l yX6_ofMachine [Cond.code yX6_ofMachine cX6_ofMachine 3 (some FieldType.int)] { frames := 3, cells := 0, slots := 0, locals := 64 } E [.ref (ad 8), .int (nI j), .int 3] G sz (tg_Qi E (fun r u => r = nI (vMN v j 6) ∧ u = G)) 0 0 := by
  refine tg_in (cc := cX6_ofMachine) (maxL := 3) (ret := (some FieldType.int)) (tg_Qi E (fun r u => r = nI (vMN v j 6) ∧ u = G)) (by decide) rfl (Nat.le_of_ble_eq_true rfl) ?_
  intro p e s m args below meth cd ls A hx hb hr hml hown hlocks hin hA hAm hw hl
  have hown : s.vm.findClass RX6 = some m.cls := hown
  have hl : lv_has ls 3 [(0, .ref (ad 8)), (1, .int (nI j)), (2, .int 3)] := hl
  obtain ⟨h0, hco, ⟨hLm, hLc, hLr⟩, hbi, hma, hch, hru⟩ := id hI
  have hn60 := h0.1
  obtain ⟨mcm, lam, capm, fm, hlm, hrm, hpm, hqm, hfm⟩ := ltH.pos hLm (by decide)
  have hm_j : G (32 + j) = some (ad (32 + j), .inr (4, [.int (nI j), .int (nI (vMN v j 1)), .int (nI (vMN v j 2)), .int (vMI v j 3), .int (vMI v j 4), .int (vMI v j 5), .int (nI (vMN v j 6)), .int (vMI v j 7)])) := hma j (by omega)
  refine lv_iload_n hx hb dX6_ofMachine_0 rfl (lv_at hl 1 rfl) ?_
  refine lv_if_lt (tgt := 15) hx hb dX6_ofMachine_1 (by decide) (fun c9 => absurd c9 (fun z9 => absurd ((nI_ltI (a := j) (b := 0) (by omega) (by omega)).mp z9) (by omega))) (fun _ => ?_)
  refine lv_iload_n hx hb dX6_ofMachine_4 rfl (lv_at hl 1 rfl) ?_
  refine lv_aload_n hx hb dX6_ofMachine_5 rfl (lv_at hl 0 rfl) ?_
  refine tg_get (v := .ref (ad 9)) hx hb hown hAm hw lyX6 hco rfl 0 (by decide) qw_225 (fun _ h9 => h9) rfl dX6_ofMachine_6 ?_
  refine tg_callRi (va_runV (As := []) (rest := [.int (nI j)]) (Ts := []) ⟨hx, hb, hml, hown, fun _ h9 => absurd h9 List.not_mem_nil⟩ (lf_size l E _ G (n := 2) hlm) (rc_cwV hAm qw_343 qw_4 qw_346 qw_344 qw_345 rfl rfl hd_Jx4a65c_size_8abf5 ⟨Nat.le_of_ble_eq_true rfl, Nat.le_of_ble_eq_true rfl⟩) (tg_preV hAm hA hw hlm (q := vwCl[0]) rfl) rfl rfl hl.1 rfl (lv_room (Nat.le_of_ble_eq_true rfl)) dX6_ofMachine_9 ⟨Nat.le_of_ble_eq_true rfl, Nat.le_of_ble_eq_true rfl⟩) hA hw (fun H locs hw => ?_)
  refine lv_icmp_lt (tgt := 25) hx hb dX6_ofMachine_12 (by decide) (fun _ => ?_) (fun c9 => absurd ((nI_ltI (a := j) (b := 2) (by omega) (by omega)).mpr (by omega)) c9)
  refine lv_iload_n hx hb dX6_ofMachine_25 rfl (lv_at hl 2 rfl) ?_
  refine lv_iconst (v := 0) hx hb dX6_ofMachine_26 (by decide) ?_
  refine lv_iconst (v := 4) hx hb dX6_ofMachine_27 (by decide) ?_
  refine tg_callRi (va_runS (As := [.int 3, .int 0, .int 4]) (rest := []) (Ts := []) ⟨hx, hb, hml, hown, fun _ h9 => absurd h9 List.not_mem_nil⟩ (lf_isOutside l E _ G 3 0 4 (by decide) (by decide)) (rc_cwS hAm qw_269 qw_1 qw_271 qw_270 rfl rfl hd_X6_isOutside ⟨Nat.le_of_ble_eq_true rfl, Nat.le_of_ble_eq_true rfl⟩) (tg_preS hAm hA hw) rfl rfl hl.1 rfl (lv_room (Nat.le_of_ble_eq_true rfl)) dX6_ofMachine_28 ⟨Nat.le_of_ble_eq_true rfl, Nat.le_of_ble_eq_true rfl⟩) hA hw (fun H locs hw => ?_)
  refine lv_if_eq (tgt := 44) hx hb dX6_ofMachine_31 (by decide) (fun _ => ?_) (fun c9 => absurd (by decide) c9)
  refine lv_aload_n hx hb dX6_ofMachine_44 rfl (lv_at hl 0 rfl) ?_
  refine lv_aload_n hx hb dX6_ofMachine_45 rfl (lv_at hl 0 rfl) ?_
  refine tg_get (v := .ref (ad 9)) hx hb hown hAm hw lyX6 hco rfl 0 (by decide) qw_225 (fun _ h9 => h9) rfl dX6_ofMachine_46 ?_
  refine lv_iload_n hx hb dX6_ofMachine_49 rfl (lv_at hl 1 rfl) ?_
  refine tg_callRr (va_runV (As := [.int (nI j)]) (rest := [.ref (ad 8)]) (Ts := []) ⟨hx, hb, hml, hown, fun _ h9 => absurd h9 List.not_mem_nil⟩ (lf_get l E _ G (k := j) (n := 2) (y := ad (32 + j)) (by omega) (by omega) (by omega) (hfm j (by omega)) hlm hrm) (rc_cwV hAm qw_436 qw_4 qw_439 qw_437 qw_438 rfl rfl hd_Jx4a65c_get_915e3 ⟨Nat.le_of_ble_eq_true rfl, Nat.le_of_ble_eq_true rfl⟩) (tg_preV hAm hA hw hlm (q := vwCl[0]) rfl) rfl rfl hl.1 rfl (lv_room (Nat.le_of_ble_eq_true rfl)) dX6_ofMachine_50 ⟨Nat.le_of_ble_eq_true rfl, Nat.le_of_ble_eq_true rfl⟩) hA hw (fun H locs hw => ?_)
  refine tg_castS (C := RX3) hx hb hown hAm hw qw_363 hm_j rfl dX6_ofMachine_53 ?_
  refine lv_iload_n hx hb dX6_ofMachine_56 rfl (lv_at hl 2 rfl) ?_
  refine tg_callRi (va_runV (As := [.ref (ad (32 + j)), .int 3]) (rest := []) (Ts := []) ⟨hx, hb, hml, hown, fun _ h9 => absurd h9 List.not_mem_nil⟩ (co_machineFact3 l E _ ad v G hI j (by omega)) (rc_cwV hAm qw_547 qw_1 qw_550 qw_549 qs_29 rfl rfl hd_X6_machineFact ⟨Nat.le_of_ble_eq_true rfl, Nat.le_of_ble_eq_true rfl⟩) (tg_preV hAm hA hw hco (q := vwCl[7]) rfl) rfl rfl hl.1 rfl (lv_room (Nat.le_of_ble_eq_true rfl)) dX6_ofMachine_57 ⟨Nat.le_of_ble_eq_true rfl, Nat.le_of_ble_eq_true rfl⟩) hA hw (fun H locs hw => ?_)
  exact tg_iret hx hb hr hlocks hw (⟨rfl, rfl⟩) (Nat.le_of_ble_eq_true rfl) (Nat.le_of_ble_eq_true rfl) dX6_ofMachine_60
set_option maxHeartbeats 4000000 in
set_option maxRecDepth 100000 in
theorem pu_ofMachine4 (l : Launch) (E : rc_E) (sz : Nat) (ad : Nat → Nat) (v : av_V) (G : tg_G) (hI : ssH E ad v G) (j : Nat) (hj : j < 2) : tg_M l yX6_ofMachine [Cond.code yX6_ofMachine cX6_ofMachine 3 (some FieldType.int)] { frames := 3, cells := 0, slots := 0, locals := 64 } E [.ref (ad 8), .int (nI j), .int 4] G sz (tg_Qi E (fun r u => r = vMI v j 5 ∧ u = G)) 0 0 := by
  refine tg_in (cc := cX6_ofMachine) (maxL := 3) (ret := (some FieldType.int)) (tg_Qi E (fun r u => r = vMI v j 5 ∧ u = G)) (by decide) rfl (Nat.le_of_ble_eq_true rfl) ?_
  intro p e s m args below meth cd ls A hx hb hr hml hown hlocks hin hA hAm hw hl
  have hown : s.vm.findClass RX6 = some m.cls := hown
  have hl : lv_has ls 3 [(0, .ref (ad 8)), (1, .int (nI j)), (2, .int 4)] := hl
  obtain ⟨h0, hco, ⟨hLm, hLc, hLr⟩, hbi, hma, hch, hru⟩ := id hI
  have hn60 := h0.1
  obtain ⟨mcm, lam, capm, fm, hlm, hrm, hpm, hqm, hfm⟩ := ltH.pos hLm (by decide)
  have hm_j : G (32 + j) = some (ad (32 + j), .inr (4, [.int (nI j), .int (nI (vMN v j 1)), .int (nI (vMN v j 2)), .int (vMI v j 3), .int (vMI v j 4), .int (vMI v j 5), .int (nI (vMN v j 6)), .int (vMI v j 7)])) := hma j (by omega)
  refine lv_iload_n hx hb dX6_ofMachine_0 rfl (lv_at hl 1 rfl) ?_
  refine lv_if_lt (tgt := 15) hx hb dX6_ofMachine_1 (by decide) (fun c9 => absurd c9 (fun z9 => absurd ((nI_ltI (a := j) (b := 0) (by omega) (by omega)).mp z9) (by omega))) (fun _ => ?_)
  refine lv_iload_n hx hb dX6_ofMachine_4 rfl (lv_at hl 1 rfl) ?_
  refine lv_aload_n hx hb dX6_ofMachine_5 rfl (lv_at hl 0 rfl) ?_
  refine tg_get (v := .ref (ad 9)) hx hb hown hAm hw lyX6 hco rfl 0 (by decide) qw_225 (fun _ h9 => h9) rfl dX6_ofMachine_6 ?_
  refine tg_callRi (va_runV (As := []) (rest := [.int (nI j)]) (Ts := []) ⟨hx, hb, hml, hown, fun _ h9 => absurd h9 List.not_mem_nil⟩ (lf_size l E _ G (n := 2) hlm) (rc_cwV hAm qw_343 qw_4 qw_346 qw_344 qw_345 rfl rfl hd_Jx4a65c_size_8abf5 ⟨Nat.le_of_ble_eq_true rfl, Nat.le_of_ble_eq_true rfl⟩) (tg_preV hAm hA hw hlm (q := vwCl[0]) rfl) rfl rfl hl.1 rfl (lv_room (Nat.le_of_ble_eq_true rfl)) dX6_ofMachine_9 ⟨Nat.le_of_ble_eq_true rfl, Nat.le_of_ble_eq_true rfl⟩) hA hw (fun H locs hw => ?_)
  refine lv_icmp_lt (tgt := 25) hx hb dX6_ofMachine_12 (by decide) (fun _ => ?_) (fun c9 => absurd ((nI_ltI (a := j) (b := 2) (by omega) (by omega)).mpr (by omega)) c9)
  refine lv_iload_n hx hb dX6_ofMachine_25 rfl (lv_at hl 2 rfl) ?_
  refine lv_iconst (v := 0) hx hb dX6_ofMachine_26 (by decide) ?_
  refine lv_iconst (v := 4) hx hb dX6_ofMachine_27 (by decide) ?_
  refine tg_callRi (va_runS (As := [.int 4, .int 0, .int 4]) (rest := []) (Ts := []) ⟨hx, hb, hml, hown, fun _ h9 => absurd h9 List.not_mem_nil⟩ (lf_isOutside l E _ G 4 0 4 (by decide) (by decide)) (rc_cwS hAm qw_269 qw_1 qw_271 qw_270 rfl rfl hd_X6_isOutside ⟨Nat.le_of_ble_eq_true rfl, Nat.le_of_ble_eq_true rfl⟩) (tg_preS hAm hA hw) rfl rfl hl.1 rfl (lv_room (Nat.le_of_ble_eq_true rfl)) dX6_ofMachine_28 ⟨Nat.le_of_ble_eq_true rfl, Nat.le_of_ble_eq_true rfl⟩) hA hw (fun H locs hw => ?_)
  refine lv_if_eq (tgt := 44) hx hb dX6_ofMachine_31 (by decide) (fun _ => ?_) (fun c9 => absurd (by decide) c9)
  refine lv_aload_n hx hb dX6_ofMachine_44 rfl (lv_at hl 0 rfl) ?_
  refine lv_aload_n hx hb dX6_ofMachine_45 rfl (lv_at hl 0 rfl) ?_
  refine tg_get (v := .ref (ad 9)) hx hb hown hAm hw lyX6 hco rfl 0 (by decide) qw_225 (fun _ h9 => h9) rfl dX6_ofMachine_46 ?_
  refine lv_iload_n hx hb dX6_ofMachine_49 rfl (lv_at hl 1 rfl) ?_
  refine tg_callRr (va_runV (As := [.int (nI j)]) (rest := [.ref (ad 8)]) (Ts := []) ⟨hx, hb, hml, hown, fun _ h9 => absurd h9 List.not_mem_nil⟩ (lf_get l E _ G (k := j) (n := 2) (y := ad (32 + j)) (by omega) (by omega) (by omega) (hfm j (by omega)) hlm hrm) (rc_cwV hAm qw_436 qw_4 qw_439 qw_437 qw_438 rfl rfl hd_Jx4a65c_get_915e3 ⟨Nat.le_of_ble_eq_true rfl, Nat.le_of_ble_eq_true rfl⟩) (tg_preV hAm hA hw hlm (q := vwCl[0]) rfl) rfl rfl hl.1 rfl (lv_room (Nat.le_of_ble_eq_true rfl)) dX6_ofMachine_50 ⟨Nat.le_of_ble_eq_true rfl, Nat.le_of_ble_eq_true rfl⟩) hA hw (fun H locs hw => ?_)
  refine tg_castS (C := RX3) hx hb hown hAm hw qw_363 hm_j rfl dX6_ofMachine_53 ?_
  refine lv_iload_n hx hb dX6_ofMachine_56 rfl (lv_at hl 2 rfl) ?_
  refine tg_callRi (va_runV (As := [.ref (ad (32 + j)), .int 4]) (rest := []) (Ts := []) ⟨hx, hb, hml, hown, fun _ h9 => absurd h9 List.not_mem_nil⟩ (co_machineFact4 l E _ ad v G hI j (by omega)) (rc_cwV hAm qw_547 qw_1 qw_550 qw_549 qs_29 rfl rfl hd_X6_machineFact ⟨Nat.le_of_ble_eq_true rfl, Nat.le_of_ble_eq_true rfl⟩) (tg_preV hAm hA hw hco (q := vwCl[7]) rfl) rfl rfl hl.1 rfl (lv_room (Nat.le_of_ble_eq_true rfl)) dX6_ofMachine_57 ⟨Nat.le_of_ble_eq_true rfl, Nat.le_of_ble_eq_true rfl⟩) hA hw (fun H locs hw => ?_)
  exact tg_iret hx hb hr hlocks hw (⟨rfl, rfl⟩) (Nat.le_of_ble_eq_true rfl) (Nat.le_of_ble_eq_true rfl) dX6_ofMachine_60
theorem hd_X6_runFact : yX6_runFact.cls ≠ "java/lang/invoke/MethodHandle" ∧ yX6_runFact.cls ≠ "java/lang/invoke/VarHandle" ∧ (parseMethodDescriptor yX6_runFact.desc).map (fun d => d.parameters.length) = some 2 := by decide +kernel
set_option maxHeartbeats 4000000 in
set_option maxRecDepth 100000 in
theorem pu_ofRun0 (l : Launch) (E : rc_E) (sz : Nat) (ad : Nat → Nat) (v : av_V) (G : tg_G) (hI : ssH E ad v G) (k : Nat) (hk : k < vn v) : tg_M l yX6_ofRun [Cond.code yX6_ofRun cX6_ofRun 3 (some FieldType.int)] { frames := 3, cells := 0, slots := 0, locals := 64 } E [.ref (ad 8), .int (nI k), .int 0] G sz (tg_Qi E (fun r u => r = nI (vR v k).1 ∧ u = G)) 0 0 := by
  refine tg_in (cc := cX6_ofRun) (maxL := 3) (ret := (some FieldType.int)) (tg_Qi E (fun r u => r = nI (vR v k).1 ∧ u = G)) (by decide) rfl (Nat.le_of_ble_eq_true rfl) ?_
  intro p e s m args below meth cd ls A hx hb hr hml hown hlocks hin hA hAm hw hl
  have hown : s.vm.findClass RX6 = some m.cls := hown
  have hl : lv_has ls 3 [(0, .ref (ad 8)), (1, .int (nI k)), (2, .int 0)] := hl
  obtain ⟨h0, hco, ⟨hLm, hLc, hLr⟩, hbi, hma, hch, hru⟩ := id hI
  have hn60 := h0.1
  obtain ⟨mcr, lar, capr, fr, hlr, hrr, hpr, hqr, hfr⟩ := ltH.pos hLr (by omega)
  obtain ⟨hb1, hb2, hb3⟩ := h0.2.1 k (by omega)
  have hr9 : G (64 + k) = some (ad (64 + k), .inr (5, [.int (nI (vR v k).1), .ref (ad (32 + (vR v k).2.1)), .int (vT v k).1, .int (nI (vR v k).2.2), .int (vT v k).2])) := hru k (by omega)
  have hm9 : G (32 + (vR v k).2.1) = some (ad (32 + (vR v k).2.1), .inr (4, [.int (nI (vR v k).2.1), .int (nI (vMN v (vR v k).2.1 1)), .int (nI (vMN v (vR v k).2.1 2)), .int (vMI v (vR v k).2.1 3), .int (vMI v (vR v k).2.1 4), .int (vMI v (vR v k).2.1 5), .int (nI (vMN v (vR v k).2.1 6)), .int (vMI v (vR v k).2.1 7)])) := hma _ hb2
  refine lv_iload_n hx hb dX6_ofRun_0 rfl (lv_at hl 1 rfl) ?_
  refine lv_if_lt (tgt := 15) hx hb dX6_ofRun_1 (by decide) (fun c9 => absurd c9 (fun z9 => absurd ((nI_ltI (a := k) (b := 0) (by omega) (by omega)).mp z9) (by omega))) (fun _ => ?_)
  refine lv_iload_n hx hb dX6_ofRun_4 rfl (lv_at hl 1 rfl) ?_
  refine lv_aload_n hx hb dX6_ofRun_5 rfl (lv_at hl 0 rfl) ?_
  refine tg_get (v := .ref (ad 13)) hx hb hown hAm hw lyX6 hco rfl 2 (by decide) qw_227 (fun _ h9 => h9) rfl dX6_ofRun_6 ?_
  refine tg_callRi (va_runV (As := []) (rest := [.int (nI k)]) (Ts := []) ⟨hx, hb, hml, hown, fun _ h9 => absurd h9 List.not_mem_nil⟩ (lf_size l E _ G (n := vn v) hlr) (rc_cwV hAm qw_343 qw_4 qw_346 qw_344 qw_345 rfl rfl hd_Jx4a65c_size_8abf5 ⟨Nat.le_of_ble_eq_true rfl, Nat.le_of_ble_eq_true rfl⟩) (tg_preV hAm hA hw hlr (q := vwCl[0]) rfl) rfl rfl hl.1 rfl (lv_room (Nat.le_of_ble_eq_true rfl)) dX6_ofRun_9 ⟨Nat.le_of_ble_eq_true rfl, Nat.le_of_ble_eq_true rfl⟩) hA hw (fun H locs hw => ?_)
  refine lv_icmp_lt (tgt := 25) hx hb dX6_ofRun_12 (by decide) (fun _ => ?_) (fun c9 => absurd ((nI_ltI (a := k) (b := vn v) (by omega) (by omega)).mpr (by omega)) c9)
  refine lv_iload_n hx hb dX6_ofRun_25 rfl (lv_at hl 2 rfl) ?_
  refine lv_iconst (v := 0) hx hb dX6_ofRun_26 (by decide) ?_
  refine lv_iconst (v := 5) hx hb dX6_ofRun_27 (by decide) ?_
  refine tg_callRi (va_runS (As := [.int 0, .int 0, .int 5]) (rest := []) (Ts := []) ⟨hx, hb, hml, hown, fun _ h9 => absurd h9 List.not_mem_nil⟩ (lf_isOutside l E _ G 0 0 5 (by decide) (by decide)) (rc_cwS hAm qw_269 qw_1 qw_271 qw_270 rfl rfl hd_X6_isOutside ⟨Nat.le_of_ble_eq_true rfl, Nat.le_of_ble_eq_true rfl⟩) (tg_preS hAm hA hw) rfl rfl hl.1 rfl (lv_room (Nat.le_of_ble_eq_true rfl)) dX6_ofRun_28 ⟨Nat.le_of_ble_eq_true rfl, Nat.le_of_ble_eq_true rfl⟩) hA hw (fun H locs hw => ?_)
  refine lv_if_eq (tgt := 44) hx hb dX6_ofRun_31 (by decide) (fun _ => ?_) (fun c9 => absurd (by decide) c9)
  refine lv_aload_n hx hb dX6_ofRun_44 rfl (lv_at hl 0 rfl) ?_
  refine lv_aload_n hx hb dX6_ofRun_45 rfl (lv_at hl 0 rfl) ?_
  refine tg_get (v := .ref (ad 13)) hx hb hown hAm hw lyX6 hco rfl 2 (by decide) qw_227 (fun _ h9 => h9) rfl dX6_ofRun_46 ?_
  refine lv_iload_n hx hb dX6_ofRun_49 rfl (lv_at hl 1 rfl) ?_
  refine tg_callRr (va_runV (As := [.int (nI k)]) (rest := [.ref (ad 8)]) (Ts := []) ⟨hx, hb, hml, hown, fun _ h9 => absurd h9 List.not_mem_nil⟩ (lf_get l E _ G (k := k) (n := vn v) (y := ad (64 + k)) (by omega) (by omega) (by omega) (hfr k (by omega)) hlr hrr) (rc_cwV hAm qw_436 qw_4 qw_439 qw_437 qw_438 rfl rfl hd_Jx4a65c_get_915e3 ⟨Nat.le_of_ble_eq_true rfl, Nat.le_of_ble_eq_true rfl⟩) (tg_preV hAm hA hw hlr (q := vwCl[0]) rfl) rfl rfl hl.1 rfl (lv_room (Nat.le_of_ble_eq_true rfl)) dX6_ofRun_50 ⟨Nat.le_of_ble_eq_true rfl, Nat.le_of_ble_eq_true rfl⟩) hA hw (fun H locs hw => ?_)
  refine tg_castS (C := RX4) hx hb hown hAm hw qw_524 hr9 rfl dX6_ofRun_53 ?_
  refine lv_iload_n hx hb dX6_ofRun_56 rfl (lv_at hl 2 rfl) ?_
  refine tg_callRi (va_runV (As := [.ref (ad (64 + k)), .int 0]) (rest := []) (Ts := []) ⟨hx, hb, hml, hown, fun _ h9 => absurd h9 List.not_mem_nil⟩ (co_runFact0 l E _ ad v G hI k (by omega)) (rc_cwV hAm qw_590 qw_1 qw_593 qw_592 qs_38 rfl rfl hd_X6_runFact ⟨Nat.le_of_ble_eq_true rfl, Nat.le_of_ble_eq_true rfl⟩) (tg_preV hAm hA hw hco (q := vwCl[7]) rfl) rfl rfl hl.1 rfl (lv_room (Nat.le_of_ble_eq_true rfl)) dX6_ofRun_57 ⟨Nat.le_of_ble_eq_true rfl, Nat.le_of_ble_eq_true rfl⟩) hA hw (fun H locs hw => ?_)
  exact tg_iret hx hb hr hlocks hw (⟨rfl, rfl⟩) (Nat.le_of_ble_eq_true rfl) (Nat.le_of_ble_eq_true rfl) dX6_ofRun_60
set_option maxHeartbeats 4000000 in
set_option maxRecDepth 100000 in
theorem pu_ofRun1 (l : Launch) (E : rc_E) (sz : Nat) (ad : Nat → Nat) (v : av_V) (G : tg_G) (hI : ssH E ad v G) (k : Nat) (hk : k < vn v) : tg_M l yX6_ofRun [Cond.code yX6_ofRun cX6_ofRun 3 (some FieldType.int)] { frames := 3, cells := 0, slots := 0, locals := 64 } E [.ref (ad 8), .int (nI k), .int 1] G sz (tg_Qi E (fun r u => r = nI (vR v k).2.1 ∧ u = G)) 0 0 := by
  refine tg_in (cc := cX6_ofRun) (maxL := 3) (ret := (some FieldType.int)) (tg_Qi E (fun r u => r = nI (vR v k).2.1 ∧ u = G)) (by decide) rfl (Nat.le_of_ble_eq_true rfl) ?_
  intro p e s m args below meth cd ls A hx hb hr hml hown hlocks hin hA hAm hw hl
  have hown : s.vm.findClass RX6 = some m.cls := hown
  have hl : lv_has ls 3 [(0, .ref (ad 8)), (1, .int (nI k)), (2, .int 1)] := hl
  obtain ⟨h0, hco, ⟨hLm, hLc, hLr⟩, hbi, hma, hch, hru⟩ := id hI
  have hn60 := h0.1
  obtain ⟨mcr, lar, capr, fr, hlr, hrr, hpr, hqr, hfr⟩ := ltH.pos hLr (by omega)
  obtain ⟨hb1, hb2, hb3⟩ := h0.2.1 k (by omega)
  have hr9 : G (64 + k) = some (ad (64 + k), .inr (5, [.int (nI (vR v k).1), .ref (ad (32 + (vR v k).2.1)), .int (vT v k).1, .int (nI (vR v k).2.2), .int (vT v k).2])) := hru k (by omega)
  have hm9 : G (32 + (vR v k).2.1) = some (ad (32 + (vR v k).2.1), .inr (4, [.int (nI (vR v k).2.1), .int (nI (vMN v (vR v k).2.1 1)), .int (nI (vMN v (vR v k).2.1 2)), .int (vMI v (vR v k).2.1 3), .int (vMI v (vR v k).2.1 4), .int (vMI v (vR v k).2.1 5), .int (nI (vMN v (vR v k).2.1 6)), .int (vMI v (vR v k).2.1 7)])) := hma _ hb2
  refine lv_iload_n hx hb dX6_ofRun_0 rfl (lv_at hl 1 rfl) ?_
  refine lv_if_lt (tgt := 15) hx hb dX6_ofRun_1 (by decide) (fun c9 => absurd c9 (fun z9 => absurd ((nI_ltI (a := k) (b := 0) (by omega) (by omega)).mp z9) (by omega))) (fun _ => ?_)
  refine lv_iload_n hx hb dX6_ofRun_4 rfl (lv_at hl 1 rfl) ?_
  refine lv_aload_n hx hb dX6_ofRun_5 rfl (lv_at hl 0 rfl) ?_
  refine tg_get (v := .ref (ad 13)) hx hb hown hAm hw lyX6 hco rfl 2 (by decide) qw_227 (fun _ h9 => h9) rfl dX6_ofRun_6 ?_
  refine tg_callRi (va_runV (As := []) (rest := [.int (nI k)]) (Ts := []) ⟨hx, hb, hml, hown, fun _ h9 => absurd h9 List.not_mem_nil⟩ (lf_size l E _ G (n := vn v) hlr) (rc_cwV hAm qw_343 qw_4 qw_346 qw_344 qw_345 rfl rfl hd_Jx4a65c_size_8abf5 ⟨Nat.le_of_ble_eq_true rfl, Nat.le_of_ble_eq_true rfl⟩) (tg_preV hAm hA hw hlr (q := vwCl[0]) rfl) rfl rfl hl.1 rfl (lv_room (Nat.le_of_ble_eq_true rfl)) dX6_ofRun_9 ⟨Nat.le_of_ble_eq_true rfl, Nat.le_of_ble_eq_true rfl⟩) hA hw (fun H locs hw => ?_)
  refine lv_icmp_lt (tgt := 25) hx hb dX6_ofRun_12 (by decide) (fun _ => ?_) (fun c9 => absurd ((nI_ltI (a := k) (b := vn v) (by omega) (by omega)).mpr (by omega)) c9)
  refine lv_iload_n hx hb dX6_ofRun_25 rfl (lv_at hl 2 rfl) ?_
  refine lv_iconst (v := 0) hx hb dX6_ofRun_26 (by decide) ?_
  refine lv_iconst (v := 5) hx hb dX6_ofRun_27 (by decide) ?_
  refine tg_callRi (va_runS (As := [.int 1, .int 0, .int 5]) (rest := []) (Ts := []) ⟨hx, hb, hml, hown, fun _ h9 => absurd h9 List.not_mem_nil⟩ (lf_isOutside l E _ G 1 0 5 (by decide) (by decide)) (rc_cwS hAm qw_269 qw_1 qw_271 qw_270 rfl rfl hd_X6_isOutside ⟨Nat.le_of_ble_eq_true rfl, Nat.le_of_ble_eq_true rfl⟩) (tg_preS hAm hA hw) rfl rfl hl.1 rfl (lv_room (Nat.le_of_ble_eq_true rfl)) dX6_ofRun_28 ⟨Nat.le_of_ble_eq_true rfl, Nat.le_of_ble_eq_true rfl⟩) hA hw (fun H locs hw => ?_)
  refine lv_if_eq (tgt := 44) hx hb dX6_ofRun_31 (by decide) (fun _ => ?_) (fun c9 => absurd (by decide) c9)
  refine lv_aload_n hx hb dX6_ofRun_44 rfl (lv_at hl 0 rfl) ?_
  refine lv_aload_n hx hb dX6_ofRun_45 rfl (lv_at hl 0 rfl) ?_
  refine tg_get (v := .ref (ad 13)) hx hb hown hAm hw lyX6 hco rfl 2 (by decide) qw_227 (fun _ h9 => h9) rfl dX6_ofRun_46 ?_
  refine lv_iload_n hx hb dX6_ofRun_49 rfl (lv_at hl 1 rfl) ?_
  refine tg_callRr (va_runV (As := [.int (nI k)]) (rest := [.ref (ad 8)]) (Ts := []) ⟨hx, hb, hml, hown, fun _ h9 => absurd h9 List.not_mem_nil⟩ (lf_get l E _ G (k := k) (n := vn v) (y := ad (64 + k)) (by omega) (by omega) (by omega) (hfr k (by omega)) hlr hrr) (rc_cwV hAm qw_436 qw_4 qw_439 qw_437 qw_438 rfl rfl hd_Jx4a65c_get_915e3 ⟨Nat.le_of_ble_eq_true rfl, Nat.le_of_ble_eq_true rfl⟩) (tg_preV hAm hA hw hlr (q := vwCl[0]) rfl) rfl rfl hl.1 rfl (lv_room (Nat.le_of_ble_eq_true rfl)) dX6_ofRun_50 ⟨Nat.le_of_ble_eq_true rfl, Nat.le_of_ble_eq_true rfl⟩) hA hw (fun H locs hw => ?_)
  refine tg_castS (C := RX4) hx hb hown hAm hw qw_524 hr9 rfl dX6_ofRun_53 ?_
  refine lv_iload_n hx hb dX6_ofRun_56 rfl (lv_at hl 2 rfl) ?_
  refine tg_callRi (va_runV (As := [.ref (ad (64 + k)), .int 1]) (rest := []) (Ts := []) ⟨hx, hb, hml, hown, fun _ h9 => absurd h9 List.not_mem_nil⟩ (co_runFact1 l E _ ad v G hI k (by omega)) (rc_cwV hAm qw_590 qw_1 qw_593 qw_592 qs_38 rfl rfl hd_X6_runFact ⟨Nat.le_of_ble_eq_true rfl, Nat.le_of_ble_eq_true rfl⟩) (tg_preV hAm hA hw hco (q := vwCl[7]) rfl) rfl rfl hl.1 rfl (lv_room (Nat.le_of_ble_eq_true rfl)) dX6_ofRun_57 ⟨Nat.le_of_ble_eq_true rfl, Nat.le_of_ble_eq_true rfl⟩) hA hw (fun H locs hw => ?_)
  exact tg_iret hx hb hr hlocks hw (⟨rfl, rfl⟩) (Nat.le_of_ble_eq_true rfl) (Nat.le_of_ble_eq_true rfl) dX6_ofRun_60
set_option maxHeartbeats 4000000 in
set_option maxRecDepth 100000 in
theorem pu_ofRun2 (l : Launch) (E : rc_E) (sz : Nat) (ad : Nat → Nat) (v : av_V) (G : tg_G) (hI : ssH E ad v G) (k : Nat) (hk : k < vn v) : tg_M l yX6_ofRun [Cond.code yX6_ofRun cX6_ofRun 3 (some FieldType.int)] { frames := 3, cells := 0, slots := 0, locals := 64 } E [.ref (ad 8), .int (nI k), .int 2] G sz (tg_Qi E (fun r u => r = (vT v k).1 ∧ u = G)) 0 0 := by
  refine tg_in (cc := cX6_ofRun) (maxL := 3) (ret := (some FieldType.int)) (tg_Qi E (fun r u => r = (vT v k).1 ∧ u = G)) (by decide) rfl (Nat.le_of_ble_eq_true rfl) ?_
  intro p e s m args below meth cd ls A hx hb hr hml hown hlocks hin hA hAm hw hl
  have hown : s.vm.findClass RX6 = some m.cls := hown
  have hl : lv_has ls 3 [(0, .ref (ad 8)), (1, .int (nI k)), (2, .int 2)] := hl
  obtain ⟨h0, hco, ⟨hLm, hLc, hLr⟩, hbi, hma, hch, hru⟩ := id hI
  have hn60 := h0.1
  obtain ⟨mcr, lar, capr, fr, hlr, hrr, hpr, hqr, hfr⟩ := ltH.pos hLr (by omega)
  obtain ⟨hb1, hb2, hb3⟩ := h0.2.1 k (by omega)
  have hr9 : G (64 + k) = some (ad (64 + k), .inr (5, [.int (nI (vR v k).1), .ref (ad (32 + (vR v k).2.1)), .int (vT v k).1, .int (nI (vR v k).2.2), .int (vT v k).2])) := hru k (by omega)
  have hm9 : G (32 + (vR v k).2.1) = some (ad (32 + (vR v k).2.1), .inr (4, [.int (nI (vR v k).2.1), .int (nI (vMN v (vR v k).2.1 1)), .int (nI (vMN v (vR v k).2.1 2)), .int (vMI v (vR v k).2.1 3), .int (vMI v (vR v k).2.1 4), .int (vMI v (vR v k).2.1 5), .int (nI (vMN v (vR v k).2.1 6)), .int (vMI v (vR v k).2.1 7)])) := hma _ hb2
  refine lv_iload_n hx hb dX6_ofRun_0 rfl (lv_at hl 1 rfl) ?_
  refine lv_if_lt (tgt := 15) hx hb dX6_ofRun_1 (by decide) (fun c9 => absurd c9 (fun z9 => absurd ((nI_ltI (a := k) (b := 0) (by omega) (by omega)).mp z9) (by omega))) (fun _ => ?_)
  refine lv_iload_n hx hb dX6_ofRun_4 rfl (lv_at hl 1 rfl) ?_
  refine lv_aload_n hx hb dX6_ofRun_5 rfl (lv_at hl 0 rfl) ?_
  refine tg_get (v := .ref (ad 13)) hx hb hown hAm hw lyX6 hco rfl 2 (by decide) qw_227 (fun _ h9 => h9) rfl dX6_ofRun_6 ?_
  refine tg_callRi (va_runV (As := []) (rest := [.int (nI k)]) (Ts := []) ⟨hx, hb, hml, hown, fun _ h9 => absurd h9 List.not_mem_nil⟩ (lf_size l E _ G (n := vn v) hlr) (rc_cwV hAm qw_343 qw_4 qw_346 qw_344 qw_345 rfl rfl hd_Jx4a65c_size_8abf5 ⟨Nat.le_of_ble_eq_true rfl, Nat.le_of_ble_eq_true rfl⟩) (tg_preV hAm hA hw hlr (q := vwCl[0]) rfl) rfl rfl hl.1 rfl (lv_room (Nat.le_of_ble_eq_true rfl)) dX6_ofRun_9 ⟨Nat.le_of_ble_eq_true rfl, Nat.le_of_ble_eq_true rfl⟩) hA hw (fun H locs hw => ?_)
  refine lv_icmp_lt (tgt := 25) hx hb dX6_ofRun_12 (by decide) (fun _ => ?_) (fun c9 => absurd ((nI_ltI (a := k) (b := vn v) (by omega) (by omega)).mpr (by omega)) c9)
  refine lv_iload_n hx hb dX6_ofRun_25 rfl (lv_at hl 2 rfl) ?_
  refine lv_iconst (v := 0) hx hb dX6_ofRun_26 (by decide) ?_
  refine lv_iconst (v := 5) hx hb dX6_ofRun_27 (by decide) ?_
  refine tg_callRi (va_runS (As := [.int 2, .int 0, .int 5]) (rest := []) (Ts := []) ⟨hx, hb, hml, hown, fun _ h9 => absurd h9 List.not_mem_nil⟩ (lf_isOutside l E _ G 2 0 5 (by decide) (by decide)) (rc_cwS hAm qw_269 qw_1 qw_271 qw_270 rfl rfl hd_X6_isOutside ⟨Nat.le_of_ble_eq_true rfl, Nat.le_of_ble_eq_true rfl⟩) (tg_preS hAm hA hw) rfl rfl hl.1 rfl (lv_room (Nat.le_of_ble_eq_true rfl)) dX6_ofRun_28 ⟨Nat.le_of_ble_eq_true rfl, Nat.le_of_ble_eq_true rfl⟩) hA hw (fun H locs hw => ?_)
  refine lv_if_eq (tgt := 44) hx hb dX6_ofRun_31 (by decide) (fun _ => ?_) (fun c9 => absurd (by decide) c9)
  refine lv_aload_n hx hb dX6_ofRun_44 rfl (lv_at hl 0 rfl) ?_
  refine lv_aload_n hx hb dX6_ofRun_45 rfl (lv_at hl 0 rfl) ?_
  refine tg_get (v := .ref (ad 13)) hx hb hown hAm hw lyX6 hco rfl 2 (by decide) qw_227 (fun _ h9 => h9) rfl dX6_ofRun_46 ?_
  refine lv_iload_n hx hb dX6_ofRun_49 rfl (lv_at hl 1 rfl) ?_
  refine tg_callRr (va_runV (As := [.int (nI k)]) (rest := [.ref (ad 8)]) (Ts := []) ⟨hx, hb, hml, hown, fun _ h9 => absurd h9 List.not_mem_nil⟩ (lf_get l E _ G (k := k) (n := vn v) (y := ad (64 + k)) (by omega) (by omega) (by omega) (hfr k (by omega)) hlr hrr) (rc_cwV hAm qw_436 qw_4 qw_439 qw_437 qw_438 rfl rfl hd_Jx4a65c_get_915e3 ⟨Nat.le_of_ble_eq_true rfl, Nat.le_of_ble_eq_true rfl⟩) (tg_preV hAm hA hw hlr (q := vwCl[0]) rfl) rfl rfl hl.1 rfl (lv_room (Nat.le_of_ble_eq_true rfl)) dX6_ofRun_50 ⟨Nat.le_of_ble_eq_true rfl, Nat.le_of_ble_eq_true rfl⟩) hA hw (fun H locs hw => ?_)
  refine tg_castS (C := RX4) hx hb hown hAm hw qw_524 hr9 rfl dX6_ofRun_53 ?_
  refine lv_iload_n hx hb dX6_ofRun_56 rfl (lv_at hl 2 rfl) ?_
  refine tg_callRi (va_runV (As := [.ref (ad (64 + k)), .int 2]) (rest := []) (Ts := []) ⟨hx, hb, hml, hown, fun _ h9 => absurd h9 List.not_mem_nil⟩ (co_runFact2 l E _ ad v G hI k (by omega)) (rc_cwV hAm qw_590 qw_1 qw_593 qw_592 qs_38 rfl rfl hd_X6_runFact ⟨Nat.le_of_ble_eq_true rfl, Nat.le_of_ble_eq_true rfl⟩) (tg_preV hAm hA hw hco (q := vwCl[7]) rfl) rfl rfl hl.1 rfl (lv_room (Nat.le_of_ble_eq_true rfl)) dX6_ofRun_57 ⟨Nat.le_of_ble_eq_true rfl, Nat.le_of_ble_eq_true rfl⟩) hA hw (fun H locs hw => ?_)
  exact tg_iret hx hb hr hlocks hw (⟨rfl, rfl⟩) (Nat.le_of_ble_eq_true rfl) (Nat.le_of_ble_eq_true rfl) dX6_ofRun_60
set_option maxHeartbeats 4000000 in
set_option maxRecDepth 100000 in
theorem pu_ofRun3 (l : Launch) (E : rc_E) (sz : Nat) (ad : Nat → Nat) (v : av_V) (G : tg_G) (hI : ssH E ad v G) (k : Nat) (hk : k < vn v) : tg_M l yX6_ofRun [Cond.code yX6_ofRun cX6_ofRun 3 (some FieldType.int)] { frames := 3, cells := 0, slots := 0, locals := 64 } E [.ref (ad 8), .int (nI k), .int 3] G sz (tg_Qi E (fun r u => r = nI (vR v k).2.2 ∧ u = G)) 0 0 := by
  refine tg_in (cc := cX6_ofRun) (maxL := 3) (ret := (some FieldType.int)) (tg_Qi E (fun r u => r = nI (vR v k).2.2 ∧ u = G)) (by decide) rfl (Nat.le_of_ble_eq_true rfl) ?_
  intro p e s m args below meth cd ls A hx hb hr hml hown hlocks hin hA hAm hw hl
  have hown : s.vm.findClass RX6 = some m.cls := hown
  have hl : lv_has ls 3 [(0, .ref (ad 8)), (1, .int (nI k)), (2, .int 3)] := hl
  obtain ⟨h0, hco, ⟨hLm, hLc, hLr⟩, hbi, hma, hch, hru⟩ := id hI
  have hn60 := h0.1
  obtain ⟨mcr, lar, capr, fr, hlr, hrr, hpr, hqr, hfr⟩ := ltH.pos hLr (by omega)
  obtain ⟨hb1, hb2, hb3⟩ := h0.2.1 k (by omega)
  have hr9 : G (64 + k) = some (ad (64 + k), .inr (5, [.int (nI (vR v k).1), .ref (ad (32 + (vR v k).2.1)), .int (vT v k).1, .int (nI (vR v k).2.2), .int (vT v k).2])) := hru k (by omega)
  have hm9 : G (32 + (vR v k).2.1) = some (ad (32 + (vR v k).2.1), .inr (4, [.int (nI (vR v k).2.1), .int (nI (vMN v (vR v k).2.1 1)), .int (nI (vMN v (vR v k).2.1 2)), .int (vMI v (vR v k).2.1 3), .int (vMI v (vR v k).2.1 4), .int (vMI v (vR v k).2.1 5), .int (nI (vMN v (vR v k).2.1 6)), .int (vMI v (vR v k).2.1 7)])) := hma _ hb2
  refine lv_iload_n hx hb dX6_ofRun_0 rfl (lv_at hl 1 rfl) ?_
  refine lv_if_lt (tgt := 15) hx hb dX6_ofRun_1 (by decide) (fun c9 => absurd c9 (fun z9 => absurd ((nI_ltI (a := k) (b := 0) (by omega) (by omega)).mp z9) (by omega))) (fun _ => ?_)
  refine lv_iload_n hx hb dX6_ofRun_4 rfl (lv_at hl 1 rfl) ?_
  refine lv_aload_n hx hb dX6_ofRun_5 rfl (lv_at hl 0 rfl) ?_
  refine tg_get (v := .ref (ad 13)) hx hb hown hAm hw lyX6 hco rfl 2 (by decide) qw_227 (fun _ h9 => h9) rfl dX6_ofRun_6 ?_
  refine tg_callRi (va_runV (As := []) (rest := [.int (nI k)]) (Ts := []) ⟨hx, hb, hml, hown, fun _ h9 => absurd h9 List.not_mem_nil⟩ (lf_size l E _ G (n := vn v) hlr) (rc_cwV hAm qw_343 qw_4 qw_346 qw_344 qw_345 rfl rfl hd_Jx4a65c_size_8abf5 ⟨Nat.le_of_ble_eq_true rfl, Nat.le_of_ble_eq_true rfl⟩) (tg_preV hAm hA hw hlr (q := vwCl[0]) rfl) rfl rfl hl.1 rfl (lv_room (Nat.le_of_ble_eq_true rfl)) dX6_ofRun_9 ⟨Nat.le_of_ble_eq_true rfl, Nat.le_of_ble_eq_true rfl⟩) hA hw (fun H locs hw => ?_)
  refine lv_icmp_lt (tgt := 25) hx hb dX6_ofRun_12 (by decide) (fun _ => ?_) (fun c9 => absurd ((nI_ltI (a := k) (b := vn v) (by omega) (by omega)).mpr (by omega)) c9)
  refine lv_iload_n hx hb dX6_ofRun_25 rfl (lv_at hl 2 rfl) ?_
  refine lv_iconst (v := 0) hx hb dX6_ofRun_26 (by decide) ?_
  refine lv_iconst (v := 5) hx hb dX6_ofRun_27 (by decide) ?_
  refine tg_callRi (va_runS (As := [.int 3, .int 0, .int 5]) (rest := []) (Ts := []) ⟨hx, hb, hml, hown, fun _ h9 => absurd h9 List.not_mem_nil⟩ (lf_isOutside l E _ G 3 0 5 (by decide) (by decide)) (rc_cwS hAm qw_269 qw_1 qw_271 qw_270 rfl rfl hd_X6_isOutside ⟨Nat.le_of_ble_eq_true rfl, Nat.le_of_ble_eq_true rfl⟩) (tg_preS hAm hA hw) rfl rfl hl.1 rfl (lv_room (Nat.le_of_ble_eq_true rfl)) dX6_ofRun_28 ⟨Nat.le_of_ble_eq_true rfl, Nat.le_of_ble_eq_true rfl⟩) hA hw (fun H locs hw => ?_)
  refine lv_if_eq (tgt := 44) hx hb dX6_ofRun_31 (by decide) (fun _ => ?_) (fun c9 => absurd (by decide) c9)
  refine lv_aload_n hx hb dX6_ofRun_44 rfl (lv_at hl 0 rfl) ?_
  refine lv_aload_n hx hb dX6_ofRun_45 rfl (lv_at hl 0 rfl) ?_
  refine tg_get (v := .ref (ad 13)) hx hb hown hAm hw lyX6 hco rfl 2 (by decide) qw_227 (fun _ h9 => h9) rfl dX6_ofRun_46 ?_
  refine lv_iload_n hx hb dX6_ofRun_49 rfl (lv_at hl 1 rfl) ?_
  refine tg_callRr (va_runV (As := [.int (nI k)]) (rest := [.ref (ad 8)]) (Ts := []) ⟨hx, hb, hml, hown, fun _ h9 => absurd h9 List.not_mem_nil⟩ (lf_get l E _ G (k := k) (n := vn v) (y := ad (64 + k)) (by omega) (by omega) (by omega) (hfr k (by omega)) hlr hrr) (rc_cwV hAm qw_436 qw_4 qw_439 qw_437 qw_438 rfl rfl hd_Jx4a65c_get_915e3 ⟨Nat.le_of_ble_eq_true rfl, Nat.le_of_ble_eq_true rfl⟩) (tg_preV hAm hA hw hlr (q := vwCl[0]) rfl) rfl rfl hl.1 rfl (lv_room (Nat.le_of_ble_eq_true rfl)) dX6_ofRun_50 ⟨Nat.le_of_ble_eq_true rfl, Nat.le_of_ble_eq_true rfl⟩) hA hw (fun H locs hw => ?_)
  refine tg_castS (C := RX4) hx hb hown hAm hw qw_524 hr9 rfl dX6_ofRun_53 ?_
  refine lv_iload_n hx hb dX6_ofRun_56 rfl (lv_at hl 2 rfl) ?_
  refine tg_callRi (va_runV (As := [.ref (ad (64 + k)), .int 3]) (rest := []) (Ts := []) ⟨hx, hb, hml, hown, fun _ h9 => absurd h9 List.not_mem_nil⟩ (co_runFact3 l E _ ad v G hI k (by omega)) (rc_cwV hAm qw_590 qw_1 qw_593 qw_592 qs_38 rfl rfl hd_X6_runFact ⟨Nat.le_of_ble_eq_true rfl, Nat.le_of_ble_eq_true rfl⟩) (tg_preV hAm hA hw hco (q := vwCl[7]) rfl) rfl rfl hl.1 rfl (lv_room (Nat.le_of_ble_eq_true rfl)) dX6_ofRun_57 ⟨Nat.le_of_ble_eq_true rfl, Nat.le_of_ble_eq_true rfl⟩) hA hw (fun H locs hw => ?_)
  exact tg_iret hx hb hr hlocks hw (⟨rfl, rfl⟩) (Nat.le_of_ble_eq_true rfl) (Nat.le_of_ble_eq_true rfl) dX6_ofRun_60
set_option maxHeartbeats 4000000 in
set_option maxRecDepth 100000 in
theorem pu_ofRun4 (l : Launch) (E : rc_E) (sz : Nat) (ad : Nat → Nat) (v : av_V) (G : tg_G) (hI : ssH E ad v G) (k : Nat) (hk : k < vn v) : tg_M l yX6_ofRun [Cond.code yX6_ofRun cX6_ofRun 3 (some FieldType.int)] { frames := 3, cells := 0, slots := 0, locals := 64 } E [.ref (ad 8), .int (nI k), .int 4] G sz (tg_Qi E (fun r u => r = nI (cK v k) ∧ u = G)) 0 0 := by
  refine tg_in (cc := cX6_ofRun) (maxL := 3) (ret := (some FieldType.int)) (tg_Qi E (fun r u => r = nI (cK v k) ∧ u = G)) (by decide) rfl (Nat.le_of_ble_eq_true rfl) ?_
  intro p e s m args below meth cd ls A hx hb hr hml hown hlocks hin hA hAm hw hl
  have hown : s.vm.findClass RX6 = some m.cls := hown
  have hl : lv_has ls 3 [(0, .ref (ad 8)), (1, .int (nI k)), (2, .int 4)] := hl
  obtain ⟨h0, hco, ⟨hLm, hLc, hLr⟩, hbi, hma, hch, hru⟩ := id hI
  have hn60 := h0.1
  obtain ⟨mcr, lar, capr, fr, hlr, hrr, hpr, hqr, hfr⟩ := ltH.pos hLr (by omega)
  obtain ⟨hb1, hb2, hb3⟩ := h0.2.1 k (by omega)
  have hr9 : G (64 + k) = some (ad (64 + k), .inr (5, [.int (nI (vR v k).1), .ref (ad (32 + (vR v k).2.1)), .int (vT v k).1, .int (nI (vR v k).2.2), .int (vT v k).2])) := hru k (by omega)
  have hm9 : G (32 + (vR v k).2.1) = some (ad (32 + (vR v k).2.1), .inr (4, [.int (nI (vR v k).2.1), .int (nI (vMN v (vR v k).2.1 1)), .int (nI (vMN v (vR v k).2.1 2)), .int (vMI v (vR v k).2.1 3), .int (vMI v (vR v k).2.1 4), .int (vMI v (vR v k).2.1 5), .int (nI (vMN v (vR v k).2.1 6)), .int (vMI v (vR v k).2.1 7)])) := hma _ hb2
  refine lv_iload_n hx hb dX6_ofRun_0 rfl (lv_at hl 1 rfl) ?_
  refine lv_if_lt (tgt := 15) hx hb dX6_ofRun_1 (by decide) (fun c9 => absurd c9 (fun z9 => absurd ((nI_ltI (a := k) (b := 0) (by omega) (by omega)).mp z9) (by omega))) (fun _ => ?_)
  refine lv_iload_n hx hb dX6_ofRun_4 rfl (lv_at hl 1 rfl) ?_
  refine lv_aload_n hx hb dX6_ofRun_5 rfl (lv_at hl 0 rfl) ?_
  refine tg_get (v := .ref (ad 13)) hx hb hown hAm hw lyX6 hco rfl 2 (by decide) qw_227 (fun _ h9 => h9) rfl dX6_ofRun_6 ?_
  refine tg_callRi (va_runV (As := []) (rest := [.int (nI k)]) (Ts := []) ⟨hx, hb, hml, hown, fun _ h9 => absurd h9 List.not_mem_nil⟩ (lf_size l E _ G (n := vn v) hlr) (rc_cwV hAm qw_343 qw_4 qw_346 qw_344 qw_345 rfl rfl hd_Jx4a65c_size_8abf5 ⟨Nat.le_of_ble_eq_true rfl, Nat.le_of_ble_eq_true rfl⟩) (tg_preV hAm hA hw hlr (q := vwCl[0]) rfl) rfl rfl hl.1 rfl (lv_room (Nat.le_of_ble_eq_true rfl)) dX6_ofRun_9 ⟨Nat.le_of_ble_eq_true rfl, Nat.le_of_ble_eq_true rfl⟩) hA hw (fun H locs hw => ?_)
  refine lv_icmp_lt (tgt := 25) hx hb dX6_ofRun_12 (by decide) (fun _ => ?_) (fun c9 => absurd ((nI_ltI (a := k) (b := vn v) (by omega) (by omega)).mpr (by omega)) c9)
  refine lv_iload_n hx hb dX6_ofRun_25 rfl (lv_at hl 2 rfl) ?_
  refine lv_iconst (v := 0) hx hb dX6_ofRun_26 (by decide) ?_
  refine lv_iconst (v := 5) hx hb dX6_ofRun_27 (by decide) ?_
  refine tg_callRi (va_runS (As := [.int 4, .int 0, .int 5]) (rest := []) (Ts := []) ⟨hx, hb, hml, hown, fun _ h9 => absurd h9 List.not_mem_nil⟩ (lf_isOutside l E _ G 4 0 5 (by decide) (by decide)) (rc_cwS hAm qw_269 qw_1 qw_271 qw_270 rfl rfl hd_X6_isOutside ⟨Nat.le_of_ble_eq_true rfl, Nat.le_of_ble_eq_true rfl⟩) (tg_preS hAm hA hw) rfl rfl hl.1 rfl (lv_room (Nat.le_of_ble_eq_true rfl)) dX6_ofRun_28 ⟨Nat.le_of_ble_eq_true rfl, Nat.le_of_ble_eq_true rfl⟩) hA hw (fun H locs hw => ?_)
  refine lv_if_eq (tgt := 44) hx hb dX6_ofRun_31 (by decide) (fun _ => ?_) (fun c9 => absurd (by decide) c9)
  refine lv_aload_n hx hb dX6_ofRun_44 rfl (lv_at hl 0 rfl) ?_
  refine lv_aload_n hx hb dX6_ofRun_45 rfl (lv_at hl 0 rfl) ?_
  refine tg_get (v := .ref (ad 13)) hx hb hown hAm hw lyX6 hco rfl 2 (by decide) qw_227 (fun _ h9 => h9) rfl dX6_ofRun_46 ?_
  refine lv_iload_n hx hb dX6_ofRun_49 rfl (lv_at hl 1 rfl) ?_
  refine tg_callRr (va_runV (As := [.int (nI k)]) (rest := [.ref (ad 8)]) (Ts := []) ⟨hx, hb, hml, hown, fun _ h9 => absurd h9 List.not_mem_nil⟩ (lf_get l E _ G (k := k) (n := vn v) (y := ad (64 + k)) (by omega) (by omega) (by omega) (hfr k (by omega)) hlr hrr) (rc_cwV hAm qw_436 qw_4 qw_439 qw_437 qw_438 rfl rfl hd_Jx4a65c_get_915e3 ⟨Nat.le_of_ble_eq_true rfl, Nat.le_of_ble_eq_true rfl⟩) (tg_preV hAm hA hw hlr (q := vwCl[0]) rfl) rfl rfl hl.1 rfl (lv_room (Nat.le_of_ble_eq_true rfl)) dX6_ofRun_50 ⟨Nat.le_of_ble_eq_true rfl, Nat.le_of_ble_eq_true rfl⟩) hA hw (fun H locs hw => ?_)
  refine tg_castS (C := RX4) hx hb hown hAm hw qw_524 hr9 rfl dX6_ofRun_53 ?_
  refine lv_iload_n hx hb dX6_ofRun_56 rfl (lv_at hl 2 rfl) ?_
  refine tg_callRi (va_runV (As := [.ref (ad (64 + k)), .int 4]) (rest := []) (Ts := []) ⟨hx, hb, hml, hown, fun _ h9 => absurd h9 List.not_mem_nil⟩ (co_runFact4 l E _ ad v G hI k (by omega)) (rc_cwV hAm qw_590 qw_1 qw_593 qw_592 qs_38 rfl rfl hd_X6_runFact ⟨Nat.le_of_ble_eq_true rfl, Nat.le_of_ble_eq_true rfl⟩) (tg_preV hAm hA hw hco (q := vwCl[7]) rfl) rfl rfl hl.1 rfl (lv_room (Nat.le_of_ble_eq_true rfl)) dX6_ofRun_57 ⟨Nat.le_of_ble_eq_true rfl, Nat.le_of_ble_eq_true rfl⟩) hA hw (fun H locs hw => ?_)
  exact tg_iret hx hb hr hlocks hw (⟨rfl, rfl⟩) (Nat.le_of_ble_eq_true rfl) (Nat.le_of_ble_eq_true rfl) dX6_ofRun_60
set_option maxHeartbeats 4000000 in
set_option maxRecDepth 100000 in
theorem pu_ofRun5 (l : Launch) (E : rc_E) (sz : Nat) (ad : Nat → Nat) (v : av_V) (G : tg_G) (hI : ssH E ad v G) (k : Nat) (hk : k < vn v) : tg_M l yX6_ofRun [Cond.code yX6_ofRun cX6_ofRun 3 (some FieldType.int)] { frames := 5, cells := 0, slots := 0, locals := 110 } E [.ref (ad 8), .int (nI k), .int 5] G sz (tg_Qi E (fun r u => r = nI (isR v (ixs v (vR v k).1) k (ixs v (vR v k).1).length 0) ∧ u = G)) 0 0 := by
  refine tg_in (cc := cX6_ofRun) (maxL := 3) (ret := (some FieldType.int)) (tg_Qi E (fun r u => r = nI (isR v (ixs v (vR v k).1) k (ixs v (vR v k).1).length 0) ∧ u = G)) (by decide) rfl (Nat.le_of_ble_eq_true rfl) ?_
  intro p e s m args below meth cd ls A hx hb hr hml hown hlocks hin hA hAm hw hl
  have hown : s.vm.findClass RX6 = some m.cls := hown
  have hl : lv_has ls 3 [(0, .ref (ad 8)), (1, .int (nI k)), (2, .int 5)] := hl
  obtain ⟨h0, hco, ⟨hLm, hLc, hLr⟩, hbi, hma, hch, hru⟩ := id hI
  have hn60 := h0.1
  obtain ⟨mcr, lar, capr, fr, hlr, hrr, hpr, hqr, hfr⟩ := ltH.pos hLr (by omega)
  obtain ⟨hb1, hb2, hb3⟩ := h0.2.1 k (by omega)
  have hr9 : G (64 + k) = some (ad (64 + k), .inr (5, [.int (nI (vR v k).1), .ref (ad (32 + (vR v k).2.1)), .int (vT v k).1, .int (nI (vR v k).2.2), .int (vT v k).2])) := hru k (by omega)
  have hm9 : G (32 + (vR v k).2.1) = some (ad (32 + (vR v k).2.1), .inr (4, [.int (nI (vR v k).2.1), .int (nI (vMN v (vR v k).2.1 1)), .int (nI (vMN v (vR v k).2.1 2)), .int (vMI v (vR v k).2.1 3), .int (vMI v (vR v k).2.1 4), .int (vMI v (vR v k).2.1 5), .int (nI (vMN v (vR v k).2.1 6)), .int (vMI v (vR v k).2.1 7)])) := hma _ hb2
  refine lv_iload_n hx hb dX6_ofRun_0 rfl (lv_at hl 1 rfl) ?_
  refine lv_if_lt (tgt := 15) hx hb dX6_ofRun_1 (by decide) (fun c9 => absurd c9 (fun z9 => absurd ((nI_ltI (a := k) (b := 0) (by omega) (by omega)).mp z9) (by omega))) (fun _ => ?_)
  refine lv_iload_n hx hb dX6_ofRun_4 rfl (lv_at hl 1 rfl) ?_
  refine lv_aload_n hx hb dX6_ofRun_5 rfl (lv_at hl 0 rfl) ?_
  refine tg_get (v := .ref (ad 13)) hx hb hown hAm hw lyX6 hco rfl 2 (by decide) qw_227 (fun _ h9 => h9) rfl dX6_ofRun_6 ?_
  refine tg_callRi (va_runV (As := []) (rest := [.int (nI k)]) (Ts := []) ⟨hx, hb, hml, hown, fun _ h9 => absurd h9 List.not_mem_nil⟩ (lf_size l E _ G (n := vn v) hlr) (rc_cwV hAm qw_343 qw_4 qw_346 qw_344 qw_345 rfl rfl hd_Jx4a65c_size_8abf5 ⟨Nat.le_of_ble_eq_true rfl, Nat.le_of_ble_eq_true rfl⟩) (tg_preV hAm hA hw hlr (q := vwCl[0]) rfl) rfl rfl hl.1 rfl (lv_room (Nat.le_of_ble_eq_true rfl)) dX6_ofRun_9 ⟨Nat.le_of_ble_eq_true rfl, Nat.le_of_ble_eq_true rfl⟩) hA hw (fun H locs hw => ?_)
  refine lv_icmp_lt (tgt := 25) hx hb dX6_ofRun_12 (by decide) (fun _ => ?_) (fun c9 => absurd ((nI_ltI (a := k) (b := vn v) (by omega) (by omega)).mpr (by omega)) c9)
  refine lv_iload_n hx hb dX6_ofRun_25 rfl (lv_at hl 2 rfl) ?_
  refine lv_iconst (v := 0) hx hb dX6_ofRun_26 (by decide) ?_
  refine lv_iconst (v := 5) hx hb dX6_ofRun_27 (by decide) ?_
  refine tg_callRi (va_runS (As := [.int 5, .int 0, .int 5]) (rest := []) (Ts := []) ⟨hx, hb, hml, hown, fun _ h9 => absurd h9 List.not_mem_nil⟩ (lf_isOutside l E _ G 5 0 5 (by decide) (by decide)) (rc_cwS hAm qw_269 qw_1 qw_271 qw_270 rfl rfl hd_X6_isOutside ⟨Nat.le_of_ble_eq_true rfl, Nat.le_of_ble_eq_true rfl⟩) (tg_preS hAm hA hw) rfl rfl hl.1 rfl (lv_room (Nat.le_of_ble_eq_true rfl)) dX6_ofRun_28 ⟨Nat.le_of_ble_eq_true rfl, Nat.le_of_ble_eq_true rfl⟩) hA hw (fun H locs hw => ?_)
  refine lv_if_eq (tgt := 44) hx hb dX6_ofRun_31 (by decide) (fun _ => ?_) (fun c9 => absurd (by decide) c9)
  refine lv_aload_n hx hb dX6_ofRun_44 rfl (lv_at hl 0 rfl) ?_
  refine lv_aload_n hx hb dX6_ofRun_45 rfl (lv_at hl 0 rfl) ?_
  refine tg_get (v := .ref (ad 13)) hx hb hown hAm hw lyX6 hco rfl 2 (by decide) qw_227 (fun _ h9 => h9) rfl dX6_ofRun_46 ?_
  refine lv_iload_n hx hb dX6_ofRun_49 rfl (lv_at hl 1 rfl) ?_
  refine tg_callRr (va_runV (As := [.int (nI k)]) (rest := [.ref (ad 8)]) (Ts := []) ⟨hx, hb, hml, hown, fun _ h9 => absurd h9 List.not_mem_nil⟩ (lf_get l E _ G (k := k) (n := vn v) (y := ad (64 + k)) (by omega) (by omega) (by omega) (hfr k (by omega)) hlr hrr) (rc_cwV hAm qw_436 qw_4 qw_439 qw_437 qw_438 rfl rfl hd_Jx4a65c_get_915e3 ⟨Nat.le_of_ble_eq_true rfl, Nat.le_of_ble_eq_true rfl⟩) (tg_preV hAm hA hw hlr (q := vwCl[0]) rfl) rfl rfl hl.1 rfl (lv_room (Nat.le_of_ble_eq_true rfl)) dX6_ofRun_50 ⟨Nat.le_of_ble_eq_true rfl, Nat.le_of_ble_eq_true rfl⟩) hA hw (fun H locs hw => ?_)
  refine tg_castS (C := RX4) hx hb hown hAm hw qw_524 hr9 rfl dX6_ofRun_53 ?_
  refine lv_iload_n hx hb dX6_ofRun_56 rfl (lv_at hl 2 rfl) ?_
  refine tg_callRi (va_runV (As := [.ref (ad (64 + k)), .int 5]) (rest := []) (Ts := []) ⟨hx, hb, hml, hown, fun _ h9 => absurd h9 List.not_mem_nil⟩ (co_runFact5 l E _ ad v G hI k (by omega)) (rc_cwV hAm qw_590 qw_1 qw_593 qw_592 qs_38 rfl rfl hd_X6_runFact ⟨Nat.le_of_ble_eq_true rfl, Nat.le_of_ble_eq_true rfl⟩) (tg_preV hAm hA hw hco (q := vwCl[7]) rfl) rfl rfl hl.1 rfl (lv_room (Nat.le_of_ble_eq_true rfl)) dX6_ofRun_57 ⟨Nat.le_of_ble_eq_true rfl, Nat.le_of_ble_eq_true rfl⟩) hA hw (fun H locs hw => ?_)
  exact tg_iret hx hb hr hlocks hw (⟨rfl, rfl⟩) (Nat.le_of_ble_eq_true rfl) (Nat.le_of_ble_eq_true rfl) dX6_ofRun_60
theorem hd_X6_isNoChange : yX6_isNoChange.cls ≠ "java/lang/invoke/MethodHandle" ∧ yX6_isNoChange.cls ≠ "java/lang/invoke/VarHandle" ∧ (parseMethodDescriptor yX6_isNoChange.desc).map (fun d => d.parameters.length) = some 1 := by decide +kernel
theorem hd_X6_minutesToFill : yX6_minutesToFill.cls ≠ "java/lang/invoke/MethodHandle" ∧ yX6_minutesToFill.cls ≠ "java/lang/invoke/VarHandle" ∧ (parseMethodDescriptor yX6_minutesToFill.desc).map (fun d => d.parameters.length) = some 1 := by decide +kernel
set_option maxHeartbeats 4000000 in
set_option maxRecDepth 100000 in
theorem pu_minutesFor (l : Launch) (E : rc_E) (sz : Nat) (ad : Nat → Nat) (v : av_V) (G : tg_G) (hI : ssH E ad v G) (c : Nat) (hc : c < 6) : tg_M l yX6_minutesFor [Cond.code yX6_minutesFor cX6_minutesFor 2 (some FieldType.int)] { frames := 5, cells := 0, slots := 0, locals := 110 } E [.ref (ad 8), .int (nI c)] G sz (tg_Qi E (fun r u => r = mtF v c ∧ u = G)) 0 0 := by
  refine tg_in (cc := cX6_minutesFor) (maxL := 2) (ret := (some FieldType.int)) (tg_Qi E (fun r u => r = mtF v c ∧ u = G)) (by decide) rfl (Nat.le_of_ble_eq_true rfl) ?_
  intro p e s m args below meth cd ls A hx hb hr hml hown hlocks hin hA hAm hw hl
  have hown : s.vm.findClass RX6 = some m.cls := hown
  have hl : lv_has ls 2 [(0, .ref (ad 8)), (1, .int (nI c))] := hl
  obtain ⟨h0, hco, ⟨hLm, hLc, hLr⟩, hbi, hma, hch, hru⟩ := id hI
  have hn60 := h0.1
  have hcc : G (40 + 3 * c) = some (ad (40 + 3 * c), .inr (2, [.ref (ad (41 + 3 * c)), .int (vC v c).1, .int (vC v c).2])) := (hch c (by omega)).1
  refine lv_aload_n hx hb dX6_minutesFor_0 rfl (lv_at hl 0 rfl) ?_
  refine lv_iload_n hx hb dX6_minutesFor_1 rfl (lv_at hl 1 rfl) ?_
  refine tg_callRi (va_runV (As := [.int (nI c)]) (rest := []) (Ts := []) ⟨hx, hb, hml, hown, fun _ h9 => absurd h9 List.not_mem_nil⟩ (co_isNoChange l E _ ad v G hI c hc) (rc_cwV hAm qw_678 qw_1 qw_681 qw_680 qs_46 rfl rfl hd_X6_isNoChange ⟨Nat.le_of_ble_eq_true rfl, Nat.le_of_ble_eq_true rfl⟩) (tg_preV hAm hA hw hco (q := vwCl[7]) rfl) rfl rfl hl.1 rfl (lv_room (Nat.le_of_ble_eq_true rfl)) dX6_minutesFor_2 ⟨Nat.le_of_ble_eq_true rfl, Nat.le_of_ble_eq_true rfl⟩) hA hw (fun H locs hw => ?_)
  refine lv_if_eq (tgt := 18) hx hb dX6_minutesFor_5 (by decide) (fun _ => ?_) (fun c9 => absurd (by decide) c9)
  refine lv_aload_n hx hb dX6_minutesFor_18 rfl (lv_at hl 0 rfl) ?_
  refine lv_aload_n hx hb dX6_minutesFor_19 rfl (lv_at hl 0 rfl) ?_
  refine lv_iload_n hx hb dX6_minutesFor_20 rfl (lv_at hl 1 rfl) ?_
  refine tg_callRr (va_runV (As := [.int (nI c)]) (rest := [.ref (ad 8)]) (Ts := []) ⟨hx, hb, hml, hown, fun _ h9 => absurd h9 List.not_mem_nil⟩ (co_changeAt l E _ ad v G hI c hc) (rc_cwV hAm qw_432 qw_1 qw_435 qw_434 qs_9 rfl rfl hd_X6_changeAt ⟨Nat.le_of_ble_eq_true rfl, Nat.le_of_ble_eq_true rfl⟩) (tg_preV hAm hA hw hco (q := vwCl[7]) rfl) rfl rfl hl.1 rfl (lv_room (Nat.le_of_ble_eq_true rfl)) dX6_minutesFor_21 ⟨Nat.le_of_ble_eq_true rfl, Nat.le_of_ble_eq_true rfl⟩) hA hw (fun H locs hw => ?_)
  refine tg_callRi (va_runV (As := [.ref (ad (40 + 3 * c))]) (rest := []) (Ts := []) ⟨hx, hb, hml, hown, fun _ h9 => absurd h9 List.not_mem_nil⟩ (co_minutesToFill l E _ ad v G hI c (by omega)) (rc_cwV hAm qw_578 qw_1 qw_581 qw_580 qs_35 rfl rfl hd_X6_minutesToFill ⟨Nat.le_of_ble_eq_true rfl, Nat.le_of_ble_eq_true rfl⟩) (tg_preV hAm hA hw hco (q := vwCl[7]) rfl) rfl rfl hl.1 rfl (lv_room (Nat.le_of_ble_eq_true rfl)) dX6_minutesFor_24 ⟨Nat.le_of_ble_eq_true rfl, Nat.le_of_ble_eq_true rfl⟩) hA hw (fun H locs hw => ?_)
  exact tg_iret hx hb hr hlocks hw (⟨rfl, rfl⟩) (Nat.le_of_ble_eq_true rfl) (Nat.le_of_ble_eq_true rfl) dX6_minutesFor_27
