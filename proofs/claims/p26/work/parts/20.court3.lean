set_option maxHeartbeats 4000000 in
set_option maxRecDepth 100000 in
theorem co_courtFact0 (l : Launch) (E : rc_E) (sz : Nat) (ad : Nat → Nat) (v : av_V) (G : tg_G) (hI : ssH E ad v G) : tg_M l yX6_courtFact [Cond.code yX6_courtFact cX6_courtFact 2 (some FieldType.int)] { frames := 1, cells := 0, slots := 0, locals := 20 } E [.ref (ad 8), .int 0] G sz (tg_Qi E (fun r u => r = nI 2 ∧ u = G)) 0 0 := by
  refine tg_in (cc := cX6_courtFact) (maxL := 2) (ret := (some FieldType.int)) (tg_Qi E (fun r u => r = nI 2 ∧ u = G)) (by decide) rfl (Nat.le_of_ble_eq_true rfl) ?_
  intro p e s m args below meth cd ls A hx hb hr hml hown hlocks hin hA hAm hw hl
  have hown : s.vm.findClass RX6 = some m.cls := hown
  have hl : lv_has ls 2 [(0, .ref (ad 8)), (1, .int 0)] := hl
  obtain ⟨h0, hco, ⟨hLm, hLc, hLr⟩, hbi, hma, hch, hru⟩ := id hI
  have hn60 := h0.1
  obtain ⟨mcm, lam, hlm, -⟩ := id hLm
  obtain ⟨mcc, lac, hlc, -⟩ := id hLc
  obtain ⟨mcr, lar, hlr, -⟩ := id hLr
  refine lv_iload_n hx hb dX6_courtFact_0 rfl (lv_at hl 1 rfl) ?_
  refine lv_tableIn (tgt := 48) hx hb dX6_courtFact_1 (by decide) (by decide) rfl (by decide) ?_
  refine lv_aload_n hx hb dX6_courtFact_48 rfl (lv_at hl 0 rfl) ?_
  refine tg_get (v := .ref (ad 9)) hx hb hown hAm hw lyX6 hco rfl 0 (by decide) qw_225 (fun _ h9 => h9) rfl dX6_courtFact_49 ?_
  refine tg_callRi (va_runV (As := []) (rest := []) (Ts := []) ⟨hx, hb, hml, hown, fun _ h9 => absurd h9 List.not_mem_nil⟩ (lf_size l E _ G (n := 2) hlm) (rc_cwV hAm qw_343 qw_4 qw_346 qw_344 qw_345 rfl rfl hd_Jx4a65c_size_8abf5 ⟨Nat.le_of_ble_eq_true rfl, Nat.le_of_ble_eq_true rfl⟩) (tg_preV hAm hA hw hlm (q := vwCl[0]) rfl) rfl rfl hl.1 rfl (lv_room (Nat.le_of_ble_eq_true rfl)) dX6_courtFact_52 ⟨Nat.le_of_ble_eq_true rfl, Nat.le_of_ble_eq_true rfl⟩) hA hw (fun H locs hw => ?_)
  exact tg_iret hx hb hr hlocks hw (⟨rfl, rfl⟩) (Nat.le_of_ble_eq_true rfl) (Nat.le_of_ble_eq_true rfl) dX6_courtFact_55
set_option maxHeartbeats 4000000 in
set_option maxRecDepth 100000 in
theorem co_courtFact1 (l : Launch) (E : rc_E) (sz : Nat) (ad : Nat → Nat) (v : av_V) (G : tg_G) (hI : ssH E ad v G) : tg_M l yX6_courtFact [Cond.code yX6_courtFact cX6_courtFact 2 (some FieldType.int)] { frames := 1, cells := 0, slots := 0, locals := 20 } E [.ref (ad 8), .int 1] G sz (tg_Qi E (fun r u => r = nI 6 ∧ u = G)) 0 0 := by
  refine tg_in (cc := cX6_courtFact) (maxL := 2) (ret := (some FieldType.int)) (tg_Qi E (fun r u => r = nI 6 ∧ u = G)) (by decide) rfl (Nat.le_of_ble_eq_true rfl) ?_
  intro p e s m args below meth cd ls A hx hb hr hml hown hlocks hin hA hAm hw hl
  have hown : s.vm.findClass RX6 = some m.cls := hown
  have hl : lv_has ls 2 [(0, .ref (ad 8)), (1, .int 1)] := hl
  obtain ⟨h0, hco, ⟨hLm, hLc, hLr⟩, hbi, hma, hch, hru⟩ := id hI
  have hn60 := h0.1
  obtain ⟨mcm, lam, hlm, -⟩ := id hLm
  obtain ⟨mcc, lac, hlc, -⟩ := id hLc
  obtain ⟨mcr, lar, hlr, -⟩ := id hLr
  refine lv_iload_n hx hb dX6_courtFact_0 rfl (lv_at hl 1 rfl) ?_
  refine lv_tableIn (tgt := 56) hx hb dX6_courtFact_1 (by decide) (by decide) rfl (by decide) ?_
  refine lv_aload_n hx hb dX6_courtFact_56 rfl (lv_at hl 0 rfl) ?_
  refine tg_get (v := .ref (ad 11)) hx hb hown hAm hw lyX6 hco rfl 1 (by decide) qw_226 (fun _ h9 => h9) rfl dX6_courtFact_57 ?_
  refine tg_callRi (va_runV (As := []) (rest := []) (Ts := []) ⟨hx, hb, hml, hown, fun _ h9 => absurd h9 List.not_mem_nil⟩ (lf_size l E _ G (n := 6) hlc) (rc_cwV hAm qw_343 qw_4 qw_346 qw_344 qw_345 rfl rfl hd_Jx4a65c_size_8abf5 ⟨Nat.le_of_ble_eq_true rfl, Nat.le_of_ble_eq_true rfl⟩) (tg_preV hAm hA hw hlc (q := vwCl[0]) rfl) rfl rfl hl.1 rfl (lv_room (Nat.le_of_ble_eq_true rfl)) dX6_courtFact_60 ⟨Nat.le_of_ble_eq_true rfl, Nat.le_of_ble_eq_true rfl⟩) hA hw (fun H locs hw => ?_)
  exact tg_iret hx hb hr hlocks hw (⟨rfl, rfl⟩) (Nat.le_of_ble_eq_true rfl) (Nat.le_of_ble_eq_true rfl) dX6_courtFact_63
set_option maxHeartbeats 4000000 in
set_option maxRecDepth 100000 in
theorem co_courtFact2 (l : Launch) (E : rc_E) (sz : Nat) (ad : Nat → Nat) (v : av_V) (G : tg_G) (hI : ssH E ad v G) : tg_M l yX6_courtFact [Cond.code yX6_courtFact cX6_courtFact 2 (some FieldType.int)] { frames := 1, cells := 0, slots := 0, locals := 20 } E [.ref (ad 8), .int 2] G sz (tg_Qi E (fun r u => r = nI (vn v) ∧ u = G)) 0 0 := by
  refine tg_in (cc := cX6_courtFact) (maxL := 2) (ret := (some FieldType.int)) (tg_Qi E (fun r u => r = nI (vn v) ∧ u = G)) (by decide) rfl (Nat.le_of_ble_eq_true rfl) ?_
  intro p e s m args below meth cd ls A hx hb hr hml hown hlocks hin hA hAm hw hl
  have hown : s.vm.findClass RX6 = some m.cls := hown
  have hl : lv_has ls 2 [(0, .ref (ad 8)), (1, .int 2)] := hl
  obtain ⟨h0, hco, ⟨hLm, hLc, hLr⟩, hbi, hma, hch, hru⟩ := id hI
  have hn60 := h0.1
  obtain ⟨mcm, lam, hlm, -⟩ := id hLm
  obtain ⟨mcc, lac, hlc, -⟩ := id hLc
  obtain ⟨mcr, lar, hlr, -⟩ := id hLr
  refine lv_iload_n hx hb dX6_courtFact_0 rfl (lv_at hl 1 rfl) ?_
  refine lv_tableIn (tgt := 64) hx hb dX6_courtFact_1 (by decide) (by decide) rfl (by decide) ?_
  refine lv_aload_n hx hb dX6_courtFact_64 rfl (lv_at hl 0 rfl) ?_
  refine tg_get (v := .ref (ad 13)) hx hb hown hAm hw lyX6 hco rfl 2 (by decide) qw_227 (fun _ h9 => h9) rfl dX6_courtFact_65 ?_
  refine tg_callRi (va_runV (As := []) (rest := []) (Ts := []) ⟨hx, hb, hml, hown, fun _ h9 => absurd h9 List.not_mem_nil⟩ (lf_size l E _ G (n := vn v) hlr) (rc_cwV hAm qw_343 qw_4 qw_346 qw_344 qw_345 rfl rfl hd_Jx4a65c_size_8abf5 ⟨Nat.le_of_ble_eq_true rfl, Nat.le_of_ble_eq_true rfl⟩) (tg_preV hAm hA hw hlr (q := vwCl[0]) rfl) rfl rfl hl.1 rfl (lv_room (Nat.le_of_ble_eq_true rfl)) dX6_courtFact_68 ⟨Nat.le_of_ble_eq_true rfl, Nat.le_of_ble_eq_true rfl⟩) hA hw (fun H locs hw => ?_)
  exact tg_iret hx hb hr hlocks hw (⟨rfl, rfl⟩) (Nat.le_of_ble_eq_true rfl) (Nat.le_of_ble_eq_true rfl) dX6_courtFact_71
theorem hd_X6_runsThatCount : yX6_runsThatCount.cls ≠ "java/lang/invoke/MethodHandle" ∧ yX6_runsThatCount.cls ≠ "java/lang/invoke/VarHandle" ∧ (parseMethodDescriptor yX6_runsThatCount.desc).map (fun d => d.parameters.length) = some 0 := by decide +kernel
set_option maxHeartbeats 4000000 in
set_option maxRecDepth 100000 in
theorem co_courtFact3 (l : Launch) (E : rc_E) (sz : Nat) (ad : Nat → Nat) (v : av_V) (G : tg_G) (hI : ssH E ad v G) : tg_M l yX6_courtFact [Cond.code yX6_courtFact cX6_courtFact 2 (some FieldType.int)] { frames := 4, cells := 0, slots := 0, locals := 86 } E [.ref (ad 8), .int 3] G sz (tg_Qi E (fun r u => r = nI (smR (fun k => cK v k) (vn v)) ∧ u = G)) 0 0 := by
  refine tg_in (cc := cX6_courtFact) (maxL := 2) (ret := (some FieldType.int)) (tg_Qi E (fun r u => r = nI (smR (fun k => cK v k) (vn v)) ∧ u = G)) (by decide) rfl (Nat.le_of_ble_eq_true rfl) ?_
  intro p e s m args below meth cd ls A hx hb hr hml hown hlocks hin hA hAm hw hl
  have hown : s.vm.findClass RX6 = some m.cls := hown
  have hl : lv_has ls 2 [(0, .ref (ad 8)), (1, .int 3)] := hl
  obtain ⟨h0, hco, ⟨hLm, hLc, hLr⟩, hbi, hma, hch, hru⟩ := id hI
  have hn60 := h0.1
  obtain ⟨mcm, lam, hlm, -⟩ := id hLm
  obtain ⟨mcc, lac, hlc, -⟩ := id hLc
  obtain ⟨mcr, lar, hlr, -⟩ := id hLr
  refine lv_iload_n hx hb dX6_courtFact_0 rfl (lv_at hl 1 rfl) ?_
  refine lv_tableIn (tgt := 72) hx hb dX6_courtFact_1 (by decide) (by decide) rfl (by decide) ?_
  refine lv_aload_n hx hb dX6_courtFact_72 rfl (lv_at hl 0 rfl) ?_
  refine tg_callRi (va_runV (As := []) (rest := []) (Ts := []) ⟨hx, hb, hml, hown, fun _ h9 => absurd h9 List.not_mem_nil⟩ (co_runsThatCount l E _ ad v G hI) (rc_cwV hAm qw_520 qw_1 qw_523 qw_522 qs_25 rfl rfl hd_X6_runsThatCount ⟨Nat.le_of_ble_eq_true rfl, Nat.le_of_ble_eq_true rfl⟩) (tg_preV hAm hA hw hco (q := vwCl[7]) rfl) rfl rfl hl.1 rfl (lv_room (Nat.le_of_ble_eq_true rfl)) dX6_courtFact_73 ⟨Nat.le_of_ble_eq_true rfl, Nat.le_of_ble_eq_true rfl⟩) hA hw (fun H locs hw => ?_)
  exact tg_iret hx hb hr hlocks hw (⟨rfl, rfl⟩) (Nat.le_of_ble_eq_true rfl) (Nat.le_of_ble_eq_true rfl) dX6_courtFact_76
set_option maxHeartbeats 4000000 in
set_option maxRecDepth 100000 in
theorem co_courtFact4 (l : Launch) (E : rc_E) (sz : Nat) (ad : Nat → Nat) (v : av_V) (G : tg_G) (hI : ssH E ad v G) : tg_M l yX6_courtFact [Cond.code yX6_courtFact cX6_courtFact 2 (some FieldType.int)] { frames := 0, cells := 0, slots := 0, locals := 0 } E [.ref (ad 8), .int 4] G sz (tg_Qi E (fun r u => r = nI (vN v 2) ∧ u = G)) 0 0 := by
  refine tg_in (cc := cX6_courtFact) (maxL := 2) (ret := (some FieldType.int)) (tg_Qi E (fun r u => r = nI (vN v 2) ∧ u = G)) (by decide) rfl (Nat.le_of_ble_eq_true rfl) ?_
  intro p e s m args below meth cd ls A hx hb hr hml hown hlocks hin hA hAm hw hl
  have hown : s.vm.findClass RX6 = some m.cls := hown
  have hl : lv_has ls 2 [(0, .ref (ad 8)), (1, .int 4)] := hl
  obtain ⟨h0, hco, ⟨hLm, hLc, hLr⟩, hbi, hma, hch, hru⟩ := id hI
  have hn60 := h0.1
  obtain ⟨mcm, lam, hlm, -⟩ := id hLm
  obtain ⟨mcc, lac, hlc, -⟩ := id hLc
  obtain ⟨mcr, lar, hlr, -⟩ := id hLr
  refine lv_iload_n hx hb dX6_courtFact_0 rfl (lv_at hl 1 rfl) ?_
  refine lv_tableIn (tgt := 77) hx hb dX6_courtFact_1 (by decide) (by decide) rfl (by decide) ?_
  refine lv_aload_n hx hb dX6_courtFact_77 rfl (lv_at hl 0 rfl) ?_
  refine tg_get (v := .int (nI (vN v 2))) hx hb hown hAm hw lyX6 hco rfl 9 (by decide) qw_234 (fun _ h9 => h9) rfl dX6_courtFact_78 ?_
  exact tg_iret hx hb hr hlocks hw (⟨rfl, rfl⟩) (Nat.le_of_ble_eq_true rfl) (Nat.le_of_ble_eq_true rfl) dX6_courtFact_81
set_option maxHeartbeats 4000000 in
set_option maxRecDepth 100000 in
theorem co_courtFact5 (l : Launch) (E : rc_E) (sz : Nat) (ad : Nat → Nat) (v : av_V) (G : tg_G) (hI : ssH E ad v G) : tg_M l yX6_courtFact [Cond.code yX6_courtFact cX6_courtFact 2 (some FieldType.int)] { frames := 0, cells := 0, slots := 0, locals := 0 } E [.ref (ad 8), .int 5] G sz (tg_Qi E (fun r u => r = nI (vN v 3) ∧ u = G)) 0 0 := by
  refine tg_in (cc := cX6_courtFact) (maxL := 2) (ret := (some FieldType.int)) (tg_Qi E (fun r u => r = nI (vN v 3) ∧ u = G)) (by decide) rfl (Nat.le_of_ble_eq_true rfl) ?_
  intro p e s m args below meth cd ls A hx hb hr hml hown hlocks hin hA hAm hw hl
  have hown : s.vm.findClass RX6 = some m.cls := hown
  have hl : lv_has ls 2 [(0, .ref (ad 8)), (1, .int 5)] := hl
  obtain ⟨h0, hco, ⟨hLm, hLc, hLr⟩, hbi, hma, hch, hru⟩ := id hI
  have hn60 := h0.1
  obtain ⟨mcm, lam, hlm, -⟩ := id hLm
  obtain ⟨mcc, lac, hlc, -⟩ := id hLc
  obtain ⟨mcr, lar, hlr, -⟩ := id hLr
  refine lv_iload_n hx hb dX6_courtFact_0 rfl (lv_at hl 1 rfl) ?_
  refine lv_tableIn (tgt := 82) hx hb dX6_courtFact_1 (by decide) (by decide) rfl (by decide) ?_
  refine lv_aload_n hx hb dX6_courtFact_82 rfl (lv_at hl 0 rfl) ?_
  refine tg_get (v := .int (nI (vN v 3))) hx hb hown hAm hw lyX6 hco rfl 10 (by decide) qw_235 (fun _ h9 => h9) rfl dX6_courtFact_83 ?_
  exact tg_iret hx hb hr hlocks hw (⟨rfl, rfl⟩) (Nat.le_of_ble_eq_true rfl) (Nat.le_of_ble_eq_true rfl) dX6_courtFact_86
set_option maxHeartbeats 4000000 in
set_option maxRecDepth 100000 in
theorem co_courtFact6 (l : Launch) (E : rc_E) (sz : Nat) (ad : Nat → Nat) (v : av_V) (G : tg_G) (hI : ssH E ad v G) : tg_M l yX6_courtFact [Cond.code yX6_courtFact cX6_courtFact 2 (some FieldType.int)] { frames := 0, cells := 0, slots := 0, locals := 0 } E [.ref (ad 8), .int 6] G sz (tg_Qi E (fun r u => r = nI (vN v 4) ∧ u = G)) 0 0 := by
  refine tg_in (cc := cX6_courtFact) (maxL := 2) (ret := (some FieldType.int)) (tg_Qi E (fun r u => r = nI (vN v 4) ∧ u = G)) (by decide) rfl (Nat.le_of_ble_eq_true rfl) ?_
  intro p e s m args below meth cd ls A hx hb hr hml hown hlocks hin hA hAm hw hl
  have hown : s.vm.findClass RX6 = some m.cls := hown
  have hl : lv_has ls 2 [(0, .ref (ad 8)), (1, .int 6)] := hl
  obtain ⟨h0, hco, ⟨hLm, hLc, hLr⟩, hbi, hma, hch, hru⟩ := id hI
  have hn60 := h0.1
  obtain ⟨mcm, lam, hlm, -⟩ := id hLm
  obtain ⟨mcc, lac, hlc, -⟩ := id hLc
  obtain ⟨mcr, lar, hlr, -⟩ := id hLr
  refine lv_iload_n hx hb dX6_courtFact_0 rfl (lv_at hl 1 rfl) ?_
  refine lv_tableIn (tgt := 87) hx hb dX6_courtFact_1 (by decide) (by decide) rfl (by decide) ?_
  refine lv_aload_n hx hb dX6_courtFact_87 rfl (lv_at hl 0 rfl) ?_
  refine tg_get (v := .int (nI (vN v 4))) hx hb hown hAm hw lyX6 hco rfl 11 (by decide) qw_236 (fun _ h9 => h9) rfl dX6_courtFact_88 ?_
  exact tg_iret hx hb hr hlocks hw (⟨rfl, rfl⟩) (Nat.le_of_ble_eq_true rfl) (Nat.le_of_ble_eq_true rfl) dX6_courtFact_91
theorem hd_X6_changesNamed : yX6_changesNamed.cls ≠ "java/lang/invoke/MethodHandle" ∧ yX6_changesNamed.cls ≠ "java/lang/invoke/VarHandle" ∧ (parseMethodDescriptor yX6_changesNamed.desc).map (fun d => d.parameters.length) = some 0 := by decide +kernel
set_option maxHeartbeats 4000000 in
set_option maxRecDepth 100000 in
theorem co_courtFact7 (l : Launch) (E : rc_E) (sz : Nat) (ad : Nat → Nat) (v : av_V) (G : tg_G) (hI : ssH E ad v G) : tg_M l yX6_courtFact [Cond.code yX6_courtFact cX6_courtFact 2 (some FieldType.int)] { frames := 4, cells := 0, slots := 0, locals := 86 } E [.ref (ad 8), .int 7] G sz (tg_Qi E (fun r u => r = nI (smR (fun c => bN (vC v c).1) 6) ∧ u = G)) 0 0 := by
  refine tg_in (cc := cX6_courtFact) (maxL := 2) (ret := (some FieldType.int)) (tg_Qi E (fun r u => r = nI (smR (fun c => bN (vC v c).1) 6) ∧ u = G)) (by decide) rfl (Nat.le_of_ble_eq_true rfl) ?_
  intro p e s m args below meth cd ls A hx hb hr hml hown hlocks hin hA hAm hw hl
  have hown : s.vm.findClass RX6 = some m.cls := hown
  have hl : lv_has ls 2 [(0, .ref (ad 8)), (1, .int 7)] := hl
  obtain ⟨h0, hco, ⟨hLm, hLc, hLr⟩, hbi, hma, hch, hru⟩ := id hI
  have hn60 := h0.1
  obtain ⟨mcm, lam, hlm, -⟩ := id hLm
  obtain ⟨mcc, lac, hlc, -⟩ := id hLc
  obtain ⟨mcr, lar, hlr, -⟩ := id hLr
  refine lv_iload_n hx hb dX6_courtFact_0 rfl (lv_at hl 1 rfl) ?_
  refine lv_tableIn (tgt := 92) hx hb dX6_courtFact_1 (by decide) (by decide) rfl (by decide) ?_
  refine lv_aload_n hx hb dX6_courtFact_92 rfl (lv_at hl 0 rfl) ?_
  refine tg_callRi (va_runV (As := []) (rest := []) (Ts := []) ⟨hx, hb, hml, hown, fun _ h9 => absurd h9 List.not_mem_nil⟩ (co_changesNamed l E _ ad v G hI) (rc_cwV hAm qw_529 qw_1 qw_532 qw_531 qs_26 rfl rfl hd_X6_changesNamed ⟨Nat.le_of_ble_eq_true rfl, Nat.le_of_ble_eq_true rfl⟩) (tg_preV hAm hA hw hco (q := vwCl[7]) rfl) rfl rfl hl.1 rfl (lv_room (Nat.le_of_ble_eq_true rfl)) dX6_courtFact_93 ⟨Nat.le_of_ble_eq_true rfl, Nat.le_of_ble_eq_true rfl⟩) hA hw (fun H locs hw => ?_)
  exact tg_iret hx hb hr hlocks hw (⟨rfl, rfl⟩) (Nat.le_of_ble_eq_true rfl) (Nat.le_of_ble_eq_true rfl) dX6_courtFact_96
theorem hd_X6_machinesAside : yX6_machinesAside.cls ≠ "java/lang/invoke/MethodHandle" ∧ yX6_machinesAside.cls ≠ "java/lang/invoke/VarHandle" ∧ (parseMethodDescriptor yX6_machinesAside.desc).map (fun d => d.parameters.length) = some 0 := by decide +kernel
set_option maxHeartbeats 4000000 in
set_option maxRecDepth 100000 in
theorem co_courtFact8 (l : Launch) (E : rc_E) (sz : Nat) (ad : Nat → Nat) (v : av_V) (G : tg_G) (hI : ssH E ad v G) : tg_M l yX6_courtFact [Cond.code yX6_courtFact cX6_courtFact 2 (some FieldType.int)] { frames := 4, cells := 0, slots := 0, locals := 86 } E [.ref (ad 8), .int 8] G sz (tg_Qi E (fun r u => r = nI (smR (fun j => bN (vMI v j 7)) 2) ∧ u = G)) 0 0 := by
  refine tg_in (cc := cX6_courtFact) (maxL := 2) (ret := (some FieldType.int)) (tg_Qi E (fun r u => r = nI (smR (fun j => bN (vMI v j 7)) 2) ∧ u = G)) (by decide) rfl (Nat.le_of_ble_eq_true rfl) ?_
  intro p e s m args below meth cd ls A hx hb hr hml hown hlocks hin hA hAm hw hl
  have hown : s.vm.findClass RX6 = some m.cls := hown
  have hl : lv_has ls 2 [(0, .ref (ad 8)), (1, .int 8)] := hl
  obtain ⟨h0, hco, ⟨hLm, hLc, hLr⟩, hbi, hma, hch, hru⟩ := id hI
  have hn60 := h0.1
  obtain ⟨mcm, lam, hlm, -⟩ := id hLm
  obtain ⟨mcc, lac, hlc, -⟩ := id hLc
  obtain ⟨mcr, lar, hlr, -⟩ := id hLr
  refine lv_iload_n hx hb dX6_courtFact_0 rfl (lv_at hl 1 rfl) ?_
  refine lv_tableOut (tgt := 97) hx hb dX6_courtFact_1 (by decide) (by decide) ?_
  refine lv_aload_n hx hb dX6_courtFact_97 rfl (lv_at hl 0 rfl) ?_
  refine tg_callRi (va_runV (As := []) (rest := []) (Ts := []) ⟨hx, hb, hml, hown, fun _ h9 => absurd h9 List.not_mem_nil⟩ (co_machinesAside l E _ ad v G hI) (rc_cwV hAm qw_533 qw_1 qw_536 qw_535 qs_27 rfl rfl hd_X6_machinesAside ⟨Nat.le_of_ble_eq_true rfl, Nat.le_of_ble_eq_true rfl⟩) (tg_preV hAm hA hw hco (q := vwCl[7]) rfl) rfl rfl hl.1 rfl (lv_room (Nat.le_of_ble_eq_true rfl)) dX6_courtFact_98 ⟨Nat.le_of_ble_eq_true rfl, Nat.le_of_ble_eq_true rfl⟩) hA hw (fun H locs hw => ?_)
  exact tg_iret hx hb hr hlocks hw (⟨rfl, rfl⟩) (Nat.le_of_ble_eq_true rfl) (Nat.le_of_ble_eq_true rfl) dX6_courtFact_101
set_option maxHeartbeats 4000000 in
set_option maxRecDepth 100000 in
theorem co_leastPrice (l : Launch) (E : rc_E) (sz : Nat) (ad : Nat → Nat) (v : av_V) (G : tg_G) (hI : ssH E ad v G) : tg_M l yX6_leastPrice [Cond.code yX6_leastPrice cX6_leastPrice 4 (some FieldType.int)] { frames := 3, cells := 0, slots := 0, locals := 64 } E [.ref (ad 8)] G sz (tg_Qi E (fun r u => r = lpR v 2 ∧ u = G)) 0 0 := by
  refine tg_in (cc := cX6_leastPrice) (maxL := 4) (ret := (some FieldType.int)) (tg_Qi E (fun r u => r = lpR v 2 ∧ u = G)) (by decide) rfl (Nat.le_of_ble_eq_true rfl) ?_
  intro p e s m args below meth cd ls A hx hb hr hml hown hlocks hin hA hAm hw hl
  have hown : s.vm.findClass RX6 = some m.cls := hown
  have hl : lv_has ls 4 [(0, .ref (ad 8))] := hl
  obtain ⟨h0, hco, ⟨hLm, hLc, hLr⟩, hbi, hma, hch, hru⟩ := id hI
  have hn60 := h0.1
  have loop : ∀ (r k : Nat) (ls : Array Slot) (H : Heap) (locs : List Loc), k + r = 2 → tg_W E A s G H locs → lv_has ls 4 [(2, .int (nI k)), (1, .int (lpR v k)), (0, .ref (ad 8))] → W p l e { frames := 3, cells := 0, slots := 0, locals := 64 } s m args below meth cd H locs 0 0 (MQ below ((tg_Qi E (fun r u => r = lpR v 2 ∧ u = G)) A) args s 0 0 A) (F0 m 4 ls []) := by
    intro r
    induction r with
    | zero =>
      intro k ls H locs hk hw hl
      obtain ⟨mc9, la9, hl9, -⟩ := id hLm
      refine lv_iload_n hx hb dX6_leastPrice_4 rfl (lv_at hl 0 rfl) ?_
      refine lv_aload_n hx hb dX6_leastPrice_5 rfl (lv_at hl 2 rfl) ?_
      refine tg_get (v := .ref (ad 9)) hx hb hown hAm hw lyX6 hco rfl 0 (by decide) qw_225 (fun _ h9 => h9) rfl dX6_leastPrice_6 ?_
      refine tg_callRi (va_runV (As := []) (rest := [.int (nI k)]) (Ts := []) ⟨hx, hb, hml, hown, fun _ h9 => absurd h9 List.not_mem_nil⟩ (lf_size l E _ G (n := 2) hl9) (rc_cwV hAm qw_343 qw_4 qw_346 qw_344 qw_345 rfl rfl hd_Jx4a65c_size_8abf5 ⟨Nat.le_of_ble_eq_true rfl, Nat.le_of_ble_eq_true rfl⟩) (tg_preV hAm hA hw hl9 (q := vwCl[0]) rfl) rfl rfl hl.1 rfl (lv_room (Nat.le_of_ble_eq_true rfl)) dX6_leastPrice_9 ⟨Nat.le_of_ble_eq_true rfl, Nat.le_of_ble_eq_true rfl⟩) hA hw (fun H locs hw => ?_)
      refine lv_icmp_ge (tgt := 58) hx hb dX6_leastPrice_12 (by decide) (fun _ => ?_) (fun c9 => absurd ((nI_leI (a := 2) (b := k) (by omega) (by omega)).mpr (by omega)) c9)
      refine lv_iload_n hx hb dX6_leastPrice_58 rfl (lv_at hl 1 rfl) ?_
      exact tg_iret hx hb hr hlocks hw (⟨by rw [show 2 = k by omega], rfl⟩) (Nat.le_of_ble_eq_true rfl) (Nat.le_of_ble_eq_true rfl) dX6_leastPrice_59
    | succ r ih =>
      intro k ls H locs hk hw hl
      obtain ⟨mcm, lam, capm, fm, hlm, hrm, hpm, hqm, hfm⟩ := ltH.pos hLm (by omega)
      have hm_k : G (32 + k) = some (ad (32 + k), .inr (4, [.int (nI k), .int (nI (vMN v k 1)), .int (nI (vMN v k 2)), .int (vMI v k 3), .int (vMI v k 4), .int (vMI v k 5), .int (nI (vMN v k 6)), .int (vMI v k 7)])) := hma k (by omega)
      refine lv_iload_n hx hb dX6_leastPrice_4 rfl (lv_at hl 0 rfl) ?_
      refine lv_aload_n hx hb dX6_leastPrice_5 rfl (lv_at hl 2 rfl) ?_
      refine tg_get (v := .ref (ad 9)) hx hb hown hAm hw lyX6 hco rfl 0 (by decide) qw_225 (fun _ h9 => h9) rfl dX6_leastPrice_6 ?_
      refine tg_callRi (va_runV (As := []) (rest := [.int (nI k)]) (Ts := []) ⟨hx, hb, hml, hown, fun _ h9 => absurd h9 List.not_mem_nil⟩ (lf_size l E _ G (n := 2) hlm) (rc_cwV hAm qw_343 qw_4 qw_346 qw_344 qw_345 rfl rfl hd_Jx4a65c_size_8abf5 ⟨Nat.le_of_ble_eq_true rfl, Nat.le_of_ble_eq_true rfl⟩) (tg_preV hAm hA hw hlm (q := vwCl[0]) rfl) rfl rfl hl.1 rfl (lv_room (Nat.le_of_ble_eq_true rfl)) dX6_leastPrice_9 ⟨Nat.le_of_ble_eq_true rfl, Nat.le_of_ble_eq_true rfl⟩) hA hw (fun H locs hw => ?_)
      refine lv_icmp_ge (tgt := 58) hx hb dX6_leastPrice_12 (by decide) (fun c9 => absurd c9 (fun z9 => absurd ((nI_leI (a := 2) (b := k) (by omega) (by omega)).mp z9) (by omega))) (fun _ => ?_)
      refine lv_aload_n hx hb dX6_leastPrice_15 rfl (lv_at hl 2 rfl) ?_
      refine tg_get (v := .ref (ad 9)) hx hb hown hAm hw lyX6 hco rfl 0 (by decide) qw_225 (fun _ h9 => h9) rfl dX6_leastPrice_16 ?_
      refine lv_iload_n hx hb dX6_leastPrice_19 rfl (lv_at hl 0 rfl) ?_
      refine tg_callRr (va_runV (As := [.int (nI k)]) (rest := []) (Ts := []) ⟨hx, hb, hml, hown, fun _ h9 => absurd h9 List.not_mem_nil⟩ (lf_get l E _ G (k := k) (n := 2) (y := ad (32 + k)) (by omega) (by omega) (by omega) (hfm k (by omega)) hlm hrm) (rc_cwV hAm qw_436 qw_4 qw_439 qw_437 qw_438 rfl rfl hd_Jx4a65c_get_915e3 ⟨Nat.le_of_ble_eq_true rfl, Nat.le_of_ble_eq_true rfl⟩) (tg_preV hAm hA hw hlm (q := vwCl[0]) rfl) rfl rfl hl.1 rfl (lv_room (Nat.le_of_ble_eq_true rfl)) dX6_leastPrice_20 ⟨Nat.le_of_ble_eq_true rfl, Nat.le_of_ble_eq_true rfl⟩) hA hw (fun H locs hw => ?_)
      refine tg_castS (C := RX3) hx hb hown hAm hw qw_363 hm_k rfl dX6_leastPrice_23 ?_
      refine lv_astore_n (lv' := [(3, .ref (ad (32 + k))), (2, .int (nI k)), (1, .int (lpR v k)), (0, .ref (ad 8))]) hx hb dX6_leastPrice_26 rfl hl (by decide) rfl (fun ls hl => ?_)
      refine lv_aload_n hx hb dX6_leastPrice_27 rfl (lv_at hl 0 rfl) ?_
      refine tg_getN (v := .int (vMI v k 7)) hx hb hown hAm hw lyX3 hm_k rfl 7 (by decide) qw_383 (fun _ h9 => h9) rfl dX6_leastPrice_28 ?_
      refine lv_if_ne (tgt := 52) hx hb dX6_leastPrice_31 (by decide) (fun ca => ?_) (fun ca => ?_)
      · have e9 : lpR v (k + 1) = lpR v k := lpS_a ca
        rw [← e9] at hl
        refine lv_iinc (v := nI (k + 1)) (lv' := [(2, .int (nI (k + 1))), (3, .ref (ad (32 + k))), (1, .int (lpR v (k + 1))), (0, .ref (ad 8))]) hx hb dX6_leastPrice_52 hl (k := 1) rfl (nI_1 _) (by decide) rfl (fun ls hl => ?_)
        refine lv_goto (tgt := 4) hx hb dX6_leastPrice_55 (by decide) ?_
        exact ih (k + 1) ls _ _ (by omega) hw (lv_sub hl [0, 2, 3] rfl)
      · refine lv_iload_n hx hb dX6_leastPrice_34 rfl (lv_at hl 2 rfl) ?_
        refine lv_iconst (v := (-1)) hx hb dX6_leastPrice_35 (by decide) ?_
        refine lv_icmp_eq (tgt := 47) hx hb dX6_leastPrice_36 (by decide) (fun cb => ?_) (fun cb => ?_)
        · refine lv_aload_n hx hb dX6_leastPrice_47 rfl (lv_at hl 0 rfl) ?_
          refine tg_getN (v := .int (nI (vMN v k 1))) hx hb hown hAm hw lyX3 hm_k rfl 1 (by decide) qw_372 (fun _ h9 => h9) rfl dX6_leastPrice_48 ?_
          refine lv_istore_n (lv' := [(1, .int (nI (vMN v k 1))), (3, .ref (ad (32 + k))), (2, .int (nI k)), (0, .ref (ad 8))]) hx hb dX6_leastPrice_51 rfl hl (by decide) rfl (fun ls hl => ?_)
          have e9 : lpR v (k + 1) = nI (vMN v k 1) := lpS_n ca cb
          rw [← e9] at hl
          refine lv_iinc (v := nI (k + 1)) (lv' := [(2, .int (nI (k + 1))), (1, .int (lpR v (k + 1))), (3, .ref (ad (32 + k))), (0, .ref (ad 8))]) hx hb dX6_leastPrice_52 hl (k := 2) rfl (nI_1 _) (by decide) rfl (fun ls hl => ?_)
          refine lv_goto (tgt := 4) hx hb dX6_leastPrice_55 (by decide) ?_
          exact ih (k + 1) ls _ _ (by omega) hw (lv_sub hl [0, 1, 3] rfl)
        · refine lv_aload_n hx hb dX6_leastPrice_39 rfl (lv_at hl 0 rfl) ?_
          refine tg_getN (v := .int (nI (vMN v k 1))) hx hb hown hAm hw lyX3 hm_k rfl 1 (by decide) qw_372 (fun _ h9 => h9) rfl dX6_leastPrice_40 ?_
          refine lv_iload_n hx hb dX6_leastPrice_43 rfl (lv_at hl 2 rfl) ?_
          refine lv_icmp_ge (tgt := 52) hx hb dX6_leastPrice_44 (by decide) (fun cc => ?_) (fun cc => ?_)
          · have e9 : lpR v (k + 1) = lpR v k := lpS_g ca cb (Int32.not_lt.mpr cc)
            rw [← e9] at hl
            refine lv_iinc (v := nI (k + 1)) (lv' := [(2, .int (nI (k + 1))), (3, .ref (ad (32 + k))), (1, .int (lpR v (k + 1))), (0, .ref (ad 8))]) hx hb dX6_leastPrice_52 hl (k := 1) rfl (nI_1 _) (by decide) rfl (fun ls hl => ?_)
            refine lv_goto (tgt := 4) hx hb dX6_leastPrice_55 (by decide) ?_
            exact ih (k + 1) ls _ _ (by omega) hw (lv_sub hl [0, 2, 3] rfl)
          · refine lv_aload_n hx hb dX6_leastPrice_47 rfl (lv_at hl 0 rfl) ?_
            refine tg_getN (v := .int (nI (vMN v k 1))) hx hb hown hAm hw lyX3 hm_k rfl 1 (by decide) qw_372 (fun _ h9 => h9) rfl dX6_leastPrice_48 ?_
            refine lv_istore_n (lv' := [(1, .int (nI (vMN v k 1))), (3, .ref (ad (32 + k))), (2, .int (nI k)), (0, .ref (ad 8))]) hx hb dX6_leastPrice_51 rfl hl (by decide) rfl (fun ls hl => ?_)
            have e9 : lpR v (k + 1) = nI (vMN v k 1) := lpS_l ca (Int32.not_le.mp cc)
            rw [← e9] at hl
            refine lv_iinc (v := nI (k + 1)) (lv' := [(2, .int (nI (k + 1))), (1, .int (lpR v (k + 1))), (3, .ref (ad (32 + k))), (0, .ref (ad 8))]) hx hb dX6_leastPrice_52 hl (k := 2) rfl (nI_1 _) (by decide) rfl (fun ls hl => ?_)
            refine lv_goto (tgt := 4) hx hb dX6_leastPrice_55 (by decide) ?_
            exact ih (k + 1) ls _ _ (by omega) hw (lv_sub hl [0, 1, 3] rfl)
  refine lv_iconst (v := (-1)) hx hb dX6_leastPrice_0 (by decide) ?_
  refine lv_istore_n (lv' := [(1, .int (-1)), (0, .ref (ad 8))]) hx hb dX6_leastPrice_1 rfl hl (by decide) rfl (fun ls hl => ?_)
  refine lv_iconst (v := 0) hx hb dX6_leastPrice_2 (by decide) ?_
  refine lv_istore_n (lv' := [(2, .int 0), (1, .int (-1)), (0, .ref (ad 8))]) hx hb dX6_leastPrice_3 rfl hl (by decide) rfl (fun ls hl => ?_)
  exact loop 2 0 ls _ _ (by omega) hw hl
theorem hd_X6_leastPrice : yX6_leastPrice.cls ≠ "java/lang/invoke/MethodHandle" ∧ yX6_leastPrice.cls ≠ "java/lang/invoke/VarHandle" ∧ (parseMethodDescriptor yX6_leastPrice.desc).map (fun d => d.parameters.length) = some 0 := by decide +kernel
set_option maxHeartbeats 4000000 in
set_option maxRecDepth 100000 in
theorem co_minutesToFill (l : Launch) (E : rc_E) (sz : Nat) (ad : Nat → Nat) (v : av_V) (G : tg_G) (hI : ssH E ad v G) (c : Nat) (hc : c < 6) : tg_M l yX6_minutesToFill [Cond.code yX6_minutesToFill cX6_minutesToFill 4 (some FieldType.int)] { frames := 4, cells := 0, slots := 0, locals := 87 } E [.ref (ad 8), .ref (ad (40 + 3 * c))] G sz (tg_Qi E (fun r u => r = mtF v c ∧ u = G)) 0 0 := by
  refine tg_in (cc := cX6_minutesToFill) (maxL := 4) (ret := (some FieldType.int)) (tg_Qi E (fun r u => r = mtF v c ∧ u = G)) (by decide) rfl (Nat.le_of_ble_eq_true rfl) ?_
  intro p e s m args below meth cd ls A hx hb hr hml hown hlocks hin hA hAm hw hl
  have hown : s.vm.findClass RX6 = some m.cls := hown
  have hl : lv_has ls 4 [(0, .ref (ad 8)), (1, .ref (ad (40 + 3 * c)))] := hl
  obtain ⟨h0, hco, ⟨hLm, hLc, hLr⟩, hbi, hma, hch, hru⟩ := id hI
  have hn60 := h0.1
  have hc1 : G (40 + 3 * c) = some (ad (40 + 3 * c), .inr (2, [.ref (ad (41 + 3 * c)), .int (vC v c).1, .int (vC v c).2])) := (hch c (by omega)).1
  have hz1 := szN_le v c
  refine lv_bipush (v := 6) hx hb dX6_minutesToFill_0 (by decide) ?_
  refine lv_aload_n hx hb dX6_minutesToFill_2 rfl (lv_at hl 1 rfl) ?_
  refine tg_callRi (va_runVN (As := []) (rest := [.int 6]) (Ts := []) ⟨hx, hb, hml, hown, fun _ h9 => absurd h9 List.not_mem_nil⟩ (ch_size l E _ ad v c G (hI.cs (by omega))) (rc_cnV hAm qw_565 qw_5 qw_568 qw_567 qs_32 rfl rfl hd_X1_sampleSize ⟨Nat.le_of_ble_eq_true rfl, Nat.le_of_ble_eq_true rfl⟩) (tg_preV hAm hA hw hc1 (q := vwCl[2]) rfl) rfl rfl hl.1 rfl (lv_room (Nat.le_of_ble_eq_true rfl)) dX6_minutesToFill_3 ⟨Nat.le_of_ble_eq_true rfl, Nat.le_of_ble_eq_true rfl⟩) hA hw (fun H locs hw => ?_)
  refine lv_isub hx hb dX6_minutesToFill_6 ?_
  refine rc_topi (nI (6 - (szN v c))) (pk_sub (a := 6) (b := szN v c) (by omega)) ?_
  refine lv_istore_n (lv' := [(2, .int (nI (6 - (szN v c)))), (0, .ref (ad 8)), (1, .ref (ad (40 + 3 * c)))]) hx hb dX6_minutesToFill_7 rfl hl (by decide) rfl (fun ls hl => ?_)
  refine lv_iload_n hx hb dX6_minutesToFill_8 rfl (lv_at hl 0 rfl) ?_
  refine lv_if_ne (tgt := 14) hx hb dX6_minutesToFill_9 (by decide) (fun c_1 => ?_) (fun c_1 => ?_)
  · have c_1 := mt (nI_eq (a := 6 - (szN v c)) (b := 0) (by omega) (by omega)).mpr c_1
    refine lv_aload_n hx hb dX6_minutesToFill_14 rfl (lv_at hl 1 rfl) ?_
    refine tg_callRi (va_runV (As := []) (rest := []) (Ts := []) ⟨hx, hb, hml, hown, fun _ h9 => absurd h9 List.not_mem_nil⟩ (co_leastPrice l E _ ad v G hI) (rc_cwV hAm qw_582 qw_1 qw_585 qw_584 qs_36 rfl rfl hd_X6_leastPrice ⟨Nat.le_of_ble_eq_true rfl, Nat.le_of_ble_eq_true rfl⟩) (tg_preV hAm hA hw hco (q := vwCl[7]) rfl) rfl rfl hl.1 rfl (lv_room (Nat.le_of_ble_eq_true rfl)) dX6_minutesToFill_15 ⟨Nat.le_of_ble_eq_true rfl, Nat.le_of_ble_eq_true rfl⟩) hA hw (fun H locs hw => ?_)
    refine lv_istore_n (lv' := [(3, .int (lpR v 2)), (2, .int (nI (6 - (szN v c)))), (0, .ref (ad 8)), (1, .ref (ad (40 + 3 * c)))]) hx hb dX6_minutesToFill_18 rfl hl (by decide) rfl (fun ls hl => ?_)
    refine lv_iload_n hx hb dX6_minutesToFill_19 rfl (lv_at hl 0 rfl) ?_
    refine lv_iconst (v := (-1)) hx hb dX6_minutesToFill_20 (by decide) ?_
    refine lv_icmp_ne (tgt := 28) hx hb dX6_minutesToFill_21 (by decide) (fun cl => ?_) (fun cl => ?_)
    · refine lv_iload_n hx hb dX6_minutesToFill_28 rfl (lv_at hl 1 rfl) ?_
      refine lv_iload_n hx hb dX6_minutesToFill_29 rfl (lv_at hl 0 rfl) ?_
      refine lv_imul hx hb dX6_minutesToFill_30 ?_
      exact tg_iret hx hb hr hlocks hw (⟨((if_neg (by omega)).trans (if_neg cl)).symm, rfl⟩) (Nat.le_of_ble_eq_true rfl) (Nat.le_of_ble_eq_true rfl) dX6_minutesToFill_31
    · refine lv_iconst (v := (-1)) hx hb dX6_minutesToFill_24 (by decide) ?_
      refine lv_goto (tgt := 31) hx hb dX6_minutesToFill_25 (by decide) ?_
      exact tg_iret hx hb hr hlocks hw (⟨((if_neg (by omega)).trans (if_pos cl)).symm, rfl⟩) (Nat.le_of_ble_eq_true rfl) (Nat.le_of_ble_eq_true rfl) dX6_minutesToFill_31
  · have c_1 := (nI_eq (a := 6 - (szN v c)) (b := 0) (by omega) (by omega)).mp c_1
    refine lv_iconst (v := 0) hx hb dX6_minutesToFill_12 (by decide) ?_
    exact tg_iret hx hb hr hlocks hw (⟨(if_pos (by omega)).symm, rfl⟩) (Nat.le_of_ble_eq_true rfl) (Nat.le_of_ble_eq_true rfl) dX6_minutesToFill_13
