set_option maxHeartbeats 4000000 in
set_option maxRecDepth 100000 in
theorem co_changeFact0 (l : Launch) (E : rc_E) (sz : Nat) (ad : Nat → Nat) (v : av_V) (G : tg_G) (hI : ssH E ad v G) (hS : scH E ad G) (c : Nat) (hc : c < 6) : tg_M l yX6_changeFact [Cond.code yX6_changeFact cX6_changeFact 3 (some FieldType.int)] { frames := 4, cells := 0, slots := 0, locals := 87 } E [.ref (ad 8), .ref (ad (40 + 3 * c)), .int 0] G sz (tg_Qi E (fun r u => r = nI ((ixs v c).length) ∧ smH E u 15 (ad 15) (ad 16) (samp v c) ∧ ∀ t9, t9 < 15 ∨ 17 ≤ t9 → u t9 = G t9)) 0 0 := by
  refine tg_in (cc := cX6_changeFact) (maxL := 3) (ret := (some FieldType.int)) (tg_Qi E (fun r u => r = nI ((ixs v c).length) ∧ smH E u 15 (ad 15) (ad 16) (samp v c) ∧ ∀ t9, t9 < 15 ∨ 17 ≤ t9 → u t9 = G t9)) (by decide) rfl (Nat.le_of_ble_eq_true rfl) ?_
  intro p e s m args below meth cd ls A hx hb hr hml hown hlocks hin hA hAm hw hl
  have hown : s.vm.findClass RX6 = some m.cls := hown
  have hl : lv_has ls 3 [(0, .ref (ad 8)), (1, .ref (ad (40 + 3 * c))), (2, .int 0)] := hl
  obtain ⟨h0, hco, ⟨hLm, hLc, hLr⟩, hbi, hma, hch, hru⟩ := id hI
  have hn60 := h0.1
  obtain ⟨⟨L1, h15, ⟨f15, h16, -⟩, -, -⟩, -⟩ := id hS
  have HO := fun (t9 : Nat) (_ : t9 < 15 ∨ 17 ≤ t9) => (rfl : G t9 = G t9)
  have hcc : G (40 + 3 * c) = some (ad (40 + 3 * c), .inr (2, [.ref (ad (41 + 3 * c)), .int (vC v c).1, .int (vC v c).2])) := (hch c (by omega)).1
  obtain ⟨mc9, la9, hl9, -⟩ := id (hch c (by omega)).2
  refine lv_aload_n hx hb dX6_changeFact_0 rfl (lv_at hl 0 rfl) ?_
  refine tg_get (v := .ref (ad 15)) hx hb hown hAm hw lyX6 hco rfl 4 (by decide) qw_229 (fun _ h9 => h9) rfl dX6_changeFact_1 ?_
  refine tg_callv (va_runVN (As := []) (rest := []) (Ts := []) ⟨hx, hb, hml, hown, fun _ h9 => absurd h9 List.not_mem_nil⟩ (sm_clear l E _ G (n9 := L1.length) h15) (rc_cnV hAm qw_428 qw_6 qw_431 qw_430 qs_8 rfl rfl hd_X5_clear ⟨Nat.le_of_ble_eq_true rfl, Nat.le_of_ble_eq_true rfl⟩) (tg_preV hAm hA hw h15 (q := vwCl[6]) rfl) rfl rfl hl.1 rfl (lv_room (Nat.le_of_ble_eq_true rfl)) dX6_changeFact_4 ⟨Nat.le_of_ble_eq_true rfl, Nat.le_of_ble_eq_true rfl⟩) hA hw (fun G_1 H locs hp hw => ?_)
  obtain ⟨h15, hu⟩ := hp
  have hco := (hu 8 (by omega)).trans hco
  have h16 := (hu 16 (by omega)).trans h16
  have hcc := (hu (40 + 3 * c) (by omega)).trans hcc
  have hl9 := (hu (41 + 3 * c) (by omega)).trans hl9
  have hI := hI.scr (fun t9 h9 => hu t9 (by omega))
  have HO := fun (t9 : Nat) (h9 : t9 < 15 ∨ 17 ≤ t9) => (hu t9 (by omega)).trans (HO t9 h9)
  refine lv_aload_n hx hb dX6_changeFact_7 rfl (lv_at hl 0 rfl) ?_
  refine tg_get (v := .ref (ad 15)) hx hb hown hAm hw lyX6 hco rfl 4 (by decide) qw_229 (fun _ h9 => h9) rfl dX6_changeFact_8 ?_
  refine lv_aload_n hx hb dX6_changeFact_11 rfl (lv_at hl 1 rfl) ?_
  refine tg_callv (va_runVN (As := [.ref (ad (40 + 3 * c))]) (rest := []) (Ts := []) ⟨hx, hb, hml, hown, fun _ h9 => absurd h9 List.not_mem_nil⟩ (ch_addLastOf l E _ ad v c G_1 (hI.cs (by omega)) (t := 15) (by omega) h15 h16) (rc_cnV hAm qw_450 qw_6 qw_453 qw_452 qs_10 rfl rfl hd_X5_addLastOf ⟨Nat.le_of_ble_eq_true rfl, Nat.le_of_ble_eq_true rfl⟩) (tg_preV hAm hA hw h15 (q := vwCl[6]) rfl) rfl rfl hl.1 rfl (lv_room (Nat.le_of_ble_eq_true rfl)) dX6_changeFact_12 ⟨Nat.le_of_ble_eq_true rfl, Nat.le_of_ble_eq_true rfl⟩) hA hw (fun G_3 H locs hp hw => ?_)
  obtain ⟨hm15, hu⟩ := hp
  have hco := (hu 8 (by omega)).trans hco
  have hcc := (hu (40 + 3 * c) (by omega)).trans hcc
  have hl9 := (hu (41 + 3 * c) (by omega)).trans hl9
  have hI := hI.scr (fun t9 h9 => hu t9 (by omega))
  have HO := fun (t9 : Nat) (h9 : t9 < 15 ∨ 17 ≤ t9) => (hu t9 (by omega)).trans (HO t9 h9)
  obtain ⟨h15, ⟨f15, h16, hf15⟩, hl15, hb15⟩ := id hm15
  refine lv_iload_n hx hb dX6_changeFact_15 rfl (lv_at hl 2 rfl) ?_
  refine lv_tableIn (tgt := 52) hx hb dX6_changeFact_16 (by decide) (by decide) rfl (by decide) ?_
  refine lv_aload_n hx hb dX6_changeFact_52 rfl (lv_at hl 1 rfl) ?_
  refine tg_getN (v := .ref (ad (41 + 3 * c))) hx hb hown hAm hw lyX1 hcc rfl 0 (by decide) qw_69 (fun _ h9 => h9) rfl dX6_changeFact_53 ?_
  refine tg_callRi (va_runV (As := []) (rest := []) (Ts := []) ⟨hx, hb, hml, hown, fun _ h9 => absurd h9 List.not_mem_nil⟩ (lf_size l E _ G_3 (n := (ixs v c).length) hl9) (rc_cwV hAm qw_343 qw_4 qw_346 qw_344 qw_345 rfl rfl hd_Jx4a65c_size_8abf5 ⟨Nat.le_of_ble_eq_true rfl, Nat.le_of_ble_eq_true rfl⟩) (tg_preV hAm hA hw hl9 (q := vwCl[0]) rfl) rfl rfl hl.1 rfl (lv_room (Nat.le_of_ble_eq_true rfl)) dX6_changeFact_56 ⟨Nat.le_of_ble_eq_true rfl, Nat.le_of_ble_eq_true rfl⟩) hA hw (fun H locs hw => ?_)
  exact tg_iret hx hb hr hlocks hw (⟨rfl, hm15, HO⟩) (Nat.le_of_ble_eq_true rfl) (Nat.le_of_ble_eq_true rfl) dX6_changeFact_59
set_option maxHeartbeats 4000000 in
set_option maxRecDepth 100000 in
theorem co_changeFact1 (l : Launch) (E : rc_E) (sz : Nat) (ad : Nat → Nat) (v : av_V) (G : tg_G) (hI : ssH E ad v G) (hS : scH E ad G) (c : Nat) (hc : c < 6) : tg_M l yX6_changeFact [Cond.code yX6_changeFact cX6_changeFact 3 (some FieldType.int)] { frames := 4, cells := 0, slots := 0, locals := 87 } E [.ref (ad 8), .ref (ad (40 + 3 * c)), .int 1] G sz (tg_Qi E (fun r u => r = nI ((samp v c).length) ∧ smH E u 15 (ad 15) (ad 16) (samp v c) ∧ ∀ t9, t9 < 15 ∨ 17 ≤ t9 → u t9 = G t9)) 0 0 := by
  refine tg_in (cc := cX6_changeFact) (maxL := 3) (ret := (some FieldType.int)) (tg_Qi E (fun r u => r = nI ((samp v c).length) ∧ smH E u 15 (ad 15) (ad 16) (samp v c) ∧ ∀ t9, t9 < 15 ∨ 17 ≤ t9 → u t9 = G t9)) (by decide) rfl (Nat.le_of_ble_eq_true rfl) ?_
  intro p e s m args below meth cd ls A hx hb hr hml hown hlocks hin hA hAm hw hl
  have hown : s.vm.findClass RX6 = some m.cls := hown
  have hl : lv_has ls 3 [(0, .ref (ad 8)), (1, .ref (ad (40 + 3 * c))), (2, .int 1)] := hl
  obtain ⟨h0, hco, ⟨hLm, hLc, hLr⟩, hbi, hma, hch, hru⟩ := id hI
  have hn60 := h0.1
  obtain ⟨⟨L1, h15, ⟨f15, h16, -⟩, -, -⟩, -⟩ := id hS
  have HO := fun (t9 : Nat) (_ : t9 < 15 ∨ 17 ≤ t9) => (rfl : G t9 = G t9)
  have hcc : G (40 + 3 * c) = some (ad (40 + 3 * c), .inr (2, [.ref (ad (41 + 3 * c)), .int (vC v c).1, .int (vC v c).2])) := (hch c (by omega)).1
  obtain ⟨mc9, la9, hl9, -⟩ := id (hch c (by omega)).2
  refine lv_aload_n hx hb dX6_changeFact_0 rfl (lv_at hl 0 rfl) ?_
  refine tg_get (v := .ref (ad 15)) hx hb hown hAm hw lyX6 hco rfl 4 (by decide) qw_229 (fun _ h9 => h9) rfl dX6_changeFact_1 ?_
  refine tg_callv (va_runVN (As := []) (rest := []) (Ts := []) ⟨hx, hb, hml, hown, fun _ h9 => absurd h9 List.not_mem_nil⟩ (sm_clear l E _ G (n9 := L1.length) h15) (rc_cnV hAm qw_428 qw_6 qw_431 qw_430 qs_8 rfl rfl hd_X5_clear ⟨Nat.le_of_ble_eq_true rfl, Nat.le_of_ble_eq_true rfl⟩) (tg_preV hAm hA hw h15 (q := vwCl[6]) rfl) rfl rfl hl.1 rfl (lv_room (Nat.le_of_ble_eq_true rfl)) dX6_changeFact_4 ⟨Nat.le_of_ble_eq_true rfl, Nat.le_of_ble_eq_true rfl⟩) hA hw (fun G_1 H locs hp hw => ?_)
  obtain ⟨h15, hu⟩ := hp
  have hco := (hu 8 (by omega)).trans hco
  have h16 := (hu 16 (by omega)).trans h16
  have hcc := (hu (40 + 3 * c) (by omega)).trans hcc
  have hl9 := (hu (41 + 3 * c) (by omega)).trans hl9
  have hI := hI.scr (fun t9 h9 => hu t9 (by omega))
  have HO := fun (t9 : Nat) (h9 : t9 < 15 ∨ 17 ≤ t9) => (hu t9 (by omega)).trans (HO t9 h9)
  refine lv_aload_n hx hb dX6_changeFact_7 rfl (lv_at hl 0 rfl) ?_
  refine tg_get (v := .ref (ad 15)) hx hb hown hAm hw lyX6 hco rfl 4 (by decide) qw_229 (fun _ h9 => h9) rfl dX6_changeFact_8 ?_
  refine lv_aload_n hx hb dX6_changeFact_11 rfl (lv_at hl 1 rfl) ?_
  refine tg_callv (va_runVN (As := [.ref (ad (40 + 3 * c))]) (rest := []) (Ts := []) ⟨hx, hb, hml, hown, fun _ h9 => absurd h9 List.not_mem_nil⟩ (ch_addLastOf l E _ ad v c G_1 (hI.cs (by omega)) (t := 15) (by omega) h15 h16) (rc_cnV hAm qw_450 qw_6 qw_453 qw_452 qs_10 rfl rfl hd_X5_addLastOf ⟨Nat.le_of_ble_eq_true rfl, Nat.le_of_ble_eq_true rfl⟩) (tg_preV hAm hA hw h15 (q := vwCl[6]) rfl) rfl rfl hl.1 rfl (lv_room (Nat.le_of_ble_eq_true rfl)) dX6_changeFact_12 ⟨Nat.le_of_ble_eq_true rfl, Nat.le_of_ble_eq_true rfl⟩) hA hw (fun G_3 H locs hp hw => ?_)
  obtain ⟨hm15, hu⟩ := hp
  have hco := (hu 8 (by omega)).trans hco
  have hcc := (hu (40 + 3 * c) (by omega)).trans hcc
  have hl9 := (hu (41 + 3 * c) (by omega)).trans hl9
  have hI := hI.scr (fun t9 h9 => hu t9 (by omega))
  have HO := fun (t9 : Nat) (h9 : t9 < 15 ∨ 17 ≤ t9) => (hu t9 (by omega)).trans (HO t9 h9)
  obtain ⟨h15, ⟨f15, h16, hf15⟩, hl15, hb15⟩ := id hm15
  refine lv_iload_n hx hb dX6_changeFact_15 rfl (lv_at hl 2 rfl) ?_
  refine lv_tableIn (tgt := 60) hx hb dX6_changeFact_16 (by decide) (by decide) rfl (by decide) ?_
  refine lv_aload_n hx hb dX6_changeFact_60 rfl (lv_at hl 0 rfl) ?_
  refine tg_get (v := .ref (ad 15)) hx hb hown hAm hw lyX6 hco rfl 4 (by decide) qw_229 (fun _ h9 => h9) rfl dX6_changeFact_61 ?_
  refine tg_getN (v := .int (nI ((samp v c).length))) hx hb hown hAm hw lyX5 h15 rfl 1 (by decide) qw_90 (fun _ h9 => h9) rfl dX6_changeFact_64 ?_
  exact tg_iret hx hb hr hlocks hw (⟨rfl, hm15, HO⟩) (Nat.le_of_ble_eq_true rfl) (Nat.le_of_ble_eq_true rfl) dX6_changeFact_67
set_option maxHeartbeats 4000000 in
set_option maxRecDepth 100000 in
theorem co_changeFact2 (l : Launch) (E : rc_E) (sz : Nat) (ad : Nat → Nat) (v : av_V) (G : tg_G) (hI : ssH E ad v G) (hS : scH E ad G) (c : Nat) (hc : c < 6) : tg_M l yX6_changeFact [Cond.code yX6_changeFact cX6_changeFact 3 (some FieldType.int)] { frames := 4, cells := 0, slots := 0, locals := 87 } E [.ref (ad 8), .ref (ad (40 + 3 * c)), .int 2] G sz (tg_Qi E (fun r u => r = wAt (samp v c) (((samp v c).length - 1) / 2) ∧ smH E u 15 (ad 15) (ad 16) (samp v c) ∧ ∀ t9, t9 < 15 ∨ 17 ≤ t9 → u t9 = G t9)) 0 0 := by
  refine tg_in (cc := cX6_changeFact) (maxL := 3) (ret := (some FieldType.int)) (tg_Qi E (fun r u => r = wAt (samp v c) (((samp v c).length - 1) / 2) ∧ smH E u 15 (ad 15) (ad 16) (samp v c) ∧ ∀ t9, t9 < 15 ∨ 17 ≤ t9 → u t9 = G t9)) (by decide) rfl (Nat.le_of_ble_eq_true rfl) ?_
  intro p e s m args below meth cd ls A hx hb hr hml hown hlocks hin hA hAm hw hl
  have hown : s.vm.findClass RX6 = some m.cls := hown
  have hl : lv_has ls 3 [(0, .ref (ad 8)), (1, .ref (ad (40 + 3 * c))), (2, .int 2)] := hl
  obtain ⟨h0, hco, ⟨hLm, hLc, hLr⟩, hbi, hma, hch, hru⟩ := id hI
  have hn60 := h0.1
  obtain ⟨⟨L1, h15, ⟨f15, h16, -⟩, -, -⟩, -⟩ := id hS
  have HO := fun (t9 : Nat) (_ : t9 < 15 ∨ 17 ≤ t9) => (rfl : G t9 = G t9)
  have hcc : G (40 + 3 * c) = some (ad (40 + 3 * c), .inr (2, [.ref (ad (41 + 3 * c)), .int (vC v c).1, .int (vC v c).2])) := (hch c (by omega)).1
  obtain ⟨mc9, la9, hl9, -⟩ := id (hch c (by omega)).2
  refine lv_aload_n hx hb dX6_changeFact_0 rfl (lv_at hl 0 rfl) ?_
  refine tg_get (v := .ref (ad 15)) hx hb hown hAm hw lyX6 hco rfl 4 (by decide) qw_229 (fun _ h9 => h9) rfl dX6_changeFact_1 ?_
  refine tg_callv (va_runVN (As := []) (rest := []) (Ts := []) ⟨hx, hb, hml, hown, fun _ h9 => absurd h9 List.not_mem_nil⟩ (sm_clear l E _ G (n9 := L1.length) h15) (rc_cnV hAm qw_428 qw_6 qw_431 qw_430 qs_8 rfl rfl hd_X5_clear ⟨Nat.le_of_ble_eq_true rfl, Nat.le_of_ble_eq_true rfl⟩) (tg_preV hAm hA hw h15 (q := vwCl[6]) rfl) rfl rfl hl.1 rfl (lv_room (Nat.le_of_ble_eq_true rfl)) dX6_changeFact_4 ⟨Nat.le_of_ble_eq_true rfl, Nat.le_of_ble_eq_true rfl⟩) hA hw (fun G_1 H locs hp hw => ?_)
  obtain ⟨h15, hu⟩ := hp
  have hco := (hu 8 (by omega)).trans hco
  have h16 := (hu 16 (by omega)).trans h16
  have hcc := (hu (40 + 3 * c) (by omega)).trans hcc
  have hl9 := (hu (41 + 3 * c) (by omega)).trans hl9
  have hI := hI.scr (fun t9 h9 => hu t9 (by omega))
  have HO := fun (t9 : Nat) (h9 : t9 < 15 ∨ 17 ≤ t9) => (hu t9 (by omega)).trans (HO t9 h9)
  refine lv_aload_n hx hb dX6_changeFact_7 rfl (lv_at hl 0 rfl) ?_
  refine tg_get (v := .ref (ad 15)) hx hb hown hAm hw lyX6 hco rfl 4 (by decide) qw_229 (fun _ h9 => h9) rfl dX6_changeFact_8 ?_
  refine lv_aload_n hx hb dX6_changeFact_11 rfl (lv_at hl 1 rfl) ?_
  refine tg_callv (va_runVN (As := [.ref (ad (40 + 3 * c))]) (rest := []) (Ts := []) ⟨hx, hb, hml, hown, fun _ h9 => absurd h9 List.not_mem_nil⟩ (ch_addLastOf l E _ ad v c G_1 (hI.cs (by omega)) (t := 15) (by omega) h15 h16) (rc_cnV hAm qw_450 qw_6 qw_453 qw_452 qs_10 rfl rfl hd_X5_addLastOf ⟨Nat.le_of_ble_eq_true rfl, Nat.le_of_ble_eq_true rfl⟩) (tg_preV hAm hA hw h15 (q := vwCl[6]) rfl) rfl rfl hl.1 rfl (lv_room (Nat.le_of_ble_eq_true rfl)) dX6_changeFact_12 ⟨Nat.le_of_ble_eq_true rfl, Nat.le_of_ble_eq_true rfl⟩) hA hw (fun G_3 H locs hp hw => ?_)
  obtain ⟨hm15, hu⟩ := hp
  have hco := (hu 8 (by omega)).trans hco
  have hcc := (hu (40 + 3 * c) (by omega)).trans hcc
  have hl9 := (hu (41 + 3 * c) (by omega)).trans hl9
  have hI := hI.scr (fun t9 h9 => hu t9 (by omega))
  have HO := fun (t9 : Nat) (h9 : t9 < 15 ∨ 17 ≤ t9) => (hu t9 (by omega)).trans (HO t9 h9)
  obtain ⟨h15, ⟨f15, h16, hf15⟩, hl15, hb15⟩ := id hm15
  refine lv_iload_n hx hb dX6_changeFact_15 rfl (lv_at hl 2 rfl) ?_
  refine lv_tableIn (tgt := 68) hx hb dX6_changeFact_16 (by decide) (by decide) rfl (by decide) ?_
  refine lv_aload_n hx hb dX6_changeFact_68 rfl (lv_at hl 0 rfl) ?_
  refine tg_get (v := .ref (ad 15)) hx hb hown hAm hw lyX6 hco rfl 4 (by decide) qw_229 (fun _ h9 => h9) rfl dX6_changeFact_69 ?_
  refine lv_aload_n hx hb dX6_changeFact_72 rfl (lv_at hl 0 rfl) ?_
  refine tg_get (v := .ref (ad 15)) hx hb hown hAm hw lyX6 hco rfl 4 (by decide) qw_229 (fun _ h9 => h9) rfl dX6_changeFact_73 ?_
  refine tg_getN (v := .int (nI ((samp v c).length))) hx hb hown hAm hw lyX5 h15 rfl 1 (by decide) qw_90 (fun _ h9 => h9) rfl dX6_changeFact_76 ?_
  refine lv_iconst (v := 1) hx hb dX6_changeFact_79 (by decide) ?_
  refine lv_isub hx hb dX6_changeFact_80 ?_
  refine lv_iconst (v := 2) hx hb dX6_changeFact_81 (by decide) ?_
  refine lv_idiv hx hb dX6_changeFact_82 (by decide) ?_
  refine rc_topi (nI (((samp v c).length - 1) / 2)) (nb_half (by omega)) ?_
  refine tg_callRi (va_runVN (As := [.int (nI (((samp v c).length - 1) / 2))]) (rest := []) (Ts := []) ⟨hx, hb, hml, hown, fun _ h9 => absurd h9 List.not_mem_nil⟩ (sm_worthAt l E _ G_3 (L := samp v c) (((samp v c).length - 1) / 2) hf15 (by omega) (by omega) h15 h16) (rc_cnV hAm qw_577 qw_6 qw_477 qw_476 qs_15 rfl rfl hd_X5_worthAt ⟨Nat.le_of_ble_eq_true rfl, Nat.le_of_ble_eq_true rfl⟩) (tg_preV hAm hA hw h15 (q := vwCl[6]) rfl) rfl rfl hl.1 rfl (lv_room (Nat.le_of_ble_eq_true rfl)) dX6_changeFact_83 ⟨Nat.le_of_ble_eq_true rfl, Nat.le_of_ble_eq_true rfl⟩) hA hw (fun H locs hw => ?_)
  exact tg_iret hx hb hr hlocks hw (⟨rfl, hm15, HO⟩) (Nat.le_of_ble_eq_true rfl) (Nat.le_of_ble_eq_true rfl) dX6_changeFact_86
set_option maxHeartbeats 4000000 in
set_option maxRecDepth 100000 in
theorem co_changeFact3 (l : Launch) (E : rc_E) (sz : Nat) (ad : Nat → Nat) (v : av_V) (G : tg_G) (hI : ssH E ad v G) (hS : scH E ad G) (c : Nat) (hc : c < 6) : tg_M l yX6_changeFact [Cond.code yX6_changeFact cX6_changeFact 3 (some FieldType.int)] { frames := 4, cells := 0, slots := 0, locals := 87 } E [.ref (ad 8), .ref (ad (40 + 3 * c)), .int 3] G sz (tg_Qi E (fun r u => r = wAt (samp v c) 0 ∧ smH E u 15 (ad 15) (ad 16) (samp v c) ∧ ∀ t9, t9 < 15 ∨ 17 ≤ t9 → u t9 = G t9)) 0 0 := by
  refine tg_in (cc := cX6_changeFact) (maxL := 3) (ret := (some FieldType.int)) (tg_Qi E (fun r u => r = wAt (samp v c) 0 ∧ smH E u 15 (ad 15) (ad 16) (samp v c) ∧ ∀ t9, t9 < 15 ∨ 17 ≤ t9 → u t9 = G t9)) (by decide) rfl (Nat.le_of_ble_eq_true rfl) ?_
  intro p e s m args below meth cd ls A hx hb hr hml hown hlocks hin hA hAm hw hl
  have hown : s.vm.findClass RX6 = some m.cls := hown
  have hl : lv_has ls 3 [(0, .ref (ad 8)), (1, .ref (ad (40 + 3 * c))), (2, .int 3)] := hl
  obtain ⟨h0, hco, ⟨hLm, hLc, hLr⟩, hbi, hma, hch, hru⟩ := id hI
  have hn60 := h0.1
  obtain ⟨⟨L1, h15, ⟨f15, h16, -⟩, -, -⟩, -⟩ := id hS
  have HO := fun (t9 : Nat) (_ : t9 < 15 ∨ 17 ≤ t9) => (rfl : G t9 = G t9)
  have hcc : G (40 + 3 * c) = some (ad (40 + 3 * c), .inr (2, [.ref (ad (41 + 3 * c)), .int (vC v c).1, .int (vC v c).2])) := (hch c (by omega)).1
  obtain ⟨mc9, la9, hl9, -⟩ := id (hch c (by omega)).2
  refine lv_aload_n hx hb dX6_changeFact_0 rfl (lv_at hl 0 rfl) ?_
  refine tg_get (v := .ref (ad 15)) hx hb hown hAm hw lyX6 hco rfl 4 (by decide) qw_229 (fun _ h9 => h9) rfl dX6_changeFact_1 ?_
  refine tg_callv (va_runVN (As := []) (rest := []) (Ts := []) ⟨hx, hb, hml, hown, fun _ h9 => absurd h9 List.not_mem_nil⟩ (sm_clear l E _ G (n9 := L1.length) h15) (rc_cnV hAm qw_428 qw_6 qw_431 qw_430 qs_8 rfl rfl hd_X5_clear ⟨Nat.le_of_ble_eq_true rfl, Nat.le_of_ble_eq_true rfl⟩) (tg_preV hAm hA hw h15 (q := vwCl[6]) rfl) rfl rfl hl.1 rfl (lv_room (Nat.le_of_ble_eq_true rfl)) dX6_changeFact_4 ⟨Nat.le_of_ble_eq_true rfl, Nat.le_of_ble_eq_true rfl⟩) hA hw (fun G_1 H locs hp hw => ?_)
  obtain ⟨h15, hu⟩ := hp
  have hco := (hu 8 (by omega)).trans hco
  have h16 := (hu 16 (by omega)).trans h16
  have hcc := (hu (40 + 3 * c) (by omega)).trans hcc
  have hl9 := (hu (41 + 3 * c) (by omega)).trans hl9
  have hI := hI.scr (fun t9 h9 => hu t9 (by omega))
  have HO := fun (t9 : Nat) (h9 : t9 < 15 ∨ 17 ≤ t9) => (hu t9 (by omega)).trans (HO t9 h9)
  refine lv_aload_n hx hb dX6_changeFact_7 rfl (lv_at hl 0 rfl) ?_
  refine tg_get (v := .ref (ad 15)) hx hb hown hAm hw lyX6 hco rfl 4 (by decide) qw_229 (fun _ h9 => h9) rfl dX6_changeFact_8 ?_
  refine lv_aload_n hx hb dX6_changeFact_11 rfl (lv_at hl 1 rfl) ?_
  refine tg_callv (va_runVN (As := [.ref (ad (40 + 3 * c))]) (rest := []) (Ts := []) ⟨hx, hb, hml, hown, fun _ h9 => absurd h9 List.not_mem_nil⟩ (ch_addLastOf l E _ ad v c G_1 (hI.cs (by omega)) (t := 15) (by omega) h15 h16) (rc_cnV hAm qw_450 qw_6 qw_453 qw_452 qs_10 rfl rfl hd_X5_addLastOf ⟨Nat.le_of_ble_eq_true rfl, Nat.le_of_ble_eq_true rfl⟩) (tg_preV hAm hA hw h15 (q := vwCl[6]) rfl) rfl rfl hl.1 rfl (lv_room (Nat.le_of_ble_eq_true rfl)) dX6_changeFact_12 ⟨Nat.le_of_ble_eq_true rfl, Nat.le_of_ble_eq_true rfl⟩) hA hw (fun G_3 H locs hp hw => ?_)
  obtain ⟨hm15, hu⟩ := hp
  have hco := (hu 8 (by omega)).trans hco
  have hcc := (hu (40 + 3 * c) (by omega)).trans hcc
  have hl9 := (hu (41 + 3 * c) (by omega)).trans hl9
  have hI := hI.scr (fun t9 h9 => hu t9 (by omega))
  have HO := fun (t9 : Nat) (h9 : t9 < 15 ∨ 17 ≤ t9) => (hu t9 (by omega)).trans (HO t9 h9)
  obtain ⟨h15, ⟨f15, h16, hf15⟩, hl15, hb15⟩ := id hm15
  refine lv_iload_n hx hb dX6_changeFact_15 rfl (lv_at hl 2 rfl) ?_
  refine lv_tableIn (tgt := 87) hx hb dX6_changeFact_16 (by decide) (by decide) rfl (by decide) ?_
  refine lv_aload_n hx hb dX6_changeFact_87 rfl (lv_at hl 0 rfl) ?_
  refine tg_get (v := .ref (ad 15)) hx hb hown hAm hw lyX6 hco rfl 4 (by decide) qw_229 (fun _ h9 => h9) rfl dX6_changeFact_88 ?_
  refine lv_iconst (v := 0) hx hb dX6_changeFact_91 (by decide) ?_
  refine tg_callRi (va_runVN (As := [.int 0]) (rest := []) (Ts := []) ⟨hx, hb, hml, hown, fun _ h9 => absurd h9 List.not_mem_nil⟩ (sm_worthAt l E _ G_3 (L := samp v c) 0 hf15 (by omega) (by omega) h15 h16) (rc_cnV hAm qw_577 qw_6 qw_477 qw_476 qs_15 rfl rfl hd_X5_worthAt ⟨Nat.le_of_ble_eq_true rfl, Nat.le_of_ble_eq_true rfl⟩) (tg_preV hAm hA hw h15 (q := vwCl[6]) rfl) rfl rfl hl.1 rfl (lv_room (Nat.le_of_ble_eq_true rfl)) dX6_changeFact_92 ⟨Nat.le_of_ble_eq_true rfl, Nat.le_of_ble_eq_true rfl⟩) hA hw (fun H locs hw => ?_)
  exact tg_iret hx hb hr hlocks hw (⟨rfl, hm15, HO⟩) (Nat.le_of_ble_eq_true rfl) (Nat.le_of_ble_eq_true rfl) dX6_changeFact_95
set_option maxHeartbeats 4000000 in
set_option maxRecDepth 100000 in
theorem co_changeFact4 (l : Launch) (E : rc_E) (sz : Nat) (ad : Nat → Nat) (v : av_V) (G : tg_G) (hI : ssH E ad v G) (hS : scH E ad G) (c : Nat) (hc : c < 6) : tg_M l yX6_changeFact [Cond.code yX6_changeFact cX6_changeFact 3 (some FieldType.int)] { frames := 4, cells := 0, slots := 0, locals := 87 } E [.ref (ad 8), .ref (ad (40 + 3 * c)), .int 4] G sz (tg_Qi E (fun r u => r = wAt (samp v c) ((samp v c).length - 1) ∧ smH E u 15 (ad 15) (ad 16) (samp v c) ∧ ∀ t9, t9 < 15 ∨ 17 ≤ t9 → u t9 = G t9)) 0 0 := by
  refine tg_in (cc := cX6_changeFact) (maxL := 3) (ret := (some FieldType.int)) (tg_Qi E (fun r u => r = wAt (samp v c) ((samp v c).length - 1) ∧ smH E u 15 (ad 15) (ad 16) (samp v c) ∧ ∀ t9, t9 < 15 ∨ 17 ≤ t9 → u t9 = G t9)) (by decide) rfl (Nat.le_of_ble_eq_true rfl) ?_
  intro p e s m args below meth cd ls A hx hb hr hml hown hlocks hin hA hAm hw hl
  have hown : s.vm.findClass RX6 = some m.cls := hown
  have hl : lv_has ls 3 [(0, .ref (ad 8)), (1, .ref (ad (40 + 3 * c))), (2, .int 4)] := hl
  obtain ⟨h0, hco, ⟨hLm, hLc, hLr⟩, hbi, hma, hch, hru⟩ := id hI
  have hn60 := h0.1
  obtain ⟨⟨L1, h15, ⟨f15, h16, -⟩, -, -⟩, -⟩ := id hS
  have HO := fun (t9 : Nat) (_ : t9 < 15 ∨ 17 ≤ t9) => (rfl : G t9 = G t9)
  have hcc : G (40 + 3 * c) = some (ad (40 + 3 * c), .inr (2, [.ref (ad (41 + 3 * c)), .int (vC v c).1, .int (vC v c).2])) := (hch c (by omega)).1
  obtain ⟨mc9, la9, hl9, -⟩ := id (hch c (by omega)).2
  refine lv_aload_n hx hb dX6_changeFact_0 rfl (lv_at hl 0 rfl) ?_
  refine tg_get (v := .ref (ad 15)) hx hb hown hAm hw lyX6 hco rfl 4 (by decide) qw_229 (fun _ h9 => h9) rfl dX6_changeFact_1 ?_
  refine tg_callv (va_runVN (As := []) (rest := []) (Ts := []) ⟨hx, hb, hml, hown, fun _ h9 => absurd h9 List.not_mem_nil⟩ (sm_clear l E _ G (n9 := L1.length) h15) (rc_cnV hAm qw_428 qw_6 qw_431 qw_430 qs_8 rfl rfl hd_X5_clear ⟨Nat.le_of_ble_eq_true rfl, Nat.le_of_ble_eq_true rfl⟩) (tg_preV hAm hA hw h15 (q := vwCl[6]) rfl) rfl rfl hl.1 rfl (lv_room (Nat.le_of_ble_eq_true rfl)) dX6_changeFact_4 ⟨Nat.le_of_ble_eq_true rfl, Nat.le_of_ble_eq_true rfl⟩) hA hw (fun G_1 H locs hp hw => ?_)
  obtain ⟨h15, hu⟩ := hp
  have hco := (hu 8 (by omega)).trans hco
  have h16 := (hu 16 (by omega)).trans h16
  have hcc := (hu (40 + 3 * c) (by omega)).trans hcc
  have hl9 := (hu (41 + 3 * c) (by omega)).trans hl9
  have hI := hI.scr (fun t9 h9 => hu t9 (by omega))
  have HO := fun (t9 : Nat) (h9 : t9 < 15 ∨ 17 ≤ t9) => (hu t9 (by omega)).trans (HO t9 h9)
  refine lv_aload_n hx hb dX6_changeFact_7 rfl (lv_at hl 0 rfl) ?_
  refine tg_get (v := .ref (ad 15)) hx hb hown hAm hw lyX6 hco rfl 4 (by decide) qw_229 (fun _ h9 => h9) rfl dX6_changeFact_8 ?_
  refine lv_aload_n hx hb dX6_changeFact_11 rfl (lv_at hl 1 rfl) ?_
  refine tg_callv (va_runVN (As := [.ref (ad (40 + 3 * c))]) (rest := []) (Ts := []) ⟨hx, hb, hml, hown, fun _ h9 => absurd h9 List.not_mem_nil⟩ (ch_addLastOf l E _ ad v c G_1 (hI.cs (by omega)) (t := 15) (by omega) h15 h16) (rc_cnV hAm qw_450 qw_6 qw_453 qw_452 qs_10 rfl rfl hd_X5_addLastOf ⟨Nat.le_of_ble_eq_true rfl, Nat.le_of_ble_eq_true rfl⟩) (tg_preV hAm hA hw h15 (q := vwCl[6]) rfl) rfl rfl hl.1 rfl (lv_room (Nat.le_of_ble_eq_true rfl)) dX6_changeFact_12 ⟨Nat.le_of_ble_eq_true rfl, Nat.le_of_ble_eq_true rfl⟩) hA hw (fun G_3 H locs hp hw => ?_)
  obtain ⟨hm15, hu⟩ := hp
  have hco := (hu 8 (by omega)).trans hco
  have hcc := (hu (40 + 3 * c) (by omega)).trans hcc
  have hl9 := (hu (41 + 3 * c) (by omega)).trans hl9
  have hI := hI.scr (fun t9 h9 => hu t9 (by omega))
  have HO := fun (t9 : Nat) (h9 : t9 < 15 ∨ 17 ≤ t9) => (hu t9 (by omega)).trans (HO t9 h9)
  obtain ⟨h15, ⟨f15, h16, hf15⟩, hl15, hb15⟩ := id hm15
  refine lv_iload_n hx hb dX6_changeFact_15 rfl (lv_at hl 2 rfl) ?_
  refine lv_tableIn (tgt := 96) hx hb dX6_changeFact_16 (by decide) (by decide) rfl (by decide) ?_
  refine lv_aload_n hx hb dX6_changeFact_96 rfl (lv_at hl 0 rfl) ?_
  refine tg_get (v := .ref (ad 15)) hx hb hown hAm hw lyX6 hco rfl 4 (by decide) qw_229 (fun _ h9 => h9) rfl dX6_changeFact_97 ?_
  refine lv_aload_n hx hb dX6_changeFact_100 rfl (lv_at hl 0 rfl) ?_
  refine tg_get (v := .ref (ad 15)) hx hb hown hAm hw lyX6 hco rfl 4 (by decide) qw_229 (fun _ h9 => h9) rfl dX6_changeFact_101 ?_
  refine tg_getN (v := .int (nI ((samp v c).length))) hx hb hown hAm hw lyX5 h15 rfl 1 (by decide) qw_90 (fun _ h9 => h9) rfl dX6_changeFact_104 ?_
  refine lv_iconst (v := 1) hx hb dX6_changeFact_107 (by decide) ?_
  refine lv_isub hx hb dX6_changeFact_108 ?_
  rcases Nat.eq_zero_or_pos (samp v c).length with hz | hz
  · refine rc_topi (-1) (by rw [hz]; rfl) ?_
    refine tg_callRi (va_runVN (As := [.int (-1)]) (rest := []) (Ts := []) ⟨hx, hb, hml, hown, fun _ h9 => absurd h9 List.not_mem_nil⟩ (sm_worthAtM l E _ G_3) (rc_cnV hAm qw_577 qw_6 qw_477 qw_476 qs_15 rfl rfl hd_X5_worthAt ⟨Nat.le_of_ble_eq_true rfl, Nat.le_of_ble_eq_true rfl⟩) (tg_preV hAm hA hw h15 (q := vwCl[6]) rfl) rfl rfl hl.1 rfl (lv_room (Nat.le_of_ble_eq_true rfl)) dX6_changeFact_109 ⟨Nat.le_of_ble_eq_true rfl, Nat.le_of_ble_eq_true rfl⟩) hA hw (fun H locs hw => ?_)
    exact tg_iret hx hb hr hlocks hw (⟨(if_neg (show ¬ (samp v c).length - 1 < (samp v c).length by omega)).symm, hm15, HO⟩) (Nat.le_of_ble_eq_true rfl) (Nat.le_of_ble_eq_true rfl) dX6_changeFact_112
  · refine rc_topi (nI ((samp v c).length - 1)) (pk_sub (a := (samp v c).length) (b := 1) (by omega)) ?_
    refine tg_callRi (va_runVN (As := [.int (nI ((samp v c).length - 1))]) (rest := []) (Ts := []) ⟨hx, hb, hml, hown, fun _ h9 => absurd h9 List.not_mem_nil⟩ (sm_worthAt l E _ G_3 (L := samp v c) ((samp v c).length - 1) hf15 (by omega) (by omega) h15 h16) (rc_cnV hAm qw_577 qw_6 qw_477 qw_476 qs_15 rfl rfl hd_X5_worthAt ⟨Nat.le_of_ble_eq_true rfl, Nat.le_of_ble_eq_true rfl⟩) (tg_preV hAm hA hw h15 (q := vwCl[6]) rfl) rfl rfl hl.1 rfl (lv_room (Nat.le_of_ble_eq_true rfl)) dX6_changeFact_109 ⟨Nat.le_of_ble_eq_true rfl, Nat.le_of_ble_eq_true rfl⟩) hA hw (fun H locs hw => ?_)
    exact tg_iret hx hb hr hlocks hw (⟨rfl, hm15, HO⟩) (Nat.le_of_ble_eq_true rfl) (Nat.le_of_ble_eq_true rfl) dX6_changeFact_112
set_option maxHeartbeats 4000000 in
set_option maxRecDepth 100000 in
theorem co_changeFact5 (l : Launch) (E : rc_E) (sz : Nat) (ad : Nat → Nat) (v : av_V) (G : tg_G) (hI : ssH E ad v G) (hS : scH E ad G) (c : Nat) (hc : c < 6) : tg_M l yX6_changeFact [Cond.code yX6_changeFact cX6_changeFact 3 (some FieldType.int)] { frames := 4, cells := 0, slots := 0, locals := 87 } E [.ref (ad 8), .ref (ad (40 + 3 * c)), .int 5] G sz (tg_Qi E (fun r u => r = chE v c ∧ smH E u 15 (ad 15) (ad 16) (samp v c) ∧ ∀ t9, t9 < 15 ∨ 17 ≤ t9 → u t9 = G t9)) 0 0 := by
  refine tg_in (cc := cX6_changeFact) (maxL := 3) (ret := (some FieldType.int)) (tg_Qi E (fun r u => r = chE v c ∧ smH E u 15 (ad 15) (ad 16) (samp v c) ∧ ∀ t9, t9 < 15 ∨ 17 ≤ t9 → u t9 = G t9)) (by decide) rfl (Nat.le_of_ble_eq_true rfl) ?_
  intro p e s m args below meth cd ls A hx hb hr hml hown hlocks hin hA hAm hw hl
  have hown : s.vm.findClass RX6 = some m.cls := hown
  have hl : lv_has ls 3 [(0, .ref (ad 8)), (1, .ref (ad (40 + 3 * c))), (2, .int 5)] := hl
  obtain ⟨h0, hco, ⟨hLm, hLc, hLr⟩, hbi, hma, hch, hru⟩ := id hI
  have hn60 := h0.1
  obtain ⟨⟨L1, h15, ⟨f15, h16, -⟩, -, -⟩, -⟩ := id hS
  have HO := fun (t9 : Nat) (_ : t9 < 15 ∨ 17 ≤ t9) => (rfl : G t9 = G t9)
  have hcc : G (40 + 3 * c) = some (ad (40 + 3 * c), .inr (2, [.ref (ad (41 + 3 * c)), .int (vC v c).1, .int (vC v c).2])) := (hch c (by omega)).1
  obtain ⟨mc9, la9, hl9, -⟩ := id (hch c (by omega)).2
  refine lv_aload_n hx hb dX6_changeFact_0 rfl (lv_at hl 0 rfl) ?_
  refine tg_get (v := .ref (ad 15)) hx hb hown hAm hw lyX6 hco rfl 4 (by decide) qw_229 (fun _ h9 => h9) rfl dX6_changeFact_1 ?_
  refine tg_callv (va_runVN (As := []) (rest := []) (Ts := []) ⟨hx, hb, hml, hown, fun _ h9 => absurd h9 List.not_mem_nil⟩ (sm_clear l E _ G (n9 := L1.length) h15) (rc_cnV hAm qw_428 qw_6 qw_431 qw_430 qs_8 rfl rfl hd_X5_clear ⟨Nat.le_of_ble_eq_true rfl, Nat.le_of_ble_eq_true rfl⟩) (tg_preV hAm hA hw h15 (q := vwCl[6]) rfl) rfl rfl hl.1 rfl (lv_room (Nat.le_of_ble_eq_true rfl)) dX6_changeFact_4 ⟨Nat.le_of_ble_eq_true rfl, Nat.le_of_ble_eq_true rfl⟩) hA hw (fun G_1 H locs hp hw => ?_)
  obtain ⟨h15, hu⟩ := hp
  have hco := (hu 8 (by omega)).trans hco
  have h16 := (hu 16 (by omega)).trans h16
  have hcc := (hu (40 + 3 * c) (by omega)).trans hcc
  have hl9 := (hu (41 + 3 * c) (by omega)).trans hl9
  have hI := hI.scr (fun t9 h9 => hu t9 (by omega))
  have HO := fun (t9 : Nat) (h9 : t9 < 15 ∨ 17 ≤ t9) => (hu t9 (by omega)).trans (HO t9 h9)
  refine lv_aload_n hx hb dX6_changeFact_7 rfl (lv_at hl 0 rfl) ?_
  refine tg_get (v := .ref (ad 15)) hx hb hown hAm hw lyX6 hco rfl 4 (by decide) qw_229 (fun _ h9 => h9) rfl dX6_changeFact_8 ?_
  refine lv_aload_n hx hb dX6_changeFact_11 rfl (lv_at hl 1 rfl) ?_
  refine tg_callv (va_runVN (As := [.ref (ad (40 + 3 * c))]) (rest := []) (Ts := []) ⟨hx, hb, hml, hown, fun _ h9 => absurd h9 List.not_mem_nil⟩ (ch_addLastOf l E _ ad v c G_1 (hI.cs (by omega)) (t := 15) (by omega) h15 h16) (rc_cnV hAm qw_450 qw_6 qw_453 qw_452 qs_10 rfl rfl hd_X5_addLastOf ⟨Nat.le_of_ble_eq_true rfl, Nat.le_of_ble_eq_true rfl⟩) (tg_preV hAm hA hw h15 (q := vwCl[6]) rfl) rfl rfl hl.1 rfl (lv_room (Nat.le_of_ble_eq_true rfl)) dX6_changeFact_12 ⟨Nat.le_of_ble_eq_true rfl, Nat.le_of_ble_eq_true rfl⟩) hA hw (fun G_3 H locs hp hw => ?_)
  obtain ⟨hm15, hu⟩ := hp
  have hco := (hu 8 (by omega)).trans hco
  have hcc := (hu (40 + 3 * c) (by omega)).trans hcc
  have hl9 := (hu (41 + 3 * c) (by omega)).trans hl9
  have hI := hI.scr (fun t9 h9 => hu t9 (by omega))
  have HO := fun (t9 : Nat) (h9 : t9 < 15 ∨ 17 ≤ t9) => (hu t9 (by omega)).trans (HO t9 h9)
  obtain ⟨h15, ⟨f15, h16, hf15⟩, hl15, hb15⟩ := id hm15
  refine lv_iload_n hx hb dX6_changeFact_15 rfl (lv_at hl 2 rfl) ?_
  refine lv_tableOut (tgt := 113) hx hb dX6_changeFact_16 (by decide) (by decide) ?_
  refine lv_aload_n hx hb dX6_changeFact_113 rfl (lv_at hl 1 rfl) ?_
  refine tg_getN (v := .int (vC v c).2) hx hb hown hAm hw lyX1 hcc rfl 2 (by decide) qw_73 (fun _ h9 => h9) rfl dX6_changeFact_114 ?_
  refine lv_if_eq (tgt := 124) hx hb dX6_changeFact_117 (by decide) (fun ce => ?_) (fun ce => ?_)
  · refine lv_aload_n hx hb dX6_changeFact_124 rfl (lv_at hl 1 rfl) ?_
    refine tg_getN (v := .int (vC v c).1) hx hb hown hAm hw lyX1 hcc rfl 1 (by decide) qw_71 (fun _ h9 => h9) rfl dX6_changeFact_125 ?_
    refine lv_if_eq (tgt := 135) hx hb dX6_changeFact_128 (by decide) (fun cn => ?_) (fun cn => ?_)
    · refine lv_iconst (v := 0) hx hb dX6_changeFact_135 (by decide) ?_
      exact tg_iret hx hb hr hlocks hw (⟨((if_pos ce).trans (if_pos cn)).symm, hm15, HO⟩) (Nat.le_of_ble_eq_true rfl) (Nat.le_of_ble_eq_true rfl) dX6_changeFact_136
    · refine lv_iconst (v := 2) hx hb dX6_changeFact_131 (by decide) ?_
      refine lv_goto (tgt := 136) hx hb dX6_changeFact_132 (by decide) ?_
      exact tg_iret hx hb hr hlocks hw (⟨((if_pos ce).trans (if_neg cn)).symm, hm15, HO⟩) (Nat.le_of_ble_eq_true rfl) (Nat.le_of_ble_eq_true rfl) dX6_changeFact_136
  · refine lv_iconst (v := 1) hx hb dX6_changeFact_120 (by decide) ?_
    refine lv_goto (tgt := 136) hx hb dX6_changeFact_121 (by decide) ?_
    exact tg_iret hx hb hr hlocks hw (⟨(if_neg ce).symm, hm15, HO⟩) (Nat.le_of_ble_eq_true rfl) (Nat.le_of_ble_eq_true rfl) dX6_changeFact_136
