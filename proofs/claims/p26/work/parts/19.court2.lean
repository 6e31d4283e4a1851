set_option maxHeartbeats 4000000 in
set_option maxRecDepth 100000 in
theorem co_runsThatCount (l : Launch) (E : rc_E) (sz : Nat) (ad : Nat → Nat) (v : av_V) (G : tg_G) (hI : ssH E ad v G) : tg_M l yX6_runsThatCount [Cond.code yX6_runsThatCount cX6_runsThatCount 3 (some FieldType.int)] { frames := 3, cells := 0, slots := 0, locals := 64 } E [.ref (ad 8)] G sz (tg_Qi E (fun r u => r = nI (smR (fun k => cK v k) (vn v)) ∧ u = G)) 0 0 := by
  refine tg_in (cc := cX6_runsThatCount) (maxL := 3) (ret := (some FieldType.int)) (tg_Qi E (fun r u => r = nI (smR (fun k => cK v k) (vn v)) ∧ u = G)) (by decide) rfl (Nat.le_of_ble_eq_true rfl) ?_
  intro p e s m args below meth cd ls A hx hb hr hml hown hlocks hin hA hAm hw hl
  have hown : s.vm.findClass RX6 = some m.cls := hown
  have hl : lv_has ls 3 [(0, .ref (ad 8))] := hl
  obtain ⟨h0, hco, ⟨hLm, hLc, hLr⟩, hbi, hma, hch, hru⟩ := id hI
  have hn60 := h0.1
  have hbd := smR_le (g := (fun k => cK v k)) (fun i => cK_le v i)
  have loop : ∀ (r k : Nat) (ls : Array Slot) (H : Heap) (locs : List Loc), k + r = vn v → tg_W E A s G H locs → lv_has ls 3 [(2, .int (nI k)), (1, .int (nI (smR (fun k => cK v k) k))), (0, .ref (ad 8))] → W p l e { frames := 3, cells := 0, slots := 0, locals := 64 } s m args below meth cd H locs 0 0 (MQ below ((tg_Qi E (fun r u => r = nI (smR (fun k => cK v k) (vn v)) ∧ u = G)) A) args s 0 0 A) (F0 m 4 ls []) := by
    intro r
    induction r with
    | zero =>
      intro k ls H locs hk hw hl
      have hsl := hbd k
      obtain ⟨mc9, la9, hl9, -⟩ := id hLr
      refine lv_iload_n hx hb dX6_runsThatCount_4 rfl (lv_at hl 0 rfl) ?_
      refine lv_aload_n hx hb dX6_runsThatCount_5 rfl (lv_at hl 2 rfl) ?_
      refine tg_get (v := .ref (ad 13)) hx hb hown hAm hw lyX6 hco rfl 2 (by decide) qw_227 (fun _ h9 => h9) rfl dX6_runsThatCount_6 ?_
      refine tg_callRi (va_runV (As := []) (rest := [.int (nI k)]) (Ts := []) ⟨hx, hb, hml, hown, fun _ h9 => absurd h9 List.not_mem_nil⟩ (lf_size l E _ G (n := vn v) hl9) (rc_cwV hAm qw_343 qw_4 qw_346 qw_344 qw_345 rfl rfl hd_Jx4a65c_size_8abf5 ⟨Nat.le_of_ble_eq_true rfl, Nat.le_of_ble_eq_true rfl⟩) (tg_preV hAm hA hw hl9 (q := vwCl[0]) rfl) rfl rfl hl.1 rfl (lv_room (Nat.le_of_ble_eq_true rfl)) dX6_runsThatCount_9 ⟨Nat.le_of_ble_eq_true rfl, Nat.le_of_ble_eq_true rfl⟩) hA hw (fun H locs hw => ?_)
      refine lv_icmp_ge (tgt := 41) hx hb dX6_runsThatCount_12 (by decide) (fun _ => ?_) (fun c9 => absurd ((nI_leI (a := vn v) (b := k) (by omega) (by omega)).mpr (by omega)) c9)
      refine lv_iload_n hx hb dX6_runsThatCount_41 rfl (lv_at hl 1 rfl) ?_
      exact tg_iret hx hb hr hlocks hw (⟨congrArg nI (by rw [show vn v = k by omega]), rfl⟩) (Nat.le_of_ble_eq_true rfl) (Nat.le_of_ble_eq_true rfl) dX6_runsThatCount_42
    | succ r ih =>
      intro k ls H locs hk hw hl
      have hsl := hbd k
      obtain ⟨mcr, lar, capr, fr, hlr, hrr, hpr, hqr, hfr⟩ := ltH.pos hLr (by omega)
      obtain ⟨hb1, hb2, hb3⟩ := h0.2.1 k (by omega)
      have hr9 : G (64 + k) = some (ad (64 + k), .inr (5, [.int (nI (vR v k).1), .ref (ad (32 + (vR v k).2.1)), .int (vT v k).1, .int (nI (vR v k).2.2), .int (vT v k).2])) := hru k (by omega)
      have hm9 : G (32 + (vR v k).2.1) = some (ad (32 + (vR v k).2.1), .inr (4, [.int (nI (vR v k).2.1), .int (nI (vMN v (vR v k).2.1 1)), .int (nI (vMN v (vR v k).2.1 2)), .int (vMI v (vR v k).2.1 3), .int (vMI v (vR v k).2.1 4), .int (vMI v (vR v k).2.1 5), .int (nI (vMN v (vR v k).2.1 6)), .int (vMI v (vR v k).2.1 7)])) := hma _ hb2
      refine lv_iload_n hx hb dX6_runsThatCount_4 rfl (lv_at hl 0 rfl) ?_
      refine lv_aload_n hx hb dX6_runsThatCount_5 rfl (lv_at hl 2 rfl) ?_
      refine tg_get (v := .ref (ad 13)) hx hb hown hAm hw lyX6 hco rfl 2 (by decide) qw_227 (fun _ h9 => h9) rfl dX6_runsThatCount_6 ?_
      refine tg_callRi (va_runV (As := []) (rest := [.int (nI k)]) (Ts := []) ⟨hx, hb, hml, hown, fun _ h9 => absurd h9 List.not_mem_nil⟩ (lf_size l E _ G (n := vn v) hlr) (rc_cwV hAm qw_343 qw_4 qw_346 qw_344 qw_345 rfl rfl hd_Jx4a65c_size_8abf5 ⟨Nat.le_of_ble_eq_true rfl, Nat.le_of_ble_eq_true rfl⟩) (tg_preV hAm hA hw hlr (q := vwCl[0]) rfl) rfl rfl hl.1 rfl (lv_room (Nat.le_of_ble_eq_true rfl)) dX6_runsThatCount_9 ⟨Nat.le_of_ble_eq_true rfl, Nat.le_of_ble_eq_true rfl⟩) hA hw (fun H locs hw => ?_)
      refine lv_icmp_ge (tgt := 41) hx hb dX6_runsThatCount_12 (by decide) (fun c9 => absurd c9 (fun z9 => absurd ((nI_leI (a := vn v) (b := k) (by omega) (by omega)).mp z9) (by omega))) (fun _ => ?_)
      refine lv_iload_n hx hb dX6_runsThatCount_15 rfl (lv_at hl 1 rfl) ?_
      refine lv_aload_n hx hb dX6_runsThatCount_16 rfl (lv_at hl 2 rfl) ?_
      refine tg_get (v := .ref (ad 13)) hx hb hown hAm hw lyX6 hco rfl 2 (by decide) qw_227 (fun _ h9 => h9) rfl dX6_runsThatCount_17 ?_
      refine lv_iload_n hx hb dX6_runsThatCount_20 rfl (lv_at hl 0 rfl) ?_
      refine tg_callRr (va_runV (As := [.int (nI k)]) (rest := [.int (nI (smR (fun k => cK v k) k))]) (Ts := []) ⟨hx, hb, hml, hown, fun _ h9 => absurd h9 List.not_mem_nil⟩ (lf_get l E _ G (k := k) (n := vn v) (y := ad (64 + k)) (by omega) (by omega) (by omega) (hfr k (by omega)) hlr hrr) (rc_cwV hAm qw_436 qw_4 qw_439 qw_437 qw_438 rfl rfl hd_Jx4a65c_get_915e3 ⟨Nat.le_of_ble_eq_true rfl, Nat.le_of_ble_eq_true rfl⟩) (tg_preV hAm hA hw hlr (q := vwCl[0]) rfl) rfl rfl hl.1 rfl (lv_room (Nat.le_of_ble_eq_true rfl)) dX6_runsThatCount_21 ⟨Nat.le_of_ble_eq_true rfl, Nat.le_of_ble_eq_true rfl⟩) hA hw (fun H locs hw => ?_)
      refine tg_castS (C := RX4) hx hb hown hAm hw qw_524 hr9 rfl dX6_runsThatCount_24 ?_
      refine tg_callRi (va_runVN (As := []) (rest := [.int (nI (smR (fun k => cK v k) k))]) (Ts := []) ⟨hx, hb, hml, hown, fun _ h9 => absurd h9 List.not_mem_nil⟩ (lf_counts l E _ G hr9 hm9) (rc_cnV hAm qw_525 qw_22 qw_461 qw_459 qs_11 rfl rfl hd_X4_isCounting ⟨Nat.le_of_ble_eq_true rfl, Nat.le_of_ble_eq_true rfl⟩) (tg_preV hAm hA hw hr9 (q := vwCl[5]) rfl) rfl rfl hl.1 rfl (lv_room (Nat.le_of_ble_eq_true rfl)) dX6_runsThatCount_27 ⟨Nat.le_of_ble_eq_true rfl, Nat.le_of_ble_eq_true rfl⟩) hA hw (fun H locs hw => ?_)
      refine tg_callRi (va_runS (As := [.int (nI (cN (vT v k).2 (vMI v (vR v k).2.1 7)))]) (rest := [.int (nI (smR (fun k => cK v k) k))]) (Ts := []) ⟨hx, hb, hml, hown, fun _ h9 => absurd h9 List.not_mem_nil⟩ (lf_oneIf l E _ G (z := nI (cN (vT v k).2 (vMI v (vR v k).2.1 7))) (nI_bit (cN_le _ _))) (rc_cwS hAm qw_526 qw_1 qw_528 qw_527 rfl rfl hd_X6_oneIf ⟨Nat.le_of_ble_eq_true rfl, Nat.le_of_ble_eq_true rfl⟩) (tg_preS hAm hA hw) rfl rfl hl.1 rfl (lv_room (Nat.le_of_ble_eq_true rfl)) dX6_runsThatCount_30 ⟨Nat.le_of_ble_eq_true rfl, Nat.le_of_ble_eq_true rfl⟩) hA hw (fun H locs hw => ?_)
      refine lv_iadd hx hb dX6_runsThatCount_33 ?_
      refine rc_topi (nI (smR (fun k => cK v k) k + cN (vT v k).2 (vMI v (vR v k).2.1 7))) (nI_add (smR (fun k => cK v k) k) (cN (vT v k).2 (vMI v (vR v k).2.1 7))) ?_
      refine rc_topi (nI (smR (fun k => cK v k) (k + 1))) (congrArg nI (show smR (fun k => cK v k) k + cN (vT v k).2 (vMI v (vR v k).2.1 7) = smR (fun k => cK v k) k + _ from rfl)) ?_
      refine lv_istore_n (lv' := [(1, .int (nI (smR (fun k => cK v k) (k + 1)))), (2, .int (nI k)), (0, .ref (ad 8))]) hx hb dX6_runsThatCount_34 rfl hl (by decide) rfl (fun ls hl => ?_)
      refine lv_iinc (v := nI (k + 1)) (lv' := [(2, .int (nI (k + 1))), (1, .int (nI (smR (fun k => cK v k) (k + 1)))), (0, .ref (ad 8))]) hx hb dX6_runsThatCount_35 hl (k := 1) rfl (nI_1 _) (by decide) rfl (fun ls hl => ?_)
      refine lv_goto (tgt := 4) hx hb dX6_runsThatCount_38 (by decide) ?_
      exact ih (k + 1) ls _ _ (by omega) hw hl
  refine lv_iconst (v := 0) hx hb dX6_runsThatCount_0 (by decide) ?_
  refine lv_istore_n (lv' := [(1, .int 0), (0, .ref (ad 8))]) hx hb dX6_runsThatCount_1 rfl hl (by decide) rfl (fun ls hl => ?_)
  refine lv_iconst (v := 0) hx hb dX6_runsThatCount_2 (by decide) ?_
  refine lv_istore_n (lv' := [(2, .int 0), (1, .int 0), (0, .ref (ad 8))]) hx hb dX6_runsThatCount_3 rfl hl (by decide) rfl (fun ls hl => ?_)
  exact loop (vn v) 0 ls _ _ (by omega) hw hl
set_option maxHeartbeats 4000000 in
set_option maxRecDepth 100000 in
theorem co_changesNamed (l : Launch) (E : rc_E) (sz : Nat) (ad : Nat → Nat) (v : av_V) (G : tg_G) (hI : ssH E ad v G) : tg_M l yX6_changesNamed [Cond.code yX6_changesNamed cX6_changesNamed 3 (some FieldType.int)] { frames := 3, cells := 0, slots := 0, locals := 64 } E [.ref (ad 8)] G sz (tg_Qi E (fun r u => r = nI (smR (fun c => bN (vC v c).1) 6) ∧ u = G)) 0 0 := by
  refine tg_in (cc := cX6_changesNamed) (maxL := 3) (ret := (some FieldType.int)) (tg_Qi E (fun r u => r = nI (smR (fun c => bN (vC v c).1) 6) ∧ u = G)) (by decide) rfl (Nat.le_of_ble_eq_true rfl) ?_
  intro p e s m args below meth cd ls A hx hb hr hml hown hlocks hin hA hAm hw hl
  have hown : s.vm.findClass RX6 = some m.cls := hown
  have hl : lv_has ls 3 [(0, .ref (ad 8))] := hl
  obtain ⟨h0, hco, ⟨hLm, hLc, hLr⟩, hbi, hma, hch, hru⟩ := id hI
  have hn60 := h0.1
  have hbd := smR_le (g := (fun c => bN (vC v c).1)) (fun i => bN_le _)
  have loop : ∀ (r k : Nat) (ls : Array Slot) (H : Heap) (locs : List Loc), k + r = 6 → tg_W E A s G H locs → lv_has ls 3 [(2, .int (nI k)), (1, .int (nI (smR (fun c => bN (vC v c).1) k))), (0, .ref (ad 8))] → W p l e { frames := 3, cells := 0, slots := 0, locals := 64 } s m args below meth cd H locs 0 0 (MQ below ((tg_Qi E (fun r u => r = nI (smR (fun c => bN (vC v c).1) 6) ∧ u = G)) A) args s 0 0 A) (F0 m 4 ls []) := by
    intro r
    induction r with
    | zero =>
      intro k ls H locs hk hw hl
      have hsl := hbd k
      obtain ⟨mc9, la9, hl9, -⟩ := id hLc
      refine lv_iload_n hx hb dX6_changesNamed_4 rfl (lv_at hl 0 rfl) ?_
      refine lv_aload_n hx hb dX6_changesNamed_5 rfl (lv_at hl 2 rfl) ?_
      refine tg_get (v := .ref (ad 11)) hx hb hown hAm hw lyX6 hco rfl 1 (by decide) qw_226 (fun _ h9 => h9) rfl dX6_changesNamed_6 ?_
      refine tg_callRi (va_runV (As := []) (rest := [.int (nI k)]) (Ts := []) ⟨hx, hb, hml, hown, fun _ h9 => absurd h9 List.not_mem_nil⟩ (lf_size l E _ G (n := 6) hl9) (rc_cwV hAm qw_343 qw_4 qw_346 qw_344 qw_345 rfl rfl hd_Jx4a65c_size_8abf5 ⟨Nat.le_of_ble_eq_true rfl, Nat.le_of_ble_eq_true rfl⟩) (tg_preV hAm hA hw hl9 (q := vwCl[0]) rfl) rfl rfl hl.1 rfl (lv_room (Nat.le_of_ble_eq_true rfl)) dX6_changesNamed_9 ⟨Nat.le_of_ble_eq_true rfl, Nat.le_of_ble_eq_true rfl⟩) hA hw (fun H locs hw => ?_)
      refine lv_icmp_ge (tgt := 41) hx hb dX6_changesNamed_12 (by decide) (fun _ => ?_) (fun c9 => absurd ((nI_leI (a := 6) (b := k) (by omega) (by omega)).mpr (by omega)) c9)
      refine lv_iload_n hx hb dX6_changesNamed_41 rfl (lv_at hl 1 rfl) ?_
      exact tg_iret hx hb hr hlocks hw (⟨congrArg nI (by rw [show 6 = k by omega]), rfl⟩) (Nat.le_of_ble_eq_true rfl) (Nat.le_of_ble_eq_true rfl) dX6_changesNamed_42
    | succ r ih =>
      intro k ls H locs hk hw hl
      have hsl := hbd k
      obtain ⟨mcc, lac, capc, fc, hlc, hrc, hpc, hqc, hfc⟩ := ltH.pos hLc (by omega)
      have hc9 : G (40 + 3 * k) = some (ad (40 + 3 * k), .inr (2, [.ref (ad (41 + 3 * k)), .int (vC v k).1, .int (vC v k).2])) := (hch k (by omega)).1
      refine lv_iload_n hx hb dX6_changesNamed_4 rfl (lv_at hl 0 rfl) ?_
      refine lv_aload_n hx hb dX6_changesNamed_5 rfl (lv_at hl 2 rfl) ?_
      refine tg_get (v := .ref (ad 11)) hx hb hown hAm hw lyX6 hco rfl 1 (by decide) qw_226 (fun _ h9 => h9) rfl dX6_changesNamed_6 ?_
      refine tg_callRi (va_runV (As := []) (rest := [.int (nI k)]) (Ts := []) ⟨hx, hb, hml, hown, fun _ h9 => absurd h9 List.not_mem_nil⟩ (lf_size l E _ G (n := 6) hlc) (rc_cwV hAm qw_343 qw_4 qw_346 qw_344 qw_345 rfl rfl hd_Jx4a65c_size_8abf5 ⟨Nat.le_of_ble_eq_true rfl, Nat.le_of_ble_eq_true rfl⟩) (tg_preV hAm hA hw hlc (q := vwCl[0]) rfl) rfl rfl hl.1 rfl (lv_room (Nat.le_of_ble_eq_true rfl)) dX6_changesNamed_9 ⟨Nat.le_of_ble_eq_true rfl, Nat.le_of_ble_eq_true rfl⟩) hA hw (fun H locs hw => ?_)
      refine lv_icmp_ge (tgt := 41) hx hb dX6_changesNamed_12 (by decide) (fun c9 => absurd c9 (fun z9 => absurd ((nI_leI (a := 6) (b := k) (by omega) (by omega)).mp z9) (by omega))) (fun _ => ?_)
      refine lv_iload_n hx hb dX6_changesNamed_15 rfl (lv_at hl 1 rfl) ?_
      refine lv_aload_n hx hb dX6_changesNamed_16 rfl (lv_at hl 2 rfl) ?_
      refine tg_get (v := .ref (ad 11)) hx hb hown hAm hw lyX6 hco rfl 1 (by decide) qw_226 (fun _ h9 => h9) rfl dX6_changesNamed_17 ?_
      refine lv_iload_n hx hb dX6_changesNamed_20 rfl (lv_at hl 0 rfl) ?_
      refine tg_callRr (va_runV (As := [.int (nI k)]) (rest := [.int (nI (smR (fun c => bN (vC v c).1) k))]) (Ts := []) ⟨hx, hb, hml, hown, fun _ h9 => absurd h9 List.not_mem_nil⟩ (lf_get l E _ G (k := k) (n := 6) (y := ad (40 + 3 * k)) (by omega) (by omega) (by omega) (hfc k (by omega)) hlc hrc) (rc_cwV hAm qw_436 qw_4 qw_439 qw_437 qw_438 rfl rfl hd_Jx4a65c_get_915e3 ⟨Nat.le_of_ble_eq_true rfl, Nat.le_of_ble_eq_true rfl⟩) (tg_preV hAm hA hw hlc (q := vwCl[0]) rfl) rfl rfl hl.1 rfl (lv_room (Nat.le_of_ble_eq_true rfl)) dX6_changesNamed_21 ⟨Nat.le_of_ble_eq_true rfl, Nat.le_of_ble_eq_true rfl⟩) hA hw (fun H locs hw => ?_)
      refine tg_castS (C := RX1) hx hb hown hAm hw qw_59 hc9 rfl dX6_changesNamed_24 ?_
      refine tg_getN (v := .int (vC v k).1) hx hb hown hAm hw lyX1 hc9 rfl 1 (by decide) qw_71 (fun _ h9 => h9) rfl dX6_changesNamed_27 ?_
      refine tg_callRi (va_runS (As := [.int (vC v k).1]) (rest := [.int (nI (smR (fun c => bN (vC v c).1) k))]) (Ts := []) ⟨hx, hb, hml, hown, fun _ h9 => absurd h9 List.not_mem_nil⟩ (lf_oneIf l E _ G (z := (vC v k).1) (h0.2.2.2.2.1 k (by omega)).1) (rc_cwS hAm qw_526 qw_1 qw_528 qw_527 rfl rfl hd_X6_oneIf ⟨Nat.le_of_ble_eq_true rfl, Nat.le_of_ble_eq_true rfl⟩) (tg_preS hAm hA hw) rfl rfl hl.1 rfl (lv_room (Nat.le_of_ble_eq_true rfl)) dX6_changesNamed_30 ⟨Nat.le_of_ble_eq_true rfl, Nat.le_of_ble_eq_true rfl⟩) hA hw (fun H locs hw => ?_)
      refine rc_topi (nI (bN ((vC v k).1))) (bN_of ((h0.2.2.2.2.1 k (by omega)).1)) ?_
      refine lv_iadd hx hb dX6_changesNamed_33 ?_
      refine rc_topi (nI (smR (fun c => bN (vC v c).1) k + bN ((vC v k).1))) (nI_add (smR (fun c => bN (vC v c).1) k) (bN ((vC v k).1))) ?_
      refine rc_topi (nI (smR (fun c => bN (vC v c).1) (k + 1))) (congrArg nI (show smR (fun c => bN (vC v c).1) k + bN ((vC v k).1) = smR (fun c => bN (vC v c).1) k + _ from rfl)) ?_
      refine lv_istore_n (lv' := [(1, .int (nI (smR (fun c => bN (vC v c).1) (k + 1)))), (2, .int (nI k)), (0, .ref (ad 8))]) hx hb dX6_changesNamed_34 rfl hl (by decide) rfl (fun ls hl => ?_)
      refine lv_iinc (v := nI (k + 1)) (lv' := [(2, .int (nI (k + 1))), (1, .int (nI (smR (fun c => bN (vC v c).1) (k + 1)))), (0, .ref (ad 8))]) hx hb dX6_changesNamed_35 hl (k := 1) rfl (nI_1 _) (by decide) rfl (fun ls hl => ?_)
      refine lv_goto (tgt := 4) hx hb dX6_changesNamed_38 (by decide) ?_
      exact ih (k + 1) ls _ _ (by omega) hw hl
  refine lv_iconst (v := 0) hx hb dX6_changesNamed_0 (by decide) ?_
  refine lv_istore_n (lv' := [(1, .int 0), (0, .ref (ad 8))]) hx hb dX6_changesNamed_1 rfl hl (by decide) rfl (fun ls hl => ?_)
  refine lv_iconst (v := 0) hx hb dX6_changesNamed_2 (by decide) ?_
  refine lv_istore_n (lv' := [(2, .int 0), (1, .int 0), (0, .ref (ad 8))]) hx hb dX6_changesNamed_3 rfl hl (by decide) rfl (fun ls hl => ?_)
  exact loop (6) 0 ls _ _ (by omega) hw hl
set_option maxHeartbeats 4000000 in
set_option maxRecDepth 100000 in
theorem co_machinesAside (l : Launch) (E : rc_E) (sz : Nat) (ad : Nat → Nat) (v : av_V) (G : tg_G) (hI : ssH E ad v G) : tg_M l yX6_machinesAside [Cond.code yX6_machinesAside cX6_machinesAside 3 (some FieldType.int)] { frames := 3, cells := 0, slots := 0, locals := 64 } E [.ref (ad 8)] G sz (tg_Qi E (fun r u => r = nI (smR (fun j => bN (vMI v j 7)) 2) ∧ u = G)) 0 0 := by
  refine tg_in (cc := cX6_machinesAside) (maxL := 3) (ret := (some FieldType.int)) (tg_Qi E (fun r u => r = nI (smR (fun j => bN (vMI v j 7)) 2) ∧ u = G)) (by decide) rfl (Nat.le_of_ble_eq_true rfl) ?_
  intro p e s m args below meth cd ls A hx hb hr hml hown hlocks hin hA hAm hw hl
  have hown : s.vm.findClass RX6 = some m.cls := hown
  have hl : lv_has ls 3 [(0, .ref (ad 8))] := hl
  obtain ⟨h0, hco, ⟨hLm, hLc, hLr⟩, hbi, hma, hch, hru⟩ := id hI
  have hn60 := h0.1
  have hbd := smR_le (g := (fun j => bN (vMI v j 7))) (fun i => bN_le _)
  have loop : ∀ (r k : Nat) (ls : Array Slot) (H : Heap) (locs : List Loc), k + r = 2 → tg_W E A s G H locs → lv_has ls 3 [(2, .int (nI k)), (1, .int (nI (smR (fun j => bN (vMI v j 7)) k))), (0, .ref (ad 8))] → W p l e { frames := 3, cells := 0, slots := 0, locals := 64 } s m args below meth cd H locs 0 0 (MQ below ((tg_Qi E (fun r u => r = nI (smR (fun j => bN (vMI v j 7)) 2) ∧ u = G)) A) args s 0 0 A) (F0 m 4 ls []) := by
    intro r
    induction r with
    | zero =>
      intro k ls H locs hk hw hl
      have hsl := hbd k
      obtain ⟨mc9, la9, hl9, -⟩ := id hLm
      refine lv_iload_n hx hb dX6_machinesAside_4 rfl (lv_at hl 0 rfl) ?_
      refine lv_aload_n hx hb dX6_machinesAside_5 rfl (lv_at hl 2 rfl) ?_
      refine tg_get (v := .ref (ad 9)) hx hb hown hAm hw lyX6 hco rfl 0 (by decide) qw_225 (fun _ h9 => h9) rfl dX6_machinesAside_6 ?_
      refine tg_callRi (va_runV (As := []) (rest := [.int (nI k)]) (Ts := []) ⟨hx, hb, hml, hown, fun _ h9 => absurd h9 List.not_mem_nil⟩ (lf_size l E _ G (n := 2) hl9) (rc_cwV hAm qw_343 qw_4 qw_346 qw_344 qw_345 rfl rfl hd_Jx4a65c_size_8abf5 ⟨Nat.le_of_ble_eq_true rfl, Nat.le_of_ble_eq_true rfl⟩) (tg_preV hAm hA hw hl9 (q := vwCl[0]) rfl) rfl rfl hl.1 rfl (lv_room (Nat.le_of_ble_eq_true rfl)) dX6_machinesAside_9 ⟨Nat.le_of_ble_eq_true rfl, Nat.le_of_ble_eq_true rfl⟩) hA hw (fun H locs hw => ?_)
      refine lv_icmp_ge (tgt := 41) hx hb dX6_machinesAside_12 (by decide) (fun _ => ?_) (fun c9 => absurd ((nI_leI (a := 2) (b := k) (by omega) (by omega)).mpr (by omega)) c9)
      refine lv_iload_n hx hb dX6_machinesAside_41 rfl (lv_at hl 1 rfl) ?_
      exact tg_iret hx hb hr hlocks hw (⟨congrArg nI (by rw [show 2 = k by omega]), rfl⟩) (Nat.le_of_ble_eq_true rfl) (Nat.le_of_ble_eq_true rfl) dX6_machinesAside_42
    | succ r ih =>
      intro k ls H locs hk hw hl
      have hsl := hbd k
      obtain ⟨mcm, lam, capm, fm, hlm, hrm, hpm, hqm, hfm⟩ := ltH.pos hLm (by omega)
      have hm_k : G (32 + k) = some (ad (32 + k), .inr (4, [.int (nI k), .int (nI (vMN v k 1)), .int (nI (vMN v k 2)), .int (vMI v k 3), .int (vMI v k 4), .int (vMI v k 5), .int (nI (vMN v k 6)), .int (vMI v k 7)])) := hma k (by omega)
      refine lv_iload_n hx hb dX6_machinesAside_4 rfl (lv_at hl 0 rfl) ?_
      refine lv_aload_n hx hb dX6_machinesAside_5 rfl (lv_at hl 2 rfl) ?_
      refine tg_get (v := .ref (ad 9)) hx hb hown hAm hw lyX6 hco rfl 0 (by decide) qw_225 (fun _ h9 => h9) rfl dX6_machinesAside_6 ?_
      refine tg_callRi (va_runV (As := []) (rest := [.int (nI k)]) (Ts := []) ⟨hx, hb, hml, hown, fun _ h9 => absurd h9 List.not_mem_nil⟩ (lf_size l E _ G (n := 2) hlm) (rc_cwV hAm qw_343 qw_4 qw_346 qw_344 qw_345 rfl rfl hd_Jx4a65c_size_8abf5 ⟨Nat.le_of_ble_eq_true rfl, Nat.le_of_ble_eq_true rfl⟩) (tg_preV hAm hA hw hlm (q := vwCl[0]) rfl) rfl rfl hl.1 rfl (lv_room (Nat.le_of_ble_eq_true rfl)) dX6_machinesAside_9 ⟨Nat.le_of_ble_eq_true rfl, Nat.le_of_ble_eq_true rfl⟩) hA hw (fun H locs hw => ?_)
      refine lv_icmp_ge (tgt := 41) hx hb dX6_machinesAside_12 (by decide) (fun c9 => absurd c9 (fun z9 => absurd ((nI_leI (a := 2) (b := k) (by omega) (by omega)).mp z9) (by omega))) (fun _ => ?_)
      refine lv_iload_n hx hb dX6_machinesAside_15 rfl (lv_at hl 1 rfl) ?_
      refine lv_aload_n hx hb dX6_machinesAside_16 rfl (lv_at hl 2 rfl) ?_
      refine tg_get (v := .ref (ad 9)) hx hb hown hAm hw lyX6 hco rfl 0 (by decide) qw_225 (fun _ h9 => h9) rfl dX6_machinesAside_17 ?_
      refine lv_iload_n hx hb dX6_machinesAside_20 rfl (lv_at hl 0 rfl) ?_
      refine tg_callRr (va_runV (As := [.int (nI k)]) (rest := [.int (nI (smR (fun j => bN (vMI v j 7)) k))]) (Ts := []) ⟨hx, hb, hml, hown, fun _ h9 => absurd h9 List.not_mem_nil⟩ (lf_get l E _ G (k := k) (n := 2) (y := ad (32 + k)) (by omega) (by omega) (by omega) (hfm k (by omega)) hlm hrm) (rc_cwV hAm qw_436 qw_4 qw_439 qw_437 qw_438 rfl rfl hd_Jx4a65c_get_915e3 ⟨Nat.le_of_ble_eq_true rfl, Nat.le_of_ble_eq_true rfl⟩) (tg_preV hAm hA hw hlm (q := vwCl[0]) rfl) rfl rfl hl.1 rfl (lv_room (Nat.le_of_ble_eq_true rfl)) dX6_machinesAside_21 ⟨Nat.le_of_ble_eq_true rfl, Nat.le_of_ble_eq_true rfl⟩) hA hw (fun H locs hw => ?_)
      refine tg_castS (C := RX3) hx hb hown hAm hw qw_363 hm_k rfl dX6_machinesAside_24 ?_
      refine tg_getN (v := .int (vMI v k 7)) hx hb hown hAm hw lyX3 hm_k rfl 7 (by decide) qw_383 (fun _ h9 => h9) rfl dX6_machinesAside_27 ?_
      refine tg_callRi (va_runS (As := [.int (vMI v k 7)]) (rest := [.int (nI (smR (fun j => bN (vMI v j 7)) k))]) (Ts := []) ⟨hx, hb, hml, hown, fun _ h9 => absurd h9 List.not_mem_nil⟩ (lf_oneIf l E _ G (z := vMI v k 7) (h0.2.2.1 k (by omega)).2.2.2.2.2) (rc_cwS hAm qw_526 qw_1 qw_528 qw_527 rfl rfl hd_X6_oneIf ⟨Nat.le_of_ble_eq_true rfl, Nat.le_of_ble_eq_true rfl⟩) (tg_preS hAm hA hw) rfl rfl hl.1 rfl (lv_room (Nat.le_of_ble_eq_true rfl)) dX6_machinesAside_30 ⟨Nat.le_of_ble_eq_true rfl, Nat.le_of_ble_eq_true rfl⟩) hA hw (fun H locs hw => ?_)
      refine rc_topi (nI (bN (vMI v k 7))) (bN_of ((h0.2.2.1 k (by omega)).2.2.2.2.2)) ?_
      refine lv_iadd hx hb dX6_machinesAside_33 ?_
      refine rc_topi (nI (smR (fun j => bN (vMI v j 7)) k + bN (vMI v k 7))) (nI_add (smR (fun j => bN (vMI v j 7)) k) (bN (vMI v k 7))) ?_
      refine rc_topi (nI (smR (fun j => bN (vMI v j 7)) (k + 1))) (congrArg nI (show smR (fun j => bN (vMI v j 7)) k + bN (vMI v k 7) = smR (fun j => bN (vMI v j 7)) k + _ from rfl)) ?_
      refine lv_istore_n (lv' := [(1, .int (nI (smR (fun j => bN (vMI v j 7)) (k + 1)))), (2, .int (nI k)), (0, .ref (ad 8))]) hx hb dX6_machinesAside_34 rfl hl (by decide) rfl (fun ls hl => ?_)
      refine lv_iinc (v := nI (k + 1)) (lv' := [(2, .int (nI (k + 1))), (1, .int (nI (smR (fun j => bN (vMI v j 7)) (k + 1)))), (0, .ref (ad 8))]) hx hb dX6_machinesAside_35 hl (k := 1) rfl (nI_1 _) (by decide) rfl (fun ls hl => ?_)
      refine lv_goto (tgt := 4) hx hb dX6_machinesAside_38 (by decide) ?_
      exact ih (k + 1) ls _ _ (by omega) hw hl
  refine lv_iconst (v := 0) hx hb dX6_machinesAside_0 (by decide) ?_
  refine lv_istore_n (lv' := [(1, .int 0), (0, .ref (ad 8))]) hx hb dX6_machinesAside_1 rfl hl (by decide) rfl (fun ls hl => ?_)
  refine lv_iconst (v := 0) hx hb dX6_machinesAside_2 (by decide) ?_
  refine lv_istore_n (lv' := [(2, .int 0), (1, .int 0), (0, .ref (ad 8))]) hx hb dX6_machinesAside_3 rfl hl (by decide) rfl (fun ls hl => ?_)
  exact loop (2) 0 ls _ _ (by omega) hw hl
theorem hd_X1_sampleSizeWithout : yX1_sampleSizeWithout.cls ≠ "java/lang/invoke/MethodHandle" ∧ yX1_sampleSizeWithout.cls ≠ "java/lang/invoke/VarHandle" ∧ (parseMethodDescriptor yX1_sampleSizeWithout.desc).map (fun d => d.parameters.length) = some 1 := by decide +kernel
theorem hd_X1_sampleSize : yX1_sampleSize.cls ≠ "java/lang/invoke/MethodHandle" ∧ yX1_sampleSize.cls ≠ "java/lang/invoke/VarHandle" ∧ (parseMethodDescriptor yX1_sampleSize.desc).map (fun d => d.parameters.length) = some 0 := by decide +kernel
set_option maxHeartbeats 4000000 in
set_option maxRecDepth 100000 in
theorem co_hurt (l : Launch) (E : rc_E) (sz : Nat) (ad : Nat → Nat) (v : av_V) (G : tg_G) (hI : ssH E ad v G) (j : Nat) (hj : j < 2) : tg_M l yX6_changesHurtWithout [Cond.code yX6_changesHurtWithout cX6_changesHurtWithout 5 (some FieldType.int)] { frames := 4, cells := 0, slots := 0, locals := 88 } E [.ref (ad 8), .ref (ad (32 + j))] G sz (tg_Qi E (fun r u => r = nI (smR (fun c => hW v j c) 6) ∧ u = G)) 0 0 := by
  refine tg_in (cc := cX6_changesHurtWithout) (maxL := 5) (ret := (some FieldType.int)) (tg_Qi E (fun r u => r = nI (smR (fun c => hW v j c) 6) ∧ u = G)) (by decide) rfl (Nat.le_of_ble_eq_true rfl) ?_
  intro p e s m args below meth cd ls A hx hb hr hml hown hlocks hin hA hAm hw hl
  have hown : s.vm.findClass RX6 = some m.cls := hown
  have hl : lv_has ls 5 [(0, .ref (ad 8)), (1, .ref (ad (32 + j)))] := hl
  obtain ⟨h0, hco, ⟨hLm, hLc, hLr⟩, hbi, hma, hch, hru⟩ := id hI
  have hn60 := h0.1
  have hmj : G (32 + j) = some (ad (32 + j), .inr (4, [.int (nI j), .int (nI (vMN v j 1)), .int (nI (vMN v j 2)), .int (vMI v j 3), .int (vMI v j 4), .int (vMI v j 5), .int (nI (vMN v j 6)), .int (vMI v j 7)])) := hma j hj
  have hbd := smR_le (g := (fun c => hW v j c)) (fun i => hW_le _ _ _)
  have loop : ∀ (r k : Nat) (ls : Array Slot) (H : Heap) (locs : List Loc), k + r = 6 → tg_W E A s G H locs → lv_has ls 5 [(3, .int (nI k)), (2, .int (nI (smR (fun c => hW v j c) k))), (0, .ref (ad 8)), (1, .ref (ad (32 + j)))] → W p l e { frames := 4, cells := 0, slots := 0, locals := 88 } s m args below meth cd H locs 0 0 (MQ below ((tg_Qi E (fun r u => r = nI (smR (fun c => hW v j c) 6) ∧ u = G)) A) args s 0 0 A) (F0 m 4 ls []) := by
    intro r
    induction r with
    | zero =>
      intro k ls H locs hk hw hl
      have hsl := hbd k
      obtain ⟨mc9, la9, hl9, -⟩ := id hLc
      refine lv_iload_n hx hb dX6_changesHurtWithout_4 rfl (lv_at hl 0 rfl) ?_
      refine lv_aload_n hx hb dX6_changesHurtWithout_5 rfl (lv_at hl 2 rfl) ?_
      refine tg_get (v := .ref (ad 11)) hx hb hown hAm hw lyX6 hco rfl 1 (by decide) qw_226 (fun _ h9 => h9) rfl dX6_changesHurtWithout_6 ?_
      refine tg_callRi (va_runV (As := []) (rest := [.int (nI k)]) (Ts := []) ⟨hx, hb, hml, hown, fun _ h9 => absurd h9 List.not_mem_nil⟩ (lf_size l E _ G (n := 6) hl9) (rc_cwV hAm qw_343 qw_4 qw_346 qw_344 qw_345 rfl rfl hd_Jx4a65c_size_8abf5 ⟨Nat.le_of_ble_eq_true rfl, Nat.le_of_ble_eq_true rfl⟩) (tg_preV hAm hA hw hl9 (q := vwCl[0]) rfl) rfl rfl hl.1 rfl (lv_room (Nat.le_of_ble_eq_true rfl)) dX6_changesHurtWithout_9 ⟨Nat.le_of_ble_eq_true rfl, Nat.le_of_ble_eq_true rfl⟩) hA hw (fun H locs hw => ?_)
      refine lv_icmp_ge (tgt := 59) hx hb dX6_changesHurtWithout_12 (by decide) (fun _ => ?_) (fun c9 => absurd ((nI_leI (a := 6) (b := k) (by omega) (by omega)).mpr (by omega)) c9)
      refine lv_iload_n hx hb dX6_changesHurtWithout_59 rfl (lv_at hl 1 rfl) ?_
      exact tg_iret hx hb hr hlocks hw (⟨congrArg nI (by rw [show 6 = k by omega]), rfl⟩) (Nat.le_of_ble_eq_true rfl) (Nat.le_of_ble_eq_true rfl) dX6_changesHurtWithout_60
    | succ r ih =>
      intro k ls H locs hk hw hl
      have hsl := hbd k
      obtain ⟨mcc, lac, capc, fc, hlc, hrc, hpc, hqc, hfc⟩ := ltH.pos hLc (by omega)
      have hc9 : G (40 + 3 * k) = some (ad (40 + 3 * k), .inr (2, [.ref (ad (41 + 3 * k)), .int (vC v k).1, .int (vC v k).2])) := (hch k (by omega)).1
      have hz1 := szN_le v k
      have hz2 := swN_le v k j
      refine lv_iload_n hx hb dX6_changesHurtWithout_4 rfl (lv_at hl 0 rfl) ?_
      refine lv_aload_n hx hb dX6_changesHurtWithout_5 rfl (lv_at hl 2 rfl) ?_
      refine tg_get (v := .ref (ad 11)) hx hb hown hAm hw lyX6 hco rfl 1 (by decide) qw_226 (fun _ h9 => h9) rfl dX6_changesHurtWithout_6 ?_
      refine tg_callRi (va_runV (As := []) (rest := [.int (nI k)]) (Ts := []) ⟨hx, hb, hml, hown, fun _ h9 => absurd h9 List.not_mem_nil⟩ (lf_size l E _ G (n := 6) hlc) (rc_cwV hAm qw_343 qw_4 qw_346 qw_344 qw_345 rfl rfl hd_Jx4a65c_size_8abf5 ⟨Nat.le_of_ble_eq_true rfl, Nat.le_of_ble_eq_true rfl⟩) (tg_preV hAm hA hw hlc (q := vwCl[0]) rfl) rfl rfl hl.1 rfl (lv_room (Nat.le_of_ble_eq_true rfl)) dX6_changesHurtWithout_9 ⟨Nat.le_of_ble_eq_true rfl, Nat.le_of_ble_eq_true rfl⟩) hA hw (fun H locs hw => ?_)
      refine lv_icmp_ge (tgt := 59) hx hb dX6_changesHurtWithout_12 (by decide) (fun c9 => absurd c9 (fun z9 => absurd ((nI_leI (a := 6) (b := k) (by omega) (by omega)).mp z9) (by omega))) (fun _ => ?_)
      refine lv_aload_n hx hb dX6_changesHurtWithout_15 rfl (lv_at hl 2 rfl) ?_
      refine tg_get (v := .ref (ad 11)) hx hb hown hAm hw lyX6 hco rfl 1 (by decide) qw_226 (fun _ h9 => h9) rfl dX6_changesHurtWithout_16 ?_
      refine lv_iload_n hx hb dX6_changesHurtWithout_19 rfl (lv_at hl 0 rfl) ?_
      refine tg_callRr (va_runV (As := [.int (nI k)]) (rest := []) (Ts := []) ⟨hx, hb, hml, hown, fun _ h9 => absurd h9 List.not_mem_nil⟩ (lf_get l E _ G (k := k) (n := 6) (y := ad (40 + 3 * k)) (by omega) (by omega) (by omega) (hfc k (by omega)) hlc hrc) (rc_cwV hAm qw_436 qw_4 qw_439 qw_437 qw_438 rfl rfl hd_Jx4a65c_get_915e3 ⟨Nat.le_of_ble_eq_true rfl, Nat.le_of_ble_eq_true rfl⟩) (tg_preV hAm hA hw hlc (q := vwCl[0]) rfl) rfl rfl hl.1 rfl (lv_room (Nat.le_of_ble_eq_true rfl)) dX6_changesHurtWithout_20 ⟨Nat.le_of_ble_eq_true rfl, Nat.le_of_ble_eq_true rfl⟩) hA hw (fun H locs hw => ?_)
      refine tg_castS (C := RX1) hx hb hown hAm hw qw_59 hc9 rfl dX6_changesHurtWithout_23 ?_
      refine lv_astore (lv' := [(4, .ref (ad (40 + 3 * k))), (3, .int (nI k)), (2, .int (nI (smR (fun c => hW v j c) k))), (0, .ref (ad 8)), (1, .ref (ad (32 + j)))]) hx hb dX6_changesHurtWithout_26 hl (by decide) rfl (fun ls hl => ?_)
      refine lv_iload_n hx hb dX6_changesHurtWithout_28 rfl (lv_at hl 2 rfl) ?_
      refine lv_aload hx hb dX6_changesHurtWithout_29 (lv_at hl 0 rfl) ?_
      refine lv_aload_n hx hb dX6_changesHurtWithout_31 rfl (lv_at hl 4 rfl) ?_
      refine tg_callRi (va_runVN (As := [.ref (ad (32 + j))]) (rest := [.int (nI (smR (fun c => hW v j c) k))]) (Ts := []) ⟨hx, hb, hml, hown, fun _ h9 => absurd h9 List.not_mem_nil⟩ (ch_sizeWithout l E _ ad v k G (hI.cs (by omega)) j (by omega)) (rc_cnV hAm qw_555 qw_5 qw_558 qw_557 qs_31 rfl rfl hd_X1_sampleSizeWithout ⟨Nat.le_of_ble_eq_true rfl, Nat.le_of_ble_eq_true rfl⟩) (tg_preV hAm hA hw hc9 (q := vwCl[2]) rfl) rfl rfl hl.1 rfl (lv_room (Nat.le_of_ble_eq_true rfl)) dX6_changesHurtWithout_32 ⟨Nat.le_of_ble_eq_true rfl, Nat.le_of_ble_eq_true rfl⟩) hA hw (fun H locs hw => ?_)
      refine lv_aload hx hb dX6_changesHurtWithout_35 (lv_at hl 0 rfl) ?_
      refine tg_callRi (va_runVN (As := []) (rest := [.int (nI (swN v k j)), .int (nI (smR (fun c => hW v j c) k))]) (Ts := []) ⟨hx, hb, hml, hown, fun _ h9 => absurd h9 List.not_mem_nil⟩ (ch_size l E _ ad v k G (hI.cs (by omega))) (rc_cnV hAm qw_565 qw_5 qw_568 qw_567 qs_32 rfl rfl hd_X1_sampleSize ⟨Nat.le_of_ble_eq_true rfl, Nat.le_of_ble_eq_true rfl⟩) (tg_preV hAm hA hw hc9 (q := vwCl[2]) rfl) rfl rfl hl.1 rfl (lv_room (Nat.le_of_ble_eq_true rfl)) dX6_changesHurtWithout_37 ⟨Nat.le_of_ble_eq_true rfl, Nat.le_of_ble_eq_true rfl⟩) hA hw (fun H locs hw => ?_)
      refine lv_icmp_ge (tgt := 47) hx hb dX6_changesHurtWithout_40 (by decide) (fun c_1 => ?_) (fun c_1 => ?_)
      · have c_1 := (nI_leI (a := szN v k) (b := swN v k j) (by omega) (by omega)).mp c_1
        refine lv_iconst (v := 0) hx hb dX6_changesHurtWithout_47 (by decide) ?_
        refine tg_callRi (va_runS (As := [.int 0]) (rest := [.int (nI (smR (fun c => hW v j c) k))]) (Ts := []) ⟨hx, hb, hml, hown, fun _ h9 => absurd h9 List.not_mem_nil⟩ (lf_oneIf l E _ G (z := 0) (by decide)) (rc_cwS hAm qw_526 qw_1 qw_528 qw_527 rfl rfl hd_X6_oneIf ⟨Nat.le_of_ble_eq_true rfl, Nat.le_of_ble_eq_true rfl⟩) (tg_preS hAm hA hw) rfl rfl hl.1 rfl (lv_room (Nat.le_of_ble_eq_true rfl)) dX6_changesHurtWithout_48 ⟨Nat.le_of_ble_eq_true rfl, Nat.le_of_ble_eq_true rfl⟩) hA hw (fun H locs hw => ?_)
        refine lv_iadd hx hb dX6_changesHurtWithout_51 ?_
        refine rc_topi (nI (smR (fun c => hW v j c) k + 0)) (nI_add (smR (fun c => hW v j c) k) 0) ?_
        refine rc_topi (nI (smR (fun c => hW v j c) (k + 1))) (congrArg nI (show smR (fun c => hW v j c) k + 0 = smR (fun c => hW v j c) k + _ from (by show _ = _ + (if swN v k j < szN v k then 1 else 0); first | rw [if_pos (by omega)] | rw [if_neg (by omega)]))) ?_
        refine lv_istore_n (lv' := [(2, .int (nI (smR (fun c => hW v j c) (k + 1)))), (4, .ref (ad (40 + 3 * k))), (3, .int (nI k)), (0, .ref (ad 8)), (1, .ref (ad (32 + j)))]) hx hb dX6_changesHurtWithout_52 rfl hl (by decide) rfl (fun ls hl => ?_)
        refine lv_iinc (v := nI (k + 1)) (lv' := [(3, .int (nI (k + 1))), (2, .int (nI (smR (fun c => hW v j c) (k + 1)))), (4, .ref (ad (40 + 3 * k))), (0, .ref (ad 8)), (1, .ref (ad (32 + j)))]) hx hb dX6_changesHurtWithout_53 hl (k := 2) rfl (nI_1 _) (by decide) rfl (fun ls hl => ?_)
        refine lv_goto (tgt := 4) hx hb dX6_changesHurtWithout_56 (by decide) ?_
        exact ih (k + 1) ls _ _ (by omega) hw (lv_sub hl [0, 1, 3, 4] rfl)
      · have c_1 := mt (nI_leI (a := szN v k) (b := swN v k j) (by omega) (by omega)).mpr c_1
        refine lv_iconst (v := 1) hx hb dX6_changesHurtWithout_43 (by decide) ?_
        refine lv_goto (tgt := 48) hx hb dX6_changesHurtWithout_44 (by decide) ?_
        refine tg_callRi (va_runS (As := [.int 1]) (rest := [.int (nI (smR (fun c => hW v j c) k))]) (Ts := []) ⟨hx, hb, hml, hown, fun _ h9 => absurd h9 List.not_mem_nil⟩ (lf_oneIf l E _ G (z := 1) (by decide)) (rc_cwS hAm qw_526 qw_1 qw_528 qw_527 rfl rfl hd_X6_oneIf ⟨Nat.le_of_ble_eq_true rfl, Nat.le_of_ble_eq_true rfl⟩) (tg_preS hAm hA hw) rfl rfl hl.1 rfl (lv_room (Nat.le_of_ble_eq_true rfl)) dX6_changesHurtWithout_48 ⟨Nat.le_of_ble_eq_true rfl, Nat.le_of_ble_eq_true rfl⟩) hA hw (fun H locs hw => ?_)
        refine lv_iadd hx hb dX6_changesHurtWithout_51 ?_
        refine rc_topi (nI (smR (fun c => hW v j c) k + 1)) (nI_add (smR (fun c => hW v j c) k) 1) ?_
        refine rc_topi (nI (smR (fun c => hW v j c) (k + 1))) (congrArg nI (show smR (fun c => hW v j c) k + 1 = smR (fun c => hW v j c) k + _ from (by show _ = _ + (if swN v k j < szN v k then 1 else 0); first | rw [if_pos (by omega)] | rw [if_neg (by omega)]))) ?_
        refine lv_istore_n (lv' := [(2, .int (nI (smR (fun c => hW v j c) (k + 1)))), (4, .ref (ad (40 + 3 * k))), (3, .int (nI k)), (0, .ref (ad 8)), (1, .ref (ad (32 + j)))]) hx hb dX6_changesHurtWithout_52 rfl hl (by decide) rfl (fun ls hl => ?_)
        refine lv_iinc (v := nI (k + 1)) (lv' := [(3, .int (nI (k + 1))), (2, .int (nI (smR (fun c => hW v j c) (k + 1)))), (4, .ref (ad (40 + 3 * k))), (0, .ref (ad 8)), (1, .ref (ad (32 + j)))]) hx hb dX6_changesHurtWithout_53 hl (k := 2) rfl (nI_1 _) (by decide) rfl (fun ls hl => ?_)
        refine lv_goto (tgt := 4) hx hb dX6_changesHurtWithout_56 (by decide) ?_
        exact ih (k + 1) ls _ _ (by omega) hw (lv_sub hl [0, 1, 3, 4] rfl)
  refine lv_iconst (v := 0) hx hb dX6_changesHurtWithout_0 (by decide) ?_
  refine lv_istore_n (lv' := [(2, .int 0), (0, .ref (ad 8)), (1, .ref (ad (32 + j)))]) hx hb dX6_changesHurtWithout_1 rfl hl (by decide) rfl (fun ls hl => ?_)
  refine lv_iconst (v := 0) hx hb dX6_changesHurtWithout_2 (by decide) ?_
  refine lv_istore_n (lv' := [(3, .int 0), (2, .int 0), (0, .ref (ad 8)), (1, .ref (ad (32 + j)))]) hx hb dX6_changesHurtWithout_3 rfl hl (by decide) rfl (fun ls hl => ?_)
  exact loop (6) 0 ls _ _ (by omega) hw hl
