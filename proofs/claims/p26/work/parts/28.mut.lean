theorem hd_X6_isNoMeasure : yX6_isNoMeasure.cls ≠ "java/lang/invoke/MethodHandle" ∧ yX6_isNoMeasure.cls ≠ "java/lang/invoke/VarHandle" ∧ (parseMethodDescriptor yX6_isNoMeasure.desc).map (fun d => d.parameters.length) = some 1 := by decide +kernel
theorem hd_X3_take : yX3_take.cls ≠ "java/lang/invoke/MethodHandle" ∧ yX3_take.cls ≠ "java/lang/invoke/VarHandle" ∧ (parseMethodDescriptor yX3_take.desc).map (fun d => d.parameters.length) = some 1 := by decide +kernel
theorem hd_X6_goOn : yX6_goOn.cls ≠ "java/lang/invoke/MethodHandle" ∧ yX6_goOn.cls ≠ "java/lang/invoke/VarHandle" ∧ (parseMethodDescriptor yX6_goOn.desc).map (fun d => d.parameters.length) = some 0 := by decide +kernel
set_option maxHeartbeats 4000000 in
set_option maxRecDepth 100000 in
theorem pu_measure (l : Launch) (E : rc_E) (sz : Nat) (ad : Nat → Nat) (v : av_V) (G : tg_G) (hI : ssH E ad v G) (hS : scH E ad G) (hn : nmOK v) (hok : caseOK v) (j : Nat) (hj : j < 2) (x : Nat) (hx1 : 50 ≤ x) (hx2 : x ≤ 200) : tg_M l yX6_measure [Cond.code yX6_measure cX6_measure 4 (some FieldType.boolean)] { frames := 7, cells := 0, slots := 0, locals := 153 } E [.ref (ad 8), .int (nI j), .int (nI x)] G sz (tg_Qi E (fun r u => (∃ (d : Int32) (v2 : av_V), (stH E ad v2 u ∧ sameV (setM v j x d) v2 ∧ nmOK v2 ∧ caseOK v2) ∧ r = vMI v2 j 7) ∧ ∀ t9, t9 < 8 → u t9 = G t9)) 0 0 := by
  refine tg_in (cc := cX6_measure) (maxL := 4) (ret := (some FieldType.boolean)) (tg_Qi E (fun r u => (∃ (d : Int32) (v2 : av_V), (stH E ad v2 u ∧ sameV (setM v j x d) v2 ∧ nmOK v2 ∧ caseOK v2) ∧ r = vMI v2 j 7) ∧ ∀ t9, t9 < 8 → u t9 = G t9)) (by decide) rfl (Nat.le_of_ble_eq_true rfl) ?_
  intro p e s m args below meth cd ls A hx hb hr hml hown hlocks hin hA hAm hw hl
  have hown : s.vm.findClass RX6 = some m.cls := hown
  have hl : lv_has ls 4 [(0, .ref (ad 8)), (1, .int (nI j)), (2, .int (nI x))] := hl
  obtain ⟨h0, hco, ⟨hLm, hLc, hLr⟩, hbi, hma, hch, hru⟩ := id hI
  have hn60 := h0.1
  obtain ⟨mcm, lam, capm, fm, hlm, hrm, hpm, hqm, hfm⟩ := ltH.pos hLm (by decide)
  have hm_j : G (32 + j) = some (ad (32 + j), .inr (4, [.int (nI j), .int (nI (vMN v j 1)), .int (nI (vMN v j 2)), .int (vMI v j 3), .int (vMI v j 4), .int (vMI v j 5), .int (nI (vMN v j 6)), .int (vMI v j 7)])) := hma j (by omega)
  refine lv_iload_n hx hb dX6_measure_0 rfl (lv_at hl 1 rfl) ?_
  refine lv_if_lt (tgt := 15) hx hb dX6_measure_1 (by decide) (fun c9 => absurd c9 (fun z9 => absurd ((nI_ltI (a := j) (b := 0) (by omega) (by omega)).mp z9) (by omega))) (fun _ => ?_)
  refine lv_iload_n hx hb dX6_measure_4 rfl (lv_at hl 1 rfl) ?_
  refine lv_aload_n hx hb dX6_measure_5 rfl (lv_at hl 0 rfl) ?_
  refine tg_get (v := .ref (ad 9)) hx hb hown hAm hw lyX6 hco rfl 0 (by decide) qw_225 (fun _ h9 => h9) rfl dX6_measure_6 ?_
  refine tg_callRi (va_runV (As := []) (rest := [.int (nI j)]) (Ts := []) ⟨hx, hb, hml, hown, fun _ h9 => absurd h9 List.not_mem_nil⟩ (lf_size l E _ G (n := 2) hlm) (rc_cwV hAm qw_343 qw_4 qw_346 qw_344 qw_345 rfl rfl hd_Jx4a65c_size_8abf5 ⟨Nat.le_of_ble_eq_true rfl, Nat.le_of_ble_eq_true rfl⟩) (tg_preV hAm hA hw hlm (q := vwCl[0]) rfl) rfl rfl hl.1 rfl (lv_room (Nat.le_of_ble_eq_true rfl)) dX6_measure_9 ⟨Nat.le_of_ble_eq_true rfl, Nat.le_of_ble_eq_true rfl⟩) hA hw (fun H locs hw => ?_)
  refine lv_icmp_lt (tgt := 25) hx hb dX6_measure_12 (by decide) (fun _ => ?_) (fun c9 => absurd ((nI_ltI (a := j) (b := 2) (by omega) (by omega)).mpr (by omega)) c9)
  refine lv_iload_n hx hb dX6_measure_25 rfl (lv_at hl 2 rfl) ?_
  refine tg_callRi (va_runS (As := [.int (nI x)]) (rest := []) (Ts := []) ⟨hx, hb, hml, hown, fun _ h9 => absurd h9 List.not_mem_nil⟩ (lf_isNoMeasure l E _ G (nI x) (fun z9 => absurd ((nI_ltI (a := x) (b := 50) (by omega) (by omega)).mp z9) (by omega)) ((nI_leI (a := x) (b := 200) (by omega) (by omega)).mpr (by omega))) (rc_cwS hAm qw_272 qw_1 qw_274 qw_273 rfl rfl hd_X6_isNoMeasure ⟨Nat.le_of_ble_eq_true rfl, Nat.le_of_ble_eq_true rfl⟩) (tg_preS hAm hA hw) rfl rfl hl.1 rfl (lv_room (Nat.le_of_ble_eq_true rfl)) dX6_measure_26 ⟨Nat.le_of_ble_eq_true rfl, Nat.le_of_ble_eq_true rfl⟩) hA hw (fun H locs hw => ?_)
  refine lv_if_eq (tgt := 42) hx hb dX6_measure_29 (by decide) (fun _ => ?_) (fun c9 => absurd (by decide) c9)
  refine lv_aload_n hx hb dX6_measure_42 rfl (lv_at hl 0 rfl) ?_
  refine tg_get (v := .ref (ad 9)) hx hb hown hAm hw lyX6 hco rfl 0 (by decide) qw_225 (fun _ h9 => h9) rfl dX6_measure_43 ?_
  refine lv_iload_n hx hb dX6_measure_46 rfl (lv_at hl 1 rfl) ?_
  refine tg_callRr (va_runV (As := [.int (nI j)]) (rest := []) (Ts := []) ⟨hx, hb, hml, hown, fun _ h9 => absurd h9 List.not_mem_nil⟩ (lf_get l E _ G (k := j) (n := 2) (y := ad (32 + j)) (by omega) (by omega) (by omega) (hfm j (by omega)) hlm hrm) (rc_cwV hAm qw_436 qw_4 qw_439 qw_437 qw_438 rfl rfl hd_Jx4a65c_get_915e3 ⟨Nat.le_of_ble_eq_true rfl, Nat.le_of_ble_eq_true rfl⟩) (tg_preV hAm hA hw hlm (q := vwCl[0]) rfl) rfl rfl hl.1 rfl (lv_room (Nat.le_of_ble_eq_true rfl)) dX6_measure_47 ⟨Nat.le_of_ble_eq_true rfl, Nat.le_of_ble_eq_true rfl⟩) hA hw (fun H locs hw => ?_)
  refine tg_castS (C := RX3) hx hb hown hAm hw qw_363 hm_j rfl dX6_measure_50 ?_
  refine lv_astore_n (lv' := [(3, .ref (ad (32 + j))), (0, .ref (ad 8)), (1, .int (nI j)), (2, .int (nI x))]) hx hb dX6_measure_53 rfl hl (by decide) rfl (fun ls hl => ?_)
  refine lv_aload_n hx hb dX6_measure_54 rfl (lv_at hl 0 rfl) ?_
  refine lv_iload_n hx hb dX6_measure_55 rfl (lv_at hl 3 rfl) ?_
  refine tg_callv (va_runVN (As := [.int (nI x)]) (rest := []) (Ts := []) ⟨hx, hb, hml, hown, fun _ h9 => absurd h9 List.not_mem_nil⟩ (lf_take l E _ G (nI x) hm_j) (rc_cnV hAm qw_657 qw_18 qw_660 qw_659 qs_44 rfl rfl hd_X3_take ⟨Nat.le_of_ble_eq_true rfl, Nat.le_of_ble_eq_true rfl⟩) (tg_preV hAm hA hw hm_j (q := vwCl[4]) rfl) rfl rfl hl.1 rfl (lv_room (Nat.le_of_ble_eq_true rfl)) dX6_measure_56 ⟨Nat.le_of_ble_eq_true rfl, Nat.le_of_ble_eq_true rfl⟩) hA hw (fun G_1 H locs hp hw => ?_)
  obtain ⟨d, hd, hm_j, o_3⟩ := hp
  have hco := (o_3 _ (by omega)).trans hco
  have hlm := (o_3 _ (by omega)).trans hlm
  have hrm := (o_3 _ (by omega)).trans hrm
  have hI1 := hI.mach (by omega) (by omega) hd hm_j (fun t9 h9 => (o_3 t9 (by omega)))
  have hS1 := hS.off (fun t9 h8 h9 => (o_3 t9 (by omega)))
  refine lv_aload_n hx hb dX6_measure_59 rfl (lv_at hl 1 rfl) ?_
  refine tg_callv (va_runV (As := []) (rest := []) (Ts := []) ⟨hx, hb, hml, hown, fun _ h9 => absurd h9 List.not_mem_nil⟩ (co_goOn l E _ ad (setM v j x d) G_1 hI1 hS1 hok.h hn) (rc_cwV hAm qw_412 qw_1 qw_415 qw_414 qs_4 rfl rfl hd_X6_goOn ⟨Nat.le_of_ble_eq_true rfl, Nat.le_of_ble_eq_true rfl⟩) (tg_preV hAm hA hw hco (q := vwCl[7]) rfl) rfl rfl hl.1 rfl (lv_room (Nat.le_of_ble_eq_true rfl)) dX6_measure_60 ⟨Nat.le_of_ble_eq_true rfl, Nat.le_of_ble_eq_true rfl⟩) hA hw (fun G_4 H locs hp hw => ?_)
  obtain ⟨⟨v2, hIS2, hv2, hn2, hok2⟩, hu⟩ := hp
  obtain ⟨hI2, hS2⟩ := id hIS2
  have hm2 : G_4 (32 + j) = some (ad (32 + j), .inr (4, [.int (nI j), .int (nI (vMN v2 j 1)), .int (nI (vMN v2 j 2)), .int (vMI v2 j 3), .int (vMI v2 j 4), .int (vMI v2 j 5), .int (nI (vMN v2 j 6)), .int (vMI v2 j 7)])) := hI2.2.2.2.2.1 j (by omega)
  refine lv_aload_n hx hb dX6_measure_63 rfl (lv_at hl 0 rfl) ?_
  refine tg_getN (v := .int (vMI v2 j 7)) hx hb hown hAm hw lyX3 hm2 rfl 7 (by decide) qw_383 (fun _ h9 => h9) rfl dX6_measure_64 ?_
  exact tg_zret hx hb hr hlocks hw (nb_bool (hI2.1.2.2.1 j (by omega)).2.2.2.2.2) (⟨⟨d, v2, ⟨hIS2, hv2, hn2, hok2⟩, rfl⟩, (fun t9 h9 => (hu t9 h9).trans ((o_3 t9 (by omega))))⟩) (Nat.le_of_ble_eq_true rfl) (Nat.le_of_ble_eq_true rfl) dX6_measure_67
set_option maxHeartbeats 4000000 in
set_option maxRecDepth 100000 in
theorem pu_strike (l : Launch) (hst : l.stackTraces = false) (E : rc_E) (sz : Nat) (ad : Nat → Nat) (v : av_V) (G : tg_G) (hI : ssH E ad v G) (hS : scH E ad G) (hn : nmOK v) (hok : caseOK v) (k : Nat) (hk : k < max 1 (vn v)) : tg_Mx l yX6_strike [Cond.code yX6_strike cX6_strike 3 (some FieldType.int)] { frames := 7, cells := 1, slots := 6, locals := 153 } E [.ref (ad 8), .int (nI k)] G sz (tg_Qi E (fun r u => (k < vn v ∧ ∃ v2 : av_V, (stH E ad v2 u ∧ sameV (setT v k) v2 ∧ nmOK v2 ∧ caseOK v2) ∧ r = nI (vR v k).2.2) ∧ ∀ t9, t9 < 8 → u t9 = G t9)) (fun x9 => (x9 = "java/lang/IndexOutOfBoundsException" ∧ vn v = 0) ∨ x9 = "java/lang/IllegalStateException") 1 6 := by
  refine tg_xin (cc := cX6_strike) (maxL := 3) (ret := (some FieldType.int)) (tg_Qi E (fun r u => (k < vn v ∧ ∃ v2 : av_V, (stH E ad v2 u ∧ sameV (setT v k) v2 ∧ nmOK v2 ∧ caseOK v2) ∧ r = nI (vR v k).2.2) ∧ ∀ t9, t9 < 8 → u t9 = G t9)) (by decide) rfl (Nat.le_of_ble_eq_true rfl) ?_
  intro p e s m args below meth cd ls A htab hx hb hr hml hown hlocks hin hA hAm hw hl
  have hown : s.vm.findClass RX6 = some m.cls := hown
  have hl : lv_has ls 3 [(0, .ref (ad 8)), (1, .int (nI k))] := hl
  obtain ⟨h0, hco, ⟨hLm, hLc, hLr⟩, hbi, hma, hch, hru⟩ := id hI
  have hn60 := h0.1
  obtain ⟨mc9, la9, hl9, -⟩ := id hLr
  refine lv_iload_n hx hb dX6_strike_0 rfl (lv_at hl 1 rfl) ?_
  refine lv_if_lt (tgt := 15) hx hb dX6_strike_1 (by decide) (fun c9 => absurd c9 (fun z9 => absurd ((nI_ltI (a := k) (b := 0) (by omega) (by omega)).mp z9) (by omega))) (fun _ => ?_)
  refine lv_iload_n hx hb dX6_strike_4 rfl (lv_at hl 1 rfl) ?_
  refine lv_aload_n hx hb dX6_strike_5 rfl (lv_at hl 0 rfl) ?_
  refine tg_get (v := .ref (ad 13)) hx hb hown hAm hw lyX6 hco rfl 2 (by decide) qw_227 (fun _ h9 => h9) rfl dX6_strike_6 ?_
  refine tg_callRi (va_runV (As := []) (rest := [.int (nI k)]) (Ts := []) ⟨hx, hb, hml, hown, fun _ h9 => absurd h9 List.not_mem_nil⟩ (lf_size l E _ G (n := vn v) hl9) (rc_cwV hAm qw_343 qw_4 qw_346 qw_344 qw_345 rfl rfl hd_Jx4a65c_size_8abf5 ⟨Nat.le_of_ble_eq_true rfl, Nat.le_of_ble_eq_true rfl⟩) (tg_preV hAm hA hw hl9 (q := vwCl[0]) rfl) rfl rfl hl.1 rfl (lv_room (Nat.le_of_ble_eq_true rfl)) dX6_strike_9 ⟨Nat.le_of_ble_eq_true rfl, Nat.le_of_ble_eq_true rfl⟩) hA hw (fun H locs hw => ?_)
  refine lv_icmp_lt (tgt := 25) hx hb dX6_strike_12 (by decide) (fun c_1 => ?_) (fun c_1 => ?_)
  · have c_1 := (nI_ltI (a := k) (b := vn v) (by omega) (by omega)).mp c_1
    obtain ⟨mcr, lar, capr, fr, hlr, hrr, hpr, hqr, hfr⟩ := ltH.pos hLr (by omega)
    obtain ⟨hb1, hb2, hb3⟩ := h0.2.1 k (by omega)
    have hr9 : G (64 + k) = some (ad (64 + k), .inr (5, [.int (nI (vR v k).1), .ref (ad (32 + (vR v k).2.1)), .int (vT v k).1, .int (nI (vR v k).2.2), .int (vT v k).2])) := hru k (by omega)
    have hm9 : G (32 + (vR v k).2.1) = some (ad (32 + (vR v k).2.1), .inr (4, [.int (nI (vR v k).2.1), .int (nI (vMN v (vR v k).2.1 1)), .int (nI (vMN v (vR v k).2.1 2)), .int (vMI v (vR v k).2.1 3), .int (vMI v (vR v k).2.1 4), .int (vMI v (vR v k).2.1 5), .int (nI (vMN v (vR v k).2.1 6)), .int (vMI v (vR v k).2.1 7)])) := hma _ hb2
    have hk2 : k < vn v := by omega
    refine lv_aload_n hx hb dX6_strike_25 rfl (lv_at hl 0 rfl) ?_
    refine tg_get (v := .ref (ad 13)) hx hb hown hAm hw lyX6 hco rfl 2 (by decide) qw_227 (fun _ h9 => h9) rfl dX6_strike_26 ?_
    refine lv_iload_n hx hb dX6_strike_29 rfl (lv_at hl 1 rfl) ?_
    refine tg_callRr (va_runV (As := [.int (nI k)]) (rest := []) (Ts := []) ⟨hx, hb, hml, hown, fun _ h9 => absurd h9 List.not_mem_nil⟩ (lf_get l E _ G (k := k) (n := vn v) (y := ad (64 + k)) (by omega) (by omega) (by omega) (hfr k (by omega)) hlr hrr) (rc_cwV hAm qw_436 qw_4 qw_439 qw_437 qw_438 rfl rfl hd_Jx4a65c_get_915e3 ⟨Nat.le_of_ble_eq_true rfl, Nat.le_of_ble_eq_true rfl⟩) (tg_preV hAm hA hw hlr (q := vwCl[0]) rfl) rfl rfl hl.1 rfl (lv_room (Nat.le_of_ble_eq_true rfl)) dX6_strike_30 ⟨Nat.le_of_ble_eq_true rfl, Nat.le_of_ble_eq_true rfl⟩) hA hw (fun H locs hw => ?_)
    refine tg_castS (C := RX4) hx hb hown hAm hw qw_524 hr9 rfl dX6_strike_33 ?_
    refine lv_astore_n (lv' := [(2, .ref (ad (64 + k))), (0, .ref (ad 8)), (1, .int (nI k))]) hx hb dX6_strike_36 rfl hl (by decide) rfl (fun ls hl => ?_)
    refine lv_aload_n hx hb dX6_strike_37 rfl (lv_at hl 0 rfl) ?_
    refine tg_getN (v := .int (vT v k).2) hx hb hown hAm hw lyX4 hr9 rfl 4 (by decide) qw_745 (fun _ h9 => h9) rfl dX6_strike_38 ?_
    refine lv_if_eq (tgt := 54) hx hb dX6_strike_41 (by decide) (fun cs => ?_) (fun cs => ?_)
    · refine lv_aload_n hx hb dX6_strike_54 rfl (lv_at hl 0 rfl) ?_
      refine lv_iconst (v := 1) hx hb dX6_strike_55 (by decide) ?_
      refine tg_putN hx hb hown hAm hw lyX4 tyX4 tyX4_ok nmX4 hr9 rfl 4 (by decide) qw_745 (fun _ h9 => h9) rfl (by decide +kernel) (by decide +kernel) (Nat.le_of_ble_eq_true rfl) dX6_strike_56 (fun G_2 H locs g_3 o_4 hw => ?_)
      have hco := (o_4 _ (by omega)).trans hco
      have hlr := (o_4 _ (by omega)).trans hlr
      have hrr := (o_4 _ (by omega)).trans hrr
      have hm9 := (o_4 _ (by omega)).trans hm9
      have hr9 : G_2 (64 + k) = some (ad (64 + k), .inr (5, [.int (nI (vR v k).1), .ref (ad (32 + (vR v k).2.1)), .int (vT v k).1, .int (nI (vR v k).2.2), .int 1])) := g_3
      have hI1 := hI.strk hk2 hr9 (fun t9 h9 => (o_4 t9 (by omega)))
      have hS1 := hS.off (fun t9 h8 h9 => (o_4 t9 (by omega)))
      refine lv_aload_n hx hb dX6_strike_59 rfl (lv_at hl 1 rfl) ?_
      refine tg_callv (va_runV (As := []) (rest := []) (Ts := []) ⟨hx, hb, hml, hown, fun _ h9 => absurd h9 List.not_mem_nil⟩ (co_goOn l E _ ad (setT v k) G_2 hI1 hS1 hok.h hn) (rc_cwV hAm qw_412 qw_1 qw_415 qw_414 qs_4 rfl rfl hd_X6_goOn ⟨Nat.le_of_ble_eq_true rfl, Nat.le_of_ble_eq_true rfl⟩) (tg_preV hAm hA hw hco (q := vwCl[7]) rfl) rfl rfl hl.1 rfl (lv_room (Nat.le_of_ble_eq_true rfl)) dX6_strike_60 ⟨Nat.le_of_ble_eq_true rfl, Nat.le_of_ble_eq_true rfl⟩) hA hw (fun G_5 H locs hp hw => ?_)
      obtain ⟨⟨v2, hIS2, hv2, hn2, hok2⟩, hu⟩ := hp
      obtain ⟨hI2, hS2⟩ := id hIS2
      have hr2 : G_5 (64 + k) = some (ad (64 + k), .inr (5, [.int (nI (vR v2 k).1), .ref (ad (32 + (vR v2 k).2.1)), .int (vT v2 k).1, .int (nI (vR v2 k).2.2), .int (vT v2 k).2])) := hI2.2.2.2.2.2.2 k (by rw [hv2.vn]; exact hk2)
      refine lv_aload_n hx hb dX6_strike_63 rfl (lv_at hl 0 rfl) ?_
      refine tg_getN (v := .int (nI (vR v2 k).2.2)) hx hb hown hAm hw lyX4 hr2 rfl 3 (by decide) qw_743 (fun _ h9 => h9) rfl dX6_strike_64 ?_
      exact vx_ret (tg_iret hx hb hr hlocks hw (⟨⟨hk2, v2, ⟨hIS2, hv2, hn2, hok2⟩, by rw [hv2.vR]; rfl⟩, (fun t9 h9 => (hu t9 h9).trans ((o_4 t9 (by omega))))⟩) (Nat.le_of_ble_eq_true rfl) (Nat.le_of_ble_eq_true rfl) dX6_strike_67)
    · exact tg_throwS hx hb hst hown hAm hw (fun _ _ h9 => h9) (is := 166) (tx := "struck already") (by decide) htab (by rw [hml]; exact hl.1) dX6_strike_44 dX6_strike_47 dX6_strike_48 dX6_strike_50 dX6_strike_53 (Nat.le_of_ble_eq_true rfl) (Nat.le_of_ble_eq_true rfl) (Nat.le_of_ble_eq_true rfl) (Nat.le_of_ble_eq_true rfl) hlocks (Or.inr rfl) (Nat.le_of_ble_eq_true rfl) (Nat.le_of_ble_eq_true rfl)
  · have c_1 := mt (nI_ltI (a := k) (b := vn v) (by omega) (by omega)).mpr c_1
    exact tg_throwO hx hb hst hown hAm hw (fun _ _ h9 => h9) (is := 161) (tx := "run") (by decide) htab (by rw [hml]; exact hl.1) dX6_strike_15 dX6_strike_18 dX6_strike_19 dX6_strike_21 dX6_strike_24 (Nat.le_of_ble_eq_true rfl) (Nat.le_of_ble_eq_true rfl) (Nat.le_of_ble_eq_true rfl) (Nat.le_of_ble_eq_true rfl) hlocks (Or.inl ⟨rfl, by omega⟩) (Nat.le_of_ble_eq_true rfl) (Nat.le_of_ble_eq_true rfl)
set_option maxHeartbeats 4000000 in
set_option maxRecDepth 100000 in
theorem pu_rule (l : Launch) (E : rc_E) (sz : Nat) (ad : Nat → Nat) (v : av_V) (G : tg_G) (hI : ssH E ad v G) (hS : scH E ad G) (hn : nmOK v) (hok : caseOK v) (en lv : Nat) (he1 : 2 ≤ en) (he2 : en ≤ 6) (hv1 : 1 ≤ lv) (hv2 : lv ≤ 200) : tg_M l yX6_rule [Cond.code yX6_rule cX6_rule 4 (some FieldType.int)] { frames := 7, cells := 0, slots := 0, locals := 153 } E [.ref (ad 8), .int (nI en), .int (nI lv)] G sz (tg_Qi E (fun r u => (∃ v2 : av_V, (stH E ad v2 u ∧ sameV (setL v en lv) v2 ∧ nmOK v2 ∧ caseOK v2)) ∧ ∀ t9, t9 < 8 → u t9 = G t9)) 0 0 := by
  refine tg_in (cc := cX6_rule) (maxL := 4) (ret := (some FieldType.int)) (tg_Qi E (fun r u => (∃ v2 : av_V, (stH E ad v2 u ∧ sameV (setL v en lv) v2 ∧ nmOK v2 ∧ caseOK v2)) ∧ ∀ t9, t9 < 8 → u t9 = G t9)) (by decide) rfl (Nat.le_of_ble_eq_true rfl) ?_
  intro p e s m args below meth cd ls A hx hb hr hml hown hlocks hin hA hAm hw hl
  have hown : s.vm.findClass RX6 = some m.cls := hown
  have hl : lv_has ls 4 [(0, .ref (ad 8)), (1, .int (nI en)), (2, .int (nI lv))] := hl
  obtain ⟨h0, hco, ⟨hLm, hLc, hLr⟩, hbi, hma, hch, hru⟩ := id hI
  have hn60 := h0.1
  refine lv_iload_n hx hb dX6_rule_0 rfl (lv_at hl 1 rfl) ?_
  refine lv_iconst (v := 2) hx hb dX6_rule_1 (by decide) ?_
  refine lv_bipush (v := 6) hx hb dX6_rule_2 (by decide) ?_
  refine tg_callRi (va_runS (As := [.int (nI en), .int 2, .int 6]) (rest := []) (Ts := []) ⟨hx, hb, hml, hown, fun _ h9 => absurd h9 List.not_mem_nil⟩ (lf_isOutside l E _ G (nI en) 2 6 (fun z9 => absurd ((nI_ltI (a := en) (b := 2) (by omega) (by omega)).mp z9) (by omega)) ((nI_leI (a := en) (b := 6) (by omega) (by omega)).mpr (by omega))) (rc_cwS hAm qw_269 qw_1 qw_271 qw_270 rfl rfl hd_X6_isOutside ⟨Nat.le_of_ble_eq_true rfl, Nat.le_of_ble_eq_true rfl⟩) (tg_preS hAm hA hw) rfl rfl hl.1 rfl (lv_room (Nat.le_of_ble_eq_true rfl)) dX6_rule_4 ⟨Nat.le_of_ble_eq_true rfl, Nat.le_of_ble_eq_true rfl⟩) hA hw (fun H locs hw => ?_)
  refine lv_if_ne (tgt := 21) hx hb dX6_rule_7 (by decide) (fun c9 => absurd (by decide) c9) (fun _ => ?_)
  refine lv_iload_n hx hb dX6_rule_10 rfl (lv_at hl 2 rfl) ?_
  refine lv_iconst (v := 1) hx hb dX6_rule_11 (by decide) ?_
  refine lv_sipush (v := 200) hx hb dX6_rule_12 (by decide) ?_
  refine tg_callRi (va_runS (As := [.int (nI lv), .int 1, .int 200]) (rest := []) (Ts := []) ⟨hx, hb, hml, hown, fun _ h9 => absurd h9 List.not_mem_nil⟩ (lf_isOutside l E _ G (nI lv) 1 200 (fun z9 => absurd ((nI_ltI (a := lv) (b := 1) (by omega) (by omega)).mp z9) (by omega)) ((nI_leI (a := lv) (b := 200) (by omega) (by omega)).mpr (by omega))) (rc_cwS hAm qw_269 qw_1 qw_271 qw_270 rfl rfl hd_X6_isOutside ⟨Nat.le_of_ble_eq_true rfl, Nat.le_of_ble_eq_true rfl⟩) (tg_preS hAm hA hw) rfl rfl hl.1 rfl (lv_room (Nat.le_of_ble_eq_true rfl)) dX6_rule_15 ⟨Nat.le_of_ble_eq_true rfl, Nat.le_of_ble_eq_true rfl⟩) hA hw (fun H locs hw => ?_)
  refine lv_if_eq (tgt := 31) hx hb dX6_rule_18 (by decide) (fun _ => ?_) (fun c9 => absurd (by decide) c9)
  refine lv_aload_n hx hb dX6_rule_31 rfl (lv_at hl 0 rfl) ?_
  refine tg_get (v := .int (nI (vN v 1))) hx hb hown hAm hw lyX6 hco rfl 8 (by decide) qw_233 (fun _ h9 => h9) rfl dX6_rule_32 ?_
  refine lv_istore_n (lv' := [(3, .int (nI (vN v 1))), (0, .ref (ad 8)), (1, .int (nI en)), (2, .int (nI lv))]) hx hb dX6_rule_35 rfl hl (by decide) rfl (fun ls hl => ?_)
  refine lv_aload_n hx hb dX6_rule_36 rfl (lv_at hl 1 rfl) ?_
  refine lv_iload_n hx hb dX6_rule_37 rfl (lv_at hl 2 rfl) ?_
  refine tg_put hx hb hown hAm hw lyX6 tyX6 tyX6_ok nmX6 hco rfl 7 (by decide) qw_232 (fun _ h9 => h9) rfl rfl rfl (Nat.le_of_ble_eq_true rfl) dX6_rule_38 (fun G_1 H locs g_2 o_3 hw => ?_)
  have hco : G_1 8 = some (ad 8, .inr (7, [.ref (ad 9), .ref (ad 11), .ref (ad 13), .ref (ad 40), .ref (ad 15), .ref (ad 17), .ref (ad 31), .int (nI en), .int (nI (vN v 1)), .int (nI (vN v 2)), .int (nI (vN v 3)), .int (nI (vN v 4)), .int (vI v 0)])) := g_2
  refine lv_aload_n hx hb dX6_rule_41 rfl (lv_at hl 1 rfl) ?_
  refine lv_iload_n hx hb dX6_rule_42 rfl (lv_at hl 3 rfl) ?_
  refine tg_put hx hb hown hAm hw lyX6 tyX6 tyX6_ok nmX6 hco rfl 8 (by decide) qw_233 (fun _ h9 => h9) rfl rfl rfl (Nat.le_of_ble_eq_true rfl) dX6_rule_43 (fun G_4 H locs g_5 o_6 hw => ?_)
  have hco : G_4 8 = some (ad 8, .inr (7, [.ref (ad 9), .ref (ad 11), .ref (ad 13), .ref (ad 40), .ref (ad 15), .ref (ad 17), .ref (ad 31), .int (nI en), .int (nI lv), .int (nI (vN v 2)), .int (nI (vN v 3)), .int (nI (vN v 4)), .int (vI v 0)])) := g_5
  have hI1 := hI.court (setL v en lv) rfl (fun _ _ => rfl) (okV_setL h0 (by omega) (by omega)) hco (fun t9 h9 => (o_6 t9 (by omega)).trans ((o_3 t9 (by omega))))
  have hS1 := hS.off (fun t9 h8 h9 => (o_6 t9 (by omega)).trans ((o_3 t9 (by omega))))
  refine lv_aload_n hx hb dX6_rule_46 rfl (lv_at hl 1 rfl) ?_
  refine tg_callv (va_runV (As := []) (rest := []) (Ts := []) ⟨hx, hb, hml, hown, fun _ h9 => absurd h9 List.not_mem_nil⟩ (co_goOn l E _ ad (setL v en lv) G_4 hI1 hS1 hok.h hn) (rc_cwV hAm qw_412 qw_1 qw_415 qw_414 qs_4 rfl rfl hd_X6_goOn ⟨Nat.le_of_ble_eq_true rfl, Nat.le_of_ble_eq_true rfl⟩) (tg_preV hAm hA hw hco (q := vwCl[7]) rfl) rfl rfl hl.1 rfl (lv_room (Nat.le_of_ble_eq_true rfl)) dX6_rule_47 ⟨Nat.le_of_ble_eq_true rfl, Nat.le_of_ble_eq_true rfl⟩) hA hw (fun G_7 H locs hp hw => ?_)
  obtain ⟨⟨v2, hIS2, hv2, hn2, hok2⟩, hu⟩ := hp
  obtain ⟨hI2, hS2⟩ := id hIS2
  refine lv_iload_n hx hb dX6_rule_50 rfl (lv_at hl 0 rfl) ?_
  exact tg_iret hx hb hr hlocks hw (⟨⟨v2, hIS2, hv2, hn2, hok2⟩, (fun t9 h9 => (hu t9 h9).trans ((o_6 t9 (by omega)).trans ((o_3 t9 (by omega)))))⟩) (Nat.le_of_ble_eq_true rfl) (Nat.le_of_ble_eq_true rfl) dX6_rule_51
theorem hd_X0_open : yX0_open.cls ≠ "java/lang/invoke/MethodHandle" ∧ yX0_open.cls ≠ "java/lang/invoke/VarHandle" ∧ (parseMethodDescriptor yX0_open.desc).map (fun d => d.parameters.length) = some 2 := by decide +kernel
set_option maxHeartbeats 4000000 in
set_option maxRecDepth 100000 in
theorem pu_begin (l : Launch) (hst : l.stackTraces = false) (E : rc_E) (sz : Nat) (ad : Nat → Nat) (v : av_V) (G : tg_G) (hI : ssH E ad v G) (hS : scH E ad G) (hn : nmOK v) (hok : caseOK v) (g b : Nat) (hg6 : g < 6) (hb6 : b < 6) : tg_Mx l yX6_begin [Cond.code yX6_begin cX6_begin 3 (some FieldType.int)] { frames := 7, cells := 1, slots := 6, locals := 153 } E [.ref (ad 8), .int (nI g), .int (nI b)] G sz (tg_Qi E (fun r u => (∃ v2 : av_V, (stH E ad v2 u ∧ sameV v v2 ∧ nmOK v2 ∧ caseOK v2) ∧ r = vI v2 4) ∧ ∀ t9, t9 < 8 → u t9 = G t9)) (fun x9 => x9 = "java/lang/IllegalArgumentException" ∨ x9 = "java/lang/IllegalStateException") 1 6 := by
  refine tg_xin (cc := cX6_begin) (maxL := 3) (ret := (some FieldType.int)) (tg_Qi E (fun r u => (∃ v2 : av_V, (stH E ad v2 u ∧ sameV v v2 ∧ nmOK v2 ∧ caseOK v2) ∧ r = vI v2 4) ∧ ∀ t9, t9 < 8 → u t9 = G t9)) (by decide) rfl (Nat.le_of_ble_eq_true rfl) ?_
  intro p e s m args below meth cd ls A htab hx hb hr hml hown hlocks hin hA hAm hw hl
  have hown : s.vm.findClass RX6 = some m.cls := hown
  have hl : lv_has ls 3 [(0, .ref (ad 8)), (1, .int (nI g)), (2, .int (nI b))] := hl
  obtain ⟨h0, hco, ⟨hLm, hLc, hLr⟩, hbi, hma, hch, hru⟩ := id hI
  have hn60 := h0.1
  refine lv_aload_n hx hb dX6_begin_0 rfl (lv_at hl 0 rfl) ?_
  refine lv_iload_n hx hb dX6_begin_1 rfl (lv_at hl 1 rfl) ?_
  refine tg_callRi (va_runV (As := [.int (nI g)]) (rest := []) (Ts := []) ⟨hx, hb, hml, hown, fun _ h9 => absurd h9 List.not_mem_nil⟩ (co_isNoChange l E _ ad v G hI g hg6) (rc_cwV hAm qw_678 qw_1 qw_681 qw_680 qs_46 rfl rfl hd_X6_isNoChange ⟨Nat.le_of_ble_eq_true rfl, Nat.le_of_ble_eq_true rfl⟩) (tg_preV hAm hA hw hco (q := vwCl[7]) rfl) rfl rfl hl.1 rfl (lv_room (Nat.le_of_ble_eq_true rfl)) dX6_begin_2 ⟨Nat.le_of_ble_eq_true rfl, Nat.le_of_ble_eq_true rfl⟩) hA hw (fun H locs hw => ?_)
  refine lv_if_ne (tgt := 16) hx hb dX6_begin_5 (by decide) (fun c9 => absurd (by decide) c9) (fun _ => ?_)
  refine lv_aload_n hx hb dX6_begin_8 rfl (lv_at hl 0 rfl) ?_
  refine lv_iload_n hx hb dX6_begin_9 rfl (lv_at hl 2 rfl) ?_
  refine tg_callRi (va_runV (As := [.int (nI b)]) (rest := []) (Ts := []) ⟨hx, hb, hml, hown, fun _ h9 => absurd h9 List.not_mem_nil⟩ (co_isNoChange l E _ ad v G hI b hb6) (rc_cwV hAm qw_678 qw_1 qw_681 qw_680 qs_46 rfl rfl hd_X6_isNoChange ⟨Nat.le_of_ble_eq_true rfl, Nat.le_of_ble_eq_true rfl⟩) (tg_preV hAm hA hw hco (q := vwCl[7]) rfl) rfl rfl hl.1 rfl (lv_room (Nat.le_of_ble_eq_true rfl)) dX6_begin_10 ⟨Nat.le_of_ble_eq_true rfl, Nat.le_of_ble_eq_true rfl⟩) hA hw (fun H locs hw => ?_)
  refine lv_if_eq (tgt := 26) hx hb dX6_begin_13 (by decide) (fun _ => ?_) (fun c9 => absurd (by decide) c9)
  refine lv_iload_n hx hb dX6_begin_26 rfl (lv_at hl 2 rfl) ?_
  refine lv_iload_n hx hb dX6_begin_27 rfl (lv_at hl 1 rfl) ?_
  refine lv_icmp_gt (tgt := 41) hx hb dX6_begin_28 (by decide) (fun c_1 => ?_) (fun c_1 => ?_)
  · have c_1 := (nI_ltI (a := g) (b := b) (by omega) (by omega)).mp c_1
    refine lv_aload_n hx hb dX6_begin_41 rfl (lv_at hl 0 rfl) ?_
    refine tg_get (v := .ref (ad 31)) hx hb hown hAm hw lyX6 hco rfl 6 (by decide) qw_231 (fun _ h9 => h9) rfl dX6_begin_42 ?_
    refine tg_getN (v := .int (vI v 1)) hx hb hown hAm hw lyX0 hbi rfl 0 (by decide) qw_151 (fun _ h9 => h9) rfl dX6_begin_45 ?_
    refine lv_if_eq (tgt := 61) hx hb dX6_begin_48 (by decide) (fun cb => ?_) (fun cb => ?_)
    · refine lv_aload_n hx hb dX6_begin_61 rfl (lv_at hl 0 rfl) ?_
      refine tg_get (v := .ref (ad 31)) hx hb hown hAm hw lyX6 hco rfl 6 (by decide) qw_231 (fun _ h9 => h9) rfl dX6_begin_62 ?_
      refine lv_iload_n hx hb dX6_begin_65 rfl (lv_at hl 1 rfl) ?_
      refine lv_iload_n hx hb dX6_begin_66 rfl (lv_at hl 2 rfl) ?_
      refine tg_callv (va_runVN (As := [.int (nI g), .int (nI b)]) (rest := []) (Ts := []) ⟨hx, hb, hml, hown, fun _ h9 => absurd h9 List.not_mem_nil⟩ (lf_open l E _ G (nI g) (nI b) hbi) (rc_cnV hAm qw_685 qw_8 qw_688 qw_687 qs_47 rfl rfl hd_X0_open ⟨Nat.le_of_ble_eq_true rfl, Nat.le_of_ble_eq_true rfl⟩) (tg_preV hAm hA hw hbi (q := vwCl[1]) rfl) rfl rfl hl.1 rfl (lv_room (Nat.le_of_ble_eq_true rfl)) dX6_begin_67 ⟨Nat.le_of_ble_eq_true rfl, Nat.le_of_ble_eq_true rfl⟩) hA hw (fun G_2 H locs hp hw => ?_)
      obtain ⟨hbi, o_4⟩ := hp
      have hco := (o_4 _ (by decide)).trans hco
      have hI1 := hI.bis (fun i => if i = 0 then vI v 0 else if i = 1 then 1 else if i = 2 then nI g else if i = 3 then nI b else vI v 4) hbi rfl (fun t9 h9 => (o_4 t9 (by omega)))
      have hS1 := hS.off (fun t9 h8 h9 => (o_4 t9 (by omega)))
      refine lv_aload_n hx hb dX6_begin_70 rfl (lv_at hl 0 rfl) ?_
      refine tg_callv (va_runV (As := []) (rest := []) (Ts := []) ⟨hx, hb, hml, hown, fun _ h9 => absurd h9 List.not_mem_nil⟩ (co_goOn l E _ ad (setI v (fun i => if i = 0 then vI v 0 else if i = 1 then 1 else if i = 2 then nI g else if i = 3 then nI b else vI v 4)) G_2 hI1 hS1 (Or.inr ⟨g, b, rfl, rfl, rfl, by omega, by omega⟩) hn) (rc_cwV hAm qw_412 qw_1 qw_415 qw_414 qs_4 rfl rfl hd_X6_goOn ⟨Nat.le_of_ble_eq_true rfl, Nat.le_of_ble_eq_true rfl⟩) (tg_preV hAm hA hw hco (q := vwCl[7]) rfl) rfl rfl hl.1 rfl (lv_room (Nat.le_of_ble_eq_true rfl)) dX6_begin_71 ⟨Nat.le_of_ble_eq_true rfl, Nat.le_of_ble_eq_true rfl⟩) hA hw (fun G_5 H locs hp hw => ?_)
      obtain ⟨⟨v2, hIS2, hv2, hn2, hok2⟩, hu⟩ := hp
      obtain ⟨hI2, hS2⟩ := id hIS2
      have hc2 : G_5 8 = some (ad 8, .inr (7, [.ref (ad 9), .ref (ad 11), .ref (ad 13), .ref (ad 40), .ref (ad 15), .ref (ad 17), .ref (ad 31), .int (nI (vN v2 0)), .int (nI (vN v2 1)), .int (nI (vN v2 2)), .int (nI (vN v2 3)), .int (nI (vN v2 4)), .int (vI v2 0)])) := hI2.2.1
      have hb2 : G_5 31 = some (ad 31, .inr (1, [.int (vI v2 1), .int (vI v2 2), .int (vI v2 3), .int (vI v2 4)])) := hI2.2.2.2.1
      refine lv_aload_n hx hb dX6_begin_74 rfl (lv_at hl 0 rfl) ?_
      refine tg_get (v := .ref (ad 31)) hx hb hown hAm hw lyX6 hc2 rfl 6 (by decide) qw_231 (fun _ h9 => h9) rfl dX6_begin_75 ?_
      refine tg_getN (v := .int (vI v2 4)) hx hb hown hAm hw lyX0 hb2 rfl 3 (by decide) qw_157 (fun _ h9 => h9) rfl dX6_begin_78 ?_
      exact vx_ret (tg_iret hx hb hr hlocks hw (⟨⟨v2, ⟨hIS2, (sameV.i _).tr hv2, hn2, hok2⟩, rfl⟩, (fun t9 h9 => (hu t9 h9).trans ((o_4 t9 (by omega))))⟩) (Nat.le_of_ble_eq_true rfl) (Nat.le_of_ble_eq_true rfl) dX6_begin_81)
    · exact tg_throwS hx hb hst hown hAm hw (fun _ _ h9 => h9) (is := 197) (tx := "there is a case") (by decide) htab (by rw [hml]; exact hl.1) dX6_begin_51 dX6_begin_54 dX6_begin_55 dX6_begin_57 dX6_begin_60 (Nat.le_of_ble_eq_true rfl) (Nat.le_of_ble_eq_true rfl) (Nat.le_of_ble_eq_true rfl) (Nat.le_of_ble_eq_true rfl) hlocks (Or.inr rfl) (Nat.le_of_ble_eq_true rfl) (Nat.le_of_ble_eq_true rfl)
  · have c_1 := mt (nI_ltI (a := g) (b := b) (by omega) (by omega)).mpr c_1
    exact tg_throwA hx hb hst hown hAm hw (fun _ _ h9 => h9) (is := 192) (tx := "bad is not above good") (by decide) htab (by rw [hml]; exact hl.1) dX6_begin_31 dX6_begin_34 dX6_begin_35 dX6_begin_37 dX6_begin_40 (Nat.le_of_ble_eq_true rfl) (Nat.le_of_ble_eq_true rfl) (Nat.le_of_ble_eq_true rfl) (Nat.le_of_ble_eq_true rfl) hlocks (Or.inl rfl) (Nat.le_of_ble_eq_true rfl) (Nat.le_of_ble_eq_true rfl)
set_option maxHeartbeats 4000000 in
set_option maxRecDepth 100000 in
theorem pu_drop (l : Launch) (hst : l.stackTraces = false) (E : rc_E) (sz : Nat) (ad : Nat → Nat) (v : av_V) (G : tg_G) (hI : ssH E ad v G) (hS : scH E ad G) (hn : nmOK v) (hok : caseOK v) : tg_Mx l yX6_drop [Cond.code yX6_drop cX6_drop 2 (some FieldType.int)] { frames := 6, cells := 1, slots := 6, locals := 82 } E [.ref (ad 8)] G sz (tg_Qi E (fun r u => (∃ v2 : av_V, (stH E ad v2 u ∧ sameV v v2 ∧ nmOK v2 ∧ caseOK v2) ∧ caseOff v2 ∧ ∃ n : Nat, n < 6 ∧ r = nI n) ∧ ∀ t9, t9 < 8 → u t9 = G t9)) (fun x9 => x9 = "java/lang/IllegalStateException") 1 6 := by
  refine tg_xin (cc := cX6_drop) (maxL := 2) (ret := (some FieldType.int)) (tg_Qi E (fun r u => (∃ v2 : av_V, (stH E ad v2 u ∧ sameV v v2 ∧ nmOK v2 ∧ caseOK v2) ∧ caseOff v2 ∧ ∃ n : Nat, n < 6 ∧ r = nI n) ∧ ∀ t9, t9 < 8 → u t9 = G t9)) (by decide) rfl (Nat.le_of_ble_eq_true rfl) ?_
  intro p e s m args below meth cd ls A htab hx hb hr hml hown hlocks hin hA hAm hw hl
  have hown : s.vm.findClass RX6 = some m.cls := hown
  have hl : lv_has ls 2 [(0, .ref (ad 8))] := hl
  obtain ⟨h0, hco, ⟨hLm, hLc, hLr⟩, hbi, hma, hch, hru⟩ := id hI
  have hn60 := h0.1
  refine lv_aload_n hx hb dX6_drop_0 rfl (lv_at hl 0 rfl) ?_
  refine tg_get (v := .ref (ad 31)) hx hb hown hAm hw lyX6 hco rfl 6 (by decide) qw_231 (fun _ h9 => h9) rfl dX6_drop_1 ?_
  refine tg_getN (v := .int (vI v 1)) hx hb hown hAm hw lyX0 hbi rfl 0 (by decide) qw_151 (fun _ h9 => h9) rfl dX6_drop_4 ?_
  refine lv_if_ne (tgt := 20) hx hb dX6_drop_7 (by decide) (fun cb => ?_) (fun cb => ?_)
  · rcases hok with hoff | ⟨g, b, hW⟩
    · exact absurd hoff.1 cb
    · obtain ⟨⟨ce1, ce2, ce3, hgb, hb6⟩, -⟩ := id hW
      have hbi : G 31 = some (ad 31, .inr (1, [.int 1, .int (nI g), .int (nI b), .int (vI v 4)])) := by rw [← ce1, ← ce2, ← ce3]; exact hbi
      refine lv_aload_n hx hb dX6_drop_20 rfl (lv_at hl 0 rfl) ?_
      refine tg_get (v := .ref (ad 31)) hx hb hown hAm hw lyX6 hco rfl 6 (by decide) qw_231 (fun _ h9 => h9) rfl dX6_drop_21 ?_
      refine tg_getN (v := .int (nI b)) hx hb hown hAm hw lyX0 hbi rfl 2 (by decide) qw_155 (fun _ h9 => h9) rfl dX6_drop_24 ?_
      refine lv_aload_n hx hb dX6_drop_27 rfl (lv_at hl 0 rfl) ?_
      refine tg_get (v := .ref (ad 31)) hx hb hown hAm hw lyX6 hco rfl 6 (by decide) qw_231 (fun _ h9 => h9) rfl dX6_drop_28 ?_
      refine tg_getN (v := .int (nI g)) hx hb hown hAm hw lyX0 hbi rfl 1 (by decide) qw_153 (fun _ h9 => h9) rfl dX6_drop_31 ?_
      refine lv_isub hx hb dX6_drop_34 ?_
      refine rc_topi (nI (b - g)) (pk_sub (a := b) (b := g) (by omega)) ?_
      refine lv_iconst (v := 1) hx hb dX6_drop_35 (by decide) ?_
      refine lv_isub hx hb dX6_drop_36 ?_
      refine rc_topi (nI (b - g - 1)) (pk_sub (a := b - g) (b := 1) (by omega)) ?_
      refine lv_istore_n (lv' := [(1, .int (nI (b - g - 1))), (0, .ref (ad 8))]) hx hb dX6_drop_37 rfl hl (by decide) rfl (fun ls hl => ?_)
      refine lv_aload_n hx hb dX6_drop_38 rfl (lv_at hl 1 rfl) ?_
      refine tg_get (v := .ref (ad 31)) hx hb hown hAm hw lyX6 hco rfl 6 (by decide) qw_231 (fun _ h9 => h9) rfl dX6_drop_39 ?_
      refine tg_callv (va_runVN (As := []) (rest := []) (Ts := []) ⟨hx, hb, hml, hown, fun _ h9 => absurd h9 List.not_mem_nil⟩ (lf_close l E _ G hbi) (rc_cnV hAm qw_503 qw_8 qw_506 qw_505 qs_22 rfl rfl hd_X0_close ⟨Nat.le_of_ble_eq_true rfl, Nat.le_of_ble_eq_true rfl⟩) (tg_preV hAm hA hw hbi (q := vwCl[1]) rfl) rfl rfl hl.1 rfl (lv_room (Nat.le_of_ble_eq_true rfl)) dX6_drop_42 ⟨Nat.le_of_ble_eq_true rfl, Nat.le_of_ble_eq_true rfl⟩) hA hw (fun G_1 H locs hp hw => ?_)
      obtain ⟨hbi, o_3⟩ := hp
      have hco := (o_3 _ (by decide)).trans hco
      refine lv_iload_n hx hb dX6_drop_45 rfl (lv_at hl 0 rfl) ?_
      exact vx_ret (tg_iret hx hb hr hlocks hw (⟨⟨setI v (fun i => if i = 0 then vI v 0 else if i = 1 then 0 else -1), ⟨⟨hI.bis (fun i => if i = 0 then vI v 0 else if i = 1 then 0 else -1) hbi rfl (fun t9 h9 => (o_3 t9 (by omega))), hS.off (fun t9 h8 h9 => (o_3 t9 (by omega)))⟩, sameV.i _, hn, Or.inl ⟨rfl, rfl, rfl, rfl⟩⟩, ⟨rfl, rfl, rfl, rfl⟩, b - g - 1, by omega, rfl⟩, (fun t9 h9 => (o_3 t9 (by omega)))⟩) (Nat.le_of_ble_eq_true rfl) (Nat.le_of_ble_eq_true rfl) dX6_drop_46)
  · exact tg_throwS hx hb hst hown hAm hw (fun _ _ h9 => h9) (is := 205) (tx := "there is no case") (by decide) htab (by rw [hml]; exact hl.1) dX6_drop_10 dX6_drop_13 dX6_drop_14 dX6_drop_16 dX6_drop_19 (Nat.le_of_ble_eq_true rfl) (Nat.le_of_ble_eq_true rfl) (Nat.le_of_ble_eq_true rfl) (Nat.le_of_ble_eq_true rfl) hlocks (rfl) (Nat.le_of_ble_eq_true rfl) (Nat.le_of_ble_eq_true rfl)
set_option maxHeartbeats 4000000 in
set_option maxRecDepth 100000 in
theorem pu_excuse (l : Launch) (hst : l.stackTraces = false) (E : rc_E) (sz : Nat) (ad : Nat → Nat) (v : av_V) (G : tg_G) (hI : ssH E ad v G) (hS : scH E ad G) (c : Nat) (hc : c < 6) (p0 : Nat) (hp1 : 1 ≤ p0) (hp2 : p0 ≤ 100) : tg_Mx l yX6_excuse [Cond.code yX6_excuse cX6_excuse 4 (some FieldType.int)] { frames := 6, cells := 1, slots := 6, locals := 85 } E [.ref (ad 8), .int (nI c), .int (nI p0)] G sz (tg_Qi E (fun r u => (r = nI (vN v 3 - p0) ∧ p0 ≤ vN v 3 ∧ (vC v c).2 = 0 ∧ stH E ad (setX v c p0) u) ∧ ∀ t9, t9 < 8 → u t9 = G t9)) (fun x9 => x9 = "java/lang/IllegalStateException") 1 6 := by
  refine tg_xin (cc := cX6_excuse) (maxL := 4) (ret := (some FieldType.int)) (tg_Qi E (fun r u => (r = nI (vN v 3 - p0) ∧ p0 ≤ vN v 3 ∧ (vC v c).2 = 0 ∧ stH E ad (setX v c p0) u) ∧ ∀ t9, t9 < 8 → u t9 = G t9)) (by decide) rfl (Nat.le_of_ble_eq_true rfl) ?_
  intro p e s m args below meth cd ls A htab hx hb hr hml hown hlocks hin hA hAm hw hl
  have hown : s.vm.findClass RX6 = some m.cls := hown
  have hl : lv_has ls 4 [(0, .ref (ad 8)), (1, .int (nI c)), (2, .int (nI p0))] := hl
  obtain ⟨h0, hco, ⟨hLm, hLc, hLr⟩, hbi, hma, hch, hru⟩ := id hI
  have hn60 := h0.1
  have hb3 : vN v 3 ≤ 100 + 10 * vN v 4 := h0.2.2.2.2.2.2.2.2.1
  have hb4 : vN v 4 < 6 := h0.2.2.2.2.2.2.2.2.2
  have hcc : G (40 + 3 * c) = some (ad (40 + 3 * c), .inr (2, [.ref (ad (41 + 3 * c)), .int (vC v c).1, .int (vC v c).2])) := (hch c (by omega)).1
  refine lv_aload_n hx hb dX6_excuse_0 rfl (lv_at hl 0 rfl) ?_
  refine lv_iload_n hx hb dX6_excuse_1 rfl (lv_at hl 1 rfl) ?_
  refine tg_callRi (va_runV (As := [.int (nI c)]) (rest := []) (Ts := []) ⟨hx, hb, hml, hown, fun _ h9 => absurd h9 List.not_mem_nil⟩ (co_isNoChange l E _ ad v G hI c hc) (rc_cwV hAm qw_678 qw_1 qw_681 qw_680 qs_46 rfl rfl hd_X6_isNoChange ⟨Nat.le_of_ble_eq_true rfl, Nat.le_of_ble_eq_true rfl⟩) (tg_preV hAm hA hw hco (q := vwCl[7]) rfl) rfl rfl hl.1 rfl (lv_room (Nat.le_of_ble_eq_true rfl)) dX6_excuse_2 ⟨Nat.le_of_ble_eq_true rfl, Nat.le_of_ble_eq_true rfl⟩) hA hw (fun H locs hw => ?_)
  refine lv_if_eq (tgt := 18) hx hb dX6_excuse_5 (by decide) (fun _ => ?_) (fun c9 => absurd (by decide) c9)
  refine lv_iload_n hx hb dX6_excuse_18 rfl (lv_at hl 2 rfl) ?_
  refine lv_iconst (v := 1) hx hb dX6_excuse_19 (by decide) ?_
  refine lv_bipush (v := 100) hx hb dX6_excuse_20 (by decide) ?_
  refine tg_callRi (va_runS (As := [.int (nI p0), .int 1, .int 100]) (rest := []) (Ts := []) ⟨hx, hb, hml, hown, fun _ h9 => absurd h9 List.not_mem_nil⟩ (lf_isOutside l E _ G (nI p0) 1 100 (fun z9 => absurd ((nI_ltI (a := p0) (b := 1) (by omega) (by omega)).mp z9) (by omega)) ((nI_leI (a := p0) (b := 100) (by omega) (by omega)).mpr (by omega))) (rc_cwS hAm qw_269 qw_1 qw_271 qw_270 rfl rfl hd_X6_isOutside ⟨Nat.le_of_ble_eq_true rfl, Nat.le_of_ble_eq_true rfl⟩) (tg_preS hAm hA hw) rfl rfl hl.1 rfl (lv_room (Nat.le_of_ble_eq_true rfl)) dX6_excuse_22 ⟨Nat.le_of_ble_eq_true rfl, Nat.le_of_ble_eq_true rfl⟩) hA hw (fun H locs hw => ?_)
  refine lv_if_eq (tgt := 38) hx hb dX6_excuse_25 (by decide) (fun _ => ?_) (fun c9 => absurd (by decide) c9)
  refine lv_aload_n hx hb dX6_excuse_38 rfl (lv_at hl 0 rfl) ?_
  refine lv_iload_n hx hb dX6_excuse_39 rfl (lv_at hl 1 rfl) ?_
  refine tg_callRr (va_runV (As := [.int (nI c)]) (rest := []) (Ts := []) ⟨hx, hb, hml, hown, fun _ h9 => absurd h9 List.not_mem_nil⟩ (co_changeAt l E _ ad v G hI c hc) (rc_cwV hAm qw_432 qw_1 qw_435 qw_434 qs_9 rfl rfl hd_X6_changeAt ⟨Nat.le_of_ble_eq_true rfl, Nat.le_of_ble_eq_true rfl⟩) (tg_preV hAm hA hw hco (q := vwCl[7]) rfl) rfl rfl hl.1 rfl (lv_room (Nat.le_of_ble_eq_true rfl)) dX6_excuse_40 ⟨Nat.le_of_ble_eq_true rfl, Nat.le_of_ble_eq_true rfl⟩) hA hw (fun H locs hw => ?_)
  refine lv_astore_n (lv' := [(3, .ref (ad (40 + 3 * c))), (0, .ref (ad 8)), (1, .int (nI c)), (2, .int (nI p0))]) hx hb dX6_excuse_43 rfl hl (by decide) rfl (fun ls hl => ?_)
  refine lv_aload_n hx hb dX6_excuse_44 rfl (lv_at hl 0 rfl) ?_
  refine tg_getN (v := .int (vC v c).1) hx hb hown hAm hw lyX1 hcc rfl 1 (by decide) qw_71 (fun _ h9 => h9) rfl dX6_excuse_45 ?_
  refine lv_if_eq (tgt := 66) hx hb dX6_excuse_48 (by decide) (fun c1 => ?_) (fun c1 => ?_)
  · exact tg_throwS hx hb hst hown hAm hw (fun _ _ h9 => h9) (is := 229) (tx := "not named, excused, or no credit") (by decide) htab (by rw [hml]; exact hl.1) dX6_excuse_66 dX6_excuse_69 dX6_excuse_70 dX6_excuse_72 dX6_excuse_75 (Nat.le_of_ble_eq_true rfl) (Nat.le_of_ble_eq_true rfl) (Nat.le_of_ble_eq_true rfl) (Nat.le_of_ble_eq_true rfl) hlocks (rfl) (Nat.le_of_ble_eq_true rfl) (Nat.le_of_ble_eq_true rfl)
  · refine lv_aload_n hx hb dX6_excuse_51 rfl (lv_at hl 0 rfl) ?_
    refine tg_getN (v := .int (vC v c).2) hx hb hown hAm hw lyX1 hcc rfl 2 (by decide) qw_73 (fun _ h9 => h9) rfl dX6_excuse_52 ?_
    refine lv_if_ne (tgt := 66) hx hb dX6_excuse_55 (by decide) (fun c2 => ?_) (fun c2 => ?_)
    · exact tg_throwS hx hb hst hown hAm hw (fun _ _ h9 => h9) (is := 229) (tx := "not named, excused, or no credit") (by decide) htab (by rw [hml]; exact hl.1) dX6_excuse_66 dX6_excuse_69 dX6_excuse_70 dX6_excuse_72 dX6_excuse_75 (Nat.le_of_ble_eq_true rfl) (Nat.le_of_ble_eq_true rfl) (Nat.le_of_ble_eq_true rfl) (Nat.le_of_ble_eq_true rfl) hlocks (rfl) (Nat.le_of_ble_eq_true rfl) (Nat.le_of_ble_eq_true rfl)
    · refine lv_iload_n hx hb dX6_excuse_58 rfl (lv_at hl 3 rfl) ?_
      refine lv_aload_n hx hb dX6_excuse_59 rfl (lv_at hl 1 rfl) ?_
      refine tg_get (v := .int (nI (vN v 3))) hx hb hown hAm hw lyX6 hco rfl 10 (by decide) qw_235 (fun _ h9 => h9) rfl dX6_excuse_60 ?_
      refine lv_icmp_le (tgt := 76) hx hb dX6_excuse_63 (by decide) (fun c_1 => ?_) (fun c_1 => ?_)
      · have c_1 := (nI_leI (a := p0) (b := vN v 3) (by omega) (by omega)).mp c_1
        refine lv_aload_n hx hb dX6_excuse_76 rfl (lv_at hl 0 rfl) ?_
        refine lv_iconst (v := 1) hx hb dX6_excuse_77 (by decide) ?_
        refine tg_putN hx hb hown hAm hw lyX1 tyX1 tyX1_ok nmX1 hcc rfl 2 (by decide) qw_73 (fun _ h9 => h9) rfl (by decide +kernel) (by decide +kernel) (Nat.le_of_ble_eq_true rfl) dX6_excuse_78 (fun G_2 H locs g_3 o_4 hw => ?_)
        have hco := (o_4 _ (by omega)).trans hco
        have hcc : G_2 (40 + 3 * c) = some (ad (40 + 3 * c), .inr (2, [.ref (ad (41 + 3 * c)), .int (vC v c).1, .int 1])) := g_3
        refine lv_aload_n hx hb dX6_excuse_81 rfl (lv_at hl 1 rfl) ?_
        refine lv_dup hx hb dX6_excuse_82 rfl ?_
        refine tg_get (v := .int (nI (vN v 3))) hx hb hown hAm hw lyX6 hco rfl 10 (by decide) qw_235 (fun _ h9 => h9) rfl dX6_excuse_83 ?_
        refine lv_iload_n hx hb dX6_excuse_86 rfl (lv_at hl 3 rfl) ?_
        refine lv_isub hx hb dX6_excuse_87 ?_
        refine rc_topi (nI (vN v 3 - p0)) (pk_sub (a := vN v 3) (b := p0) (by omega)) ?_
        refine tg_put hx hb hown hAm hw lyX6 tyX6 tyX6_ok nmX6 hco rfl 10 (by decide) qw_235 (fun _ h9 => h9) rfl rfl rfl (Nat.le_of_ble_eq_true rfl) dX6_excuse_88 (fun G_5 H locs g_6 o_7 hw => ?_)
        have hcc := (o_7 _ (by omega)).trans hcc
        have hco : G_5 8 = some (ad 8, .inr (7, [.ref (ad 9), .ref (ad 11), .ref (ad 13), .ref (ad 40), .ref (ad 15), .ref (ad 17), .ref (ad 31), .int (nI (vN v 0)), .int (nI (vN v 1)), .int (nI (vN v 2)), .int (nI (vN v 3 - p0)), .int (nI (vN v 4)), .int (vI v 0)])) := g_6
        refine lv_aload_n hx hb dX6_excuse_91 rfl (lv_at hl 1 rfl) ?_
        refine tg_get (v := .int (nI (vN v 3 - p0))) hx hb hown hAm hw lyX6 hco rfl 10 (by decide) qw_235 (fun _ h9 => h9) rfl dX6_excuse_92 ?_
        exact vx_ret (tg_iret hx hb hr hlocks hw (⟨⟨rfl, by omega, c2, hI.exc hc hcc hco (fun t9 h9 h10 => (o_7 t9 (by omega)).trans ((o_4 t9 (by omega)))), hS.off (fun t9 h8 h9 => (o_7 t9 (by omega)).trans ((o_4 t9 (by omega))))⟩, (fun t9 h9 => (o_7 t9 (by omega)).trans ((o_4 t9 (by omega))))⟩) (Nat.le_of_ble_eq_true rfl) (Nat.le_of_ble_eq_true rfl) dX6_excuse_95)
      · have c_1 := mt (nI_leI (a := p0) (b := vN v 3) (by omega) (by omega)).mpr c_1
        exact tg_throwS hx hb hst hown hAm hw (fun _ _ h9 => h9) (is := 229) (tx := "not named, excused, or no credit") (by decide) htab (by rw [hml]; exact hl.1) dX6_excuse_66 dX6_excuse_69 dX6_excuse_70 dX6_excuse_72 dX6_excuse_75 (Nat.le_of_ble_eq_true rfl) (Nat.le_of_ble_eq_true rfl) (Nat.le_of_ble_eq_true rfl) (Nat.le_of_ble_eq_true rfl) hlocks (rfl) (Nat.le_of_ble_eq_true rfl) (Nat.le_of_ble_eq_true rfl)
set_option maxHeartbeats 4000000 in
set_option maxRecDepth 100000 in
theorem pu_budget (l : Launch) (E : rc_E) (sz : Nat) (ad : Nat → Nat) (v : av_V) (G : tg_G) (hI : ssH E ad v G) (hS : scH E ad G) (n : Nat) (hn1 : 1 ≤ n) (hn2 : n ≤ 5000) : tg_M l yX6_budget [Cond.code yX6_budget cX6_budget 2 (some FieldType.int)] { frames := 1, cells := 0, slots := 0, locals := 22 } E [.ref (ad 8), .int (nI n)] G sz (tg_Qi E (fun r u => (r = nI (min 5000 (vN v 2 + n)) ∧ stH E ad (setB v (min 5000 (vN v 2 + n))) u) ∧ ∀ t9, t9 < 8 → u t9 = G t9)) 0 0 := by
  refine tg_in (cc := cX6_budget) (maxL := 2) (ret := (some FieldType.int)) (tg_Qi E (fun r u => (r = nI (min 5000 (vN v 2 + n)) ∧ stH E ad (setB v (min 5000 (vN v 2 + n))) u) ∧ ∀ t9, t9 < 8 → u t9 = G t9)) (by decide) rfl (Nat.le_of_ble_eq_true rfl) ?_
  intro p e s m args below meth cd ls A hx hb hr hml hown hlocks hin hA hAm hw hl
  have hown : s.vm.findClass RX6 = some m.cls := hown
  have hl : lv_has ls 2 [(0, .ref (ad 8)), (1, .int (nI n))] := hl
  obtain ⟨h0, hco, ⟨hLm, hLc, hLr⟩, hbi, hma, hch, hru⟩ := id hI
  have hn60 := h0.1
  have hb2 : vN v 2 ≤ 5000 := h0.2.2.2.2.2.2.2.1
  refine lv_iload_n hx hb dX6_budget_0 rfl (lv_at hl 1 rfl) ?_
  refine lv_iconst (v := 1) hx hb dX6_budget_1 (by decide) ?_
  refine lv_sipush (v := 5000) hx hb dX6_budget_2 (by decide) ?_
  refine tg_callRi (va_runS (As := [.int (nI n), .int 1, .int 5000]) (rest := []) (Ts := []) ⟨hx, hb, hml, hown, fun _ h9 => absurd h9 List.not_mem_nil⟩ (lf_isOutside l E _ G (nI n) 1 5000 (fun z9 => absurd ((nI_ltI (a := n) (b := 1) (by omega) (by omega)).mp z9) (by omega)) ((nI_leI (a := n) (b := 5000) (by omega) (by omega)).mpr (by omega))) (rc_cwS hAm qw_269 qw_1 qw_271 qw_270 rfl rfl hd_X6_isOutside ⟨Nat.le_of_ble_eq_true rfl, Nat.le_of_ble_eq_true rfl⟩) (tg_preS hAm hA hw) rfl rfl hl.1 rfl (lv_room (Nat.le_of_ble_eq_true rfl)) dX6_budget_5 ⟨Nat.le_of_ble_eq_true rfl, Nat.le_of_ble_eq_true rfl⟩) hA hw (fun H locs hw => ?_)
  refine lv_if_eq (tgt := 21) hx hb dX6_budget_8 (by decide) (fun _ => ?_) (fun c9 => absurd (by decide) c9)
  refine lv_aload_n hx hb dX6_budget_21 rfl (lv_at hl 0 rfl) ?_
  refine lv_sipush (v := 5000) hx hb dX6_budget_22 (by decide) ?_
  refine lv_aload_n hx hb dX6_budget_25 rfl (lv_at hl 0 rfl) ?_
  refine tg_get (v := .int (nI (vN v 2))) hx hb hown hAm hw lyX6 hco rfl 9 (by decide) qw_234 (fun _ h9 => h9) rfl dX6_budget_26 ?_
  refine lv_iload_n hx hb dX6_budget_29 rfl (lv_at hl 1 rfl) ?_
  refine lv_iadd hx hb dX6_budget_30 ?_
  refine rc_topi (nI (vN v 2 + n)) (nI_add (vN v 2) n) ?_
  refine va_mmin hx hb (by rw [hml]; exact hl.1.symm) hown (hAm.wd qw_718 rfl rfl) (hAm.wd qw_218 rfl rfl) (hAm.wd qw_10 rfl rfl) (hAm.wd qw_219 rfl rfl) (Nat.le_of_ble_eq_true rfl) (Nat.le_of_ble_eq_true rfl) (Nat.le_of_ble_eq_true rfl) (Nat.le_of_ble_eq_true rfl) dX6_budget_31 ?_
  refine rc_topi (nI (min 5000 (vN v 2 + n))) (nb_min (a := 5000) (b := vN v 2 + n) (by omega) (by omega)) ?_
  refine tg_put hx hb hown hAm hw lyX6 tyX6 tyX6_ok nmX6 hco rfl 9 (by decide) qw_234 (fun _ h9 => h9) rfl rfl rfl (Nat.le_of_ble_eq_true rfl) dX6_budget_34 (fun G_1 H locs g_2 o_3 hw => ?_)
  have hco : G_1 8 = some (ad 8, .inr (7, [.ref (ad 9), .ref (ad 11), .ref (ad 13), .ref (ad 40), .ref (ad 15), .ref (ad 17), .ref (ad 31), .int (nI (vN v 0)), .int (nI (vN v 1)), .int (nI (min 5000 (vN v 2 + n))), .int (nI (vN v 3)), .int (nI (vN v 4)), .int (vI v 0)])) := g_2
  refine lv_aload_n hx hb dX6_budget_37 rfl (lv_at hl 0 rfl) ?_
  refine tg_get (v := .int (nI (min 5000 (vN v 2 + n)))) hx hb hown hAm hw lyX6 hco rfl 9 (by decide) qw_234 (fun _ h9 => h9) rfl dX6_budget_38 ?_
  exact tg_iret hx hb hr hlocks hw (⟨⟨rfl, hI.court (setB v (min 5000 (vN v 2 + n))) rfl (fun _ _ => rfl) (okV_setB h0 (by omega)) hco (fun t9 h9 => (o_3 t9 (by omega))), hS.off (fun t9 h8 h9 => (o_3 t9 (by omega)))⟩, (fun t9 h9 => (o_3 t9 (by omega)))⟩) (Nat.le_of_ble_eq_true rfl) (Nat.le_of_ble_eq_true rfl) dX6_budget_41
