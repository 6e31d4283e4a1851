theorem hd_X0_probe : yX0_probe.cls ≠ "java/lang/invoke/MethodHandle" ∧ yX0_probe.cls ≠ "java/lang/invoke/VarHandle" ∧ (parseMethodDescriptor yX0_probe.desc).map (fun d => d.parameters.length) = some 0 := by decide +kernel
theorem hd_X0_narrow : yX0_narrow.cls ≠ "java/lang/invoke/MethodHandle" ∧ yX0_narrow.cls ≠ "java/lang/invoke/VarHandle" ∧ (parseMethodDescriptor yX0_narrow.desc).map (fun d => d.parameters.length) = some 2 := by decide +kernel
theorem hd_X0_close : yX0_close.cls ≠ "java/lang/invoke/MethodHandle" ∧ yX0_close.cls ≠ "java/lang/invoke/VarHandle" ∧ (parseMethodDescriptor yX0_close.desc).map (fun d => d.parameters.length) = some 0 := by decide +kernel
set_option maxHeartbeats 4000000 in
set_option maxRecDepth 100000 in
theorem co_bisectOnce (l : Launch) (E : rc_E) (sz : Nat) (ad : Nat → Nat) (v : av_V) (G : tg_G) (hI : ssH E ad v G) (hS : scH E ad G) (g b : Nat) (hC : caseS v g b) (hn : nmOK v) : tg_M l yX6_bisectOnce [Cond.code yX6_bisectOnce cX6_bisectOnce 3 (some FieldType.boolean)] { frames := 5, cells := 0, slots := 0, locals := 109 } E [.ref (ad 8)] G sz (tg_Qi E (fun r u => BO E ad v u g b r ∧ ∀ t9, t9 < 8 → u t9 = G t9)) 0 0 := by
  refine tg_in (cc := cX6_bisectOnce) (maxL := 3) (ret := (some FieldType.boolean)) (tg_Qi E (fun r u => BO E ad v u g b r ∧ ∀ t9, t9 < 8 → u t9 = G t9)) (by decide) rfl (Nat.le_of_ble_eq_true rfl) ?_
  intro p e s m args below meth cd ls A hx hb hr hml hown hlocks hin hA hAm hw hl
  have hown : s.vm.findClass RX6 = some m.cls := hown
  have hl : lv_has ls 3 [(0, .ref (ad 8))] := hl
  obtain ⟨h0, hco, ⟨hLm, hLc, hLr⟩, hbi, hma, hch, hru⟩ := id hI
  have hn60 := h0.1
  have HO := fun (t9 : Nat) (_ : t9 < 15 ∨ 31 ≤ t9) => (rfl : G t9 = G t9)
  obtain ⟨ce1, ce2, ce3, hgb, hb6⟩ := id hC
  obtain ⟨hpg, hpb⟩ := prN_in hgb
  have hbi : G 31 = some (ad 31, .inr (1, [.int 1, .int (nI g), .int (nI b), .int (vI v 4)])) := by rw [← ce1, ← ce2, ← ce3]; exact hbi
  refine lv_aload_n hx hb dX6_bisectOnce_0 rfl (lv_at hl 0 rfl) ?_
  refine tg_get (v := .ref (ad 31)) hx hb hown hAm hw lyX6 hco rfl 6 (by decide) qw_231 (fun _ h9 => h9) rfl dX6_bisectOnce_1 ?_
  refine tg_callRi (va_runVN (As := []) (rest := []) (Ts := []) ⟨hx, hb, hml, hown, fun _ h9 => absurd h9 List.not_mem_nil⟩ (bi_probe l E _ G (by omega) (by omega) hbi) (rc_cnV hAm qw_420 qw_8 qw_423 qw_422 qs_6 rfl rfl hd_X0_probe ⟨Nat.le_of_ble_eq_true rfl, Nat.le_of_ble_eq_true rfl⟩) (tg_preV hAm hA hw hbi (q := vwCl[1]) rfl) rfl rfl hl.1 rfl (lv_room (Nat.le_of_ble_eq_true rfl)) dX6_bisectOnce_4 ⟨Nat.le_of_ble_eq_true rfl, Nat.le_of_ble_eq_true rfl⟩) hA hw (fun H locs hw => ?_)
  refine lv_istore_n (lv' := [(1, .int (nI (prN g b))), (0, .ref (ad 8))]) hx hb dX6_bisectOnce_7 rfl hl (by decide) rfl (fun ls hl => ?_)
  refine lv_aload_n hx hb dX6_bisectOnce_8 rfl (lv_at hl 1 rfl) ?_
  refine lv_aload_n hx hb dX6_bisectOnce_9 rfl (lv_at hl 1 rfl) ?_
  refine tg_get (v := .ref (ad 31)) hx hb hown hAm hw lyX6 hco rfl 6 (by decide) qw_231 (fun _ h9 => h9) rfl dX6_bisectOnce_10 ?_
  refine tg_getN (v := .int (nI g)) hx hb hown hAm hw lyX0 hbi rfl 1 (by decide) qw_153 (fun _ h9 => h9) rfl dX6_bisectOnce_13 ?_
  refine lv_iload_n hx hb dX6_bisectOnce_16 rfl (lv_at hl 0 rfl) ?_
  refine tg_callv (va_runV (As := [.int (nI g), .int (nI (prN g b))]) (rest := []) (Ts := []) ⟨hx, hb, hml, hown, fun _ h9 => absurd h9 List.not_mem_nil⟩ (co_meet l E _ ad v G hI hS g (prN g b) (by omega) (by omega)) (rc_cwV hAm qw_424 qw_1 qw_427 qw_426 qs_7 rfl rfl hd_X6_meet ⟨Nat.le_of_ble_eq_true rfl, Nat.le_of_ble_eq_true rfl⟩) (tg_preV hAm hA hw hco (q := vwCl[7]) rfl) rfl rfl hl.1 rfl (lv_room (Nat.le_of_ble_eq_true rfl)) dX6_bisectOnce_17 ⟨Nat.le_of_ble_eq_true rfl, Nat.le_of_ble_eq_true rfl⟩) hA hw (fun G_1 H locs hp hw => ?_)
  obtain ⟨hD, hu⟩ := hp
  have hS := scH_meet hS hD hu
  have hco := (hu 8 (by omega)).trans hco
  have hbi := (hu 31 (by omega)).trans hbi
  have hI := hI.scr (fun t9 h9 => hu t9 (by omega))
  have HO := fun (t9 : Nat) (h9 : t9 < 15 ∨ 31 ≤ t9) => (hu t9 (by omega)).trans (HO t9 h9)
  obtain ⟨A9, hA9⟩ : ∃ A9, A9 = samp v g := ⟨_, rfl⟩
  obtain ⟨B9, hB9⟩ : ∃ B9, B9 = samp v (prN g b) := ⟨_, rfl⟩
  rw [← hA9, ← hB9] at hD
  obtain ⟨hD1, hD2, h17, h22, h23, hR⟩ := id hD
  have h18 := hD1.1
  have h20 := hD2.1
  have hal := (alN_sym hD1.2.2.1 hD2.2.2.1).2
  have hhi := hiN_le A9 B9
  have hlo := loN_le A9 B9
  have hen : vN v 0 < 7 := h0.2.2.2.2.2.1
  have hlv0 : vN v 1 ≤ 200 := h0.2.2.2.2.2.2.1
  have hlv : vN v 1 * alN A9 B9 < 2 ^ 31 := Nat.lt_of_le_of_lt (Nat.mul_le_mul hlv0 hal) (by decide)
  have hA6 : A9.length ≤ 6 := hD1.2.2.1
  have hB6 : B9.length ≤ 6 := hD2.2.2.1
  have ho5 := outD_lt v A9 B9
  refine lv_aload_n hx hb dX6_bisectOnce_20 rfl (lv_at hl 1 rfl) ?_
  refine tg_get (v := .ref (ad 17)) hx hb hown hAm hw lyX6 hco rfl 5 (by decide) qw_230 (fun _ h9 => h9) rfl dX6_bisectOnce_21 ?_
  refine lv_aload_n hx hb dX6_bisectOnce_24 rfl (lv_at hl 1 rfl) ?_
  refine tg_get (v := .int (nI (vN v 0))) hx hb hown hAm hw lyX6 hco rfl 7 (by decide) qw_232 (fun _ h9 => h9) rfl dX6_bisectOnce_25 ?_
  refine lv_aload_n hx hb dX6_bisectOnce_28 rfl (lv_at hl 1 rfl) ?_
  refine tg_get (v := .int (nI (vN v 1))) hx hb hown hAm hw lyX6 hco rfl 8 (by decide) qw_233 (fun _ h9 => h9) rfl dX6_bisectOnce_29 ?_
  refine tg_callRi (va_runVN (As := [.int (nI (vN v 0)), .int (nI (vN v 1))]) (rest := []) (Ts := []) ⟨hx, hb, hml, hown, fun _ h9 => absurd h9 List.not_mem_nil⟩ (du_outcome l E _ G_1 (nA := A9.length) (nB := B9.length) (hi := hiN A9 B9) (lo := loN A9 B9) (al := alN A9 B9) (en := vN v 0) (lv := vN v 1) ⟨hD1.2.2.1, hD2.2.2.1⟩ (by omega) (by omega) (by omega) hlv h17 h18 h20) (rc_cnV hAm qw_499 qw_7 qw_502 qw_501 qs_21 rfl rfl hd_X2_outcome ⟨Nat.le_of_ble_eq_true rfl, Nat.le_of_ble_eq_true rfl⟩) (tg_preV hAm hA hw h17 (q := vwCl[3]) rfl) rfl rfl hl.1 rfl (lv_room (Nat.le_of_ble_eq_true rfl)) dX6_bisectOnce_32 ⟨Nat.le_of_ble_eq_true rfl, Nat.le_of_ble_eq_true rfl⟩) hA hw (fun H locs hw => ?_)
  refine lv_istore_n (lv' := [(2, .int (nI (outD v A9 B9))), (1, .int (nI (prN g b))), (0, .ref (ad 8))]) hx hb dX6_bisectOnce_35 rfl hl (by decide) rfl (fun ls hl => ?_)
  refine lv_iload_n hx hb dX6_bisectOnce_36 rfl (lv_at hl 0 rfl) ?_
  refine lv_if_eq (tgt := 45) hx hb dX6_bisectOnce_37 (by decide) (fun c_3 => ?_) (fun c_3 => ?_)
  · have c_3 := (nI_eq (a := outD v A9 B9) (b := 0) (by omega) (by omega)).mp c_3
    refine lv_aload_n hx hb dX6_bisectOnce_45 rfl (lv_at hl 2 rfl) ?_
    refine tg_get (v := .ref (ad 31)) hx hb hown hAm hw lyX6 hco rfl 6 (by decide) qw_231 (fun _ h9 => h9) rfl dX6_bisectOnce_46 ?_
    refine lv_aload_n hx hb dX6_bisectOnce_49 rfl (lv_at hl 2 rfl) ?_
    refine tg_get (v := .ref (ad 17)) hx hb hown hAm hw lyX6 hco rfl 5 (by decide) qw_230 (fun _ h9 => h9) rfl dX6_bisectOnce_50 ?_
    refine tg_getN (v := .ref (ad 18)) hx hb hown hAm hw lyX2 h17 rfl 0 (by decide) qw_108 (fun _ h9 => h9) rfl dX6_bisectOnce_53 ?_
    refine tg_getN (v := .int (nI A9.length)) hx hb hown hAm hw lyX5 h18 rfl 1 (by decide) qw_90 (fun _ h9 => h9) rfl dX6_bisectOnce_56 ?_
    refine lv_aload_n hx hb dX6_bisectOnce_59 rfl (lv_at hl 2 rfl) ?_
    refine tg_get (v := .ref (ad 17)) hx hb hown hAm hw lyX6 hco rfl 5 (by decide) qw_230 (fun _ h9 => h9) rfl dX6_bisectOnce_60 ?_
    refine tg_getN (v := .ref (ad 20)) hx hb hown hAm hw lyX2 h17 rfl 1 (by decide) qw_110 (fun _ h9 => h9) rfl dX6_bisectOnce_63 ?_
    refine tg_getN (v := .int (nI B9.length)) hx hb hown hAm hw lyX5 h20 rfl 1 (by decide) qw_90 (fun _ h9 => h9) rfl dX6_bisectOnce_66 ?_
    refine lv_icmp_ge (tgt := 82) hx hb dX6_bisectOnce_69 (by decide) (fun c_4 => ?_) (fun c_4 => ?_)
    · have c_4 := (nI_leI (a := B9.length) (b := A9.length) (by omega) (by omega)).mp c_4
      refine lv_iload_n hx hb dX6_bisectOnce_82 rfl (lv_at hl 1 rfl) ?_
      refine tg_putN hx hb hown hAm hw lyX0 tyX0 tyX0_ok nmX0 hbi rfl 3 (by decide) qw_157 (fun _ h9 => h9) rfl rfl rfl (Nat.le_of_ble_eq_true rfl) dX6_bisectOnce_83 (fun G_5 H locs g_6 o_7 hw => ?_)
      have hco := (o_7 _ (by decide)).trans hco
      have h17 := (o_7 _ (by decide)).trans h17
      have h18 := (o_7 _ (by decide)).trans h18
      have h20 := (o_7 _ (by decide)).trans h20
      have hbi : G_5 31 = some (ad 31, .inr (1, [.int 1, .int (nI g), .int (nI b), .int (nI (prN g b))])) := g_6
      refine lv_iconst (v := 0) hx hb dX6_bisectOnce_86 (by decide) ?_
      exact tg_zret hx hb hr hlocks hw rfl (⟨bo_wait hI hS hC hn hA9 hB9 (by omega) (if_neg (by omega)).symm hbi (fun t9 h9 => (o_7 t9 (by omega))), (fun t9 h9 => ((o_7 t9 (by omega))).trans (HO t9 (by omega)))⟩) (Nat.le_of_ble_eq_true rfl) (Nat.le_of_ble_eq_true rfl) dX6_bisectOnce_87
    · have c_4 := mt (nI_leI (a := B9.length) (b := A9.length) (by omega) (by omega)).mpr c_4
      refine lv_aload_n hx hb dX6_bisectOnce_72 rfl (lv_at hl 2 rfl) ?_
      refine tg_get (v := .ref (ad 31)) hx hb hown hAm hw lyX6 hco rfl 6 (by decide) qw_231 (fun _ h9 => h9) rfl dX6_bisectOnce_73 ?_
      refine tg_getN (v := .int (nI g)) hx hb hown hAm hw lyX0 hbi rfl 1 (by decide) qw_153 (fun _ h9 => h9) rfl dX6_bisectOnce_76 ?_
      refine lv_goto (tgt := 83) hx hb dX6_bisectOnce_79 (by decide) ?_
      refine tg_putN hx hb hown hAm hw lyX0 tyX0 tyX0_ok nmX0 hbi rfl 3 (by decide) qw_157 (fun _ h9 => h9) rfl rfl rfl (Nat.le_of_ble_eq_true rfl) dX6_bisectOnce_83 (fun G_8 H locs g_9 o_10 hw => ?_)
      have hco := (o_10 _ (by decide)).trans hco
      have h17 := (o_10 _ (by decide)).trans h17
      have h18 := (o_10 _ (by decide)).trans h18
      have h20 := (o_10 _ (by decide)).trans h20
      have hbi : G_8 31 = some (ad 31, .inr (1, [.int 1, .int (nI g), .int (nI b), .int (nI g)])) := g_9
      refine lv_iconst (v := 0) hx hb dX6_bisectOnce_86 (by decide) ?_
      exact tg_zret hx hb hr hlocks hw rfl (⟨bo_wait hI hS hC hn hA9 hB9 (by omega) (if_pos (by omega)).symm hbi (fun t9 h9 => (o_10 t9 (by omega))), (fun t9 h9 => ((o_10 t9 (by omega))).trans (HO t9 (by omega)))⟩) (Nat.le_of_ble_eq_true rfl) (Nat.le_of_ble_eq_true rfl) dX6_bisectOnce_87
  · have c_3 := mt (nI_eq (a := outD v A9 B9) (b := 0) (by omega) (by omega)).mpr c_3
    refine lv_iload_n hx hb dX6_bisectOnce_40 rfl (lv_at hl 0 rfl) ?_
    refine lv_iconst (v := 4) hx hb dX6_bisectOnce_41 (by decide) ?_
    refine lv_icmp_ne (tgt := 88) hx hb dX6_bisectOnce_42 (by decide) (fun c_11 => ?_) (fun c_11 => ?_)
    · have c_11 := mt (nI_eq (a := outD v A9 B9) (b := 4) (by omega) (by omega)).mpr c_11
      refine lv_iload_n hx hb dX6_bisectOnce_88 rfl (lv_at hl 1 rfl) ?_
      refine lv_aload_n hx hb dX6_bisectOnce_89 rfl (lv_at hl 2 rfl) ?_
      refine tg_get (v := .ref (ad 31)) hx hb hown hAm hw lyX6 hco rfl 6 (by decide) qw_231 (fun _ h9 => h9) rfl dX6_bisectOnce_90 ?_
      refine tg_getN (v := .int (nI b)) hx hb hown hAm hw lyX0 hbi rfl 2 (by decide) qw_155 (fun _ h9 => h9) rfl dX6_bisectOnce_93 ?_
      refine lv_icmp_ne (tgt := 127) hx hb dX6_bisectOnce_96 (by decide) (fun c_12 => ?_) (fun c_12 => ?_)
      · have c_12 := mt (nI_eq (a := prN g b) (b := b) (by omega) (by omega)).mpr c_12
        refine lv_aload_n hx hb dX6_bisectOnce_127 rfl (lv_at hl 2 rfl) ?_
        refine tg_get (v := .ref (ad 31)) hx hb hown hAm hw lyX6 hco rfl 6 (by decide) qw_231 (fun _ h9 => h9) rfl dX6_bisectOnce_128 ?_
        refine lv_iload_n hx hb dX6_bisectOnce_131 rfl (lv_at hl 1 rfl) ?_
        refine lv_iload_n hx hb dX6_bisectOnce_132 rfl (lv_at hl 0 rfl) ?_
        refine lv_iconst (v := 1) hx hb dX6_bisectOnce_133 (by decide) ?_
        refine lv_icmp_ne (tgt := 141) hx hb dX6_bisectOnce_134 (by decide) (fun c_13 => ?_) (fun c_13 => ?_)
        · have c_13 := mt (nI_eq (a := outD v A9 B9) (b := 1) (by omega) (by omega)).mpr c_13
          refine lv_iconst (v := 0) hx hb dX6_bisectOnce_141 (by decide) ?_
          refine tg_callv (va_runVN (As := [.int (nI (prN g b)), .int 0]) (rest := []) (Ts := []) ⟨hx, hb, hml, hown, fun _ h9 => absurd h9 List.not_mem_nil⟩ (bi_narrow0 l E _ G_1 (nI (prN g b)) hbi) (rc_cnV hAm qw_507 qw_8 qw_510 qw_509 qs_23 rfl rfl hd_X0_narrow ⟨Nat.le_of_ble_eq_true rfl, Nat.le_of_ble_eq_true rfl⟩) (tg_preV hAm hA hw hbi (q := vwCl[1]) rfl) rfl rfl hl.1 rfl (lv_room (Nat.le_of_ble_eq_true rfl)) dX6_bisectOnce_142 ⟨Nat.le_of_ble_eq_true rfl, Nat.le_of_ble_eq_true rfl⟩) hA hw (fun G_14 H locs hp hw => ?_)
          obtain ⟨hbi, o_16⟩ := hp
          have hco := (o_16 _ (by decide)).trans hco
          have h17 := (o_16 _ (by decide)).trans h17
          have h18 := (o_16 _ (by decide)).trans h18
          have h20 := (o_16 _ (by decide)).trans h20
          refine lv_iconst (v := 1) hx hb dX6_bisectOnce_145 (by decide) ?_
          exact tg_zret hx hb hr hlocks hw rfl (⟨bo_narrow hI hS hC hn (by omega) hbi (fun t9 h9 => (o_16 t9 (by omega))), (fun t9 h9 => ((o_16 t9 (by omega))).trans (HO t9 (by omega)))⟩) (Nat.le_of_ble_eq_true rfl) (Nat.le_of_ble_eq_true rfl) dX6_bisectOnce_146
        · have c_13 := (nI_eq (a := outD v A9 B9) (b := 1) (by omega) (by omega)).mp c_13
          refine lv_iconst (v := 1) hx hb dX6_bisectOnce_137 (by decide) ?_
          refine lv_goto (tgt := 142) hx hb dX6_bisectOnce_138 (by decide) ?_
          refine tg_callv (va_runVN (As := [.int (nI (prN g b)), .int 1]) (rest := []) (Ts := []) ⟨hx, hb, hml, hown, fun _ h9 => absurd h9 List.not_mem_nil⟩ (bi_narrow1 l E _ G_1 (nI (prN g b)) hbi) (rc_cnV hAm qw_507 qw_8 qw_510 qw_509 qs_23 rfl rfl hd_X0_narrow ⟨Nat.le_of_ble_eq_true rfl, Nat.le_of_ble_eq_true rfl⟩) (tg_preV hAm hA hw hbi (q := vwCl[1]) rfl) rfl rfl hl.1 rfl (lv_room (Nat.le_of_ble_eq_true rfl)) dX6_bisectOnce_142 ⟨Nat.le_of_ble_eq_true rfl, Nat.le_of_ble_eq_true rfl⟩) hA hw (fun G_17 H locs hp hw => ?_)
          obtain ⟨hbi, o_19⟩ := hp
          have hco := (o_19 _ (by decide)).trans hco
          have h17 := (o_19 _ (by decide)).trans h17
          have h18 := (o_19 _ (by decide)).trans h18
          have h20 := (o_19 _ (by decide)).trans h20
          refine lv_iconst (v := 1) hx hb dX6_bisectOnce_145 (by decide) ?_
          exact tg_zret hx hb hr hlocks hw rfl (⟨bo_narrow hI hS hC hn (by omega) hbi (fun t9 h9 => (o_19 t9 (by omega))), (fun t9 h9 => ((o_19 t9 (by omega))).trans (HO t9 (by omega)))⟩) (Nat.le_of_ble_eq_true rfl) (Nat.le_of_ble_eq_true rfl) dX6_bisectOnce_146
      · have c_12 := (nI_eq (a := prN g b) (b := b) (by omega) (by omega)).mp c_12
        refine lv_iload_n hx hb dX6_bisectOnce_99 rfl (lv_at hl 0 rfl) ?_
        refine lv_iconst (v := 1) hx hb dX6_bisectOnce_100 (by decide) ?_
        refine lv_icmp_ne (tgt := 118) hx hb dX6_bisectOnce_101 (by decide) (fun c_20 => ?_) (fun c_20 => ?_)
        · have c_20 := mt (nI_eq (a := outD v A9 B9) (b := 1) (by omega) (by omega)).mpr c_20
          refine lv_aload_n hx hb dX6_bisectOnce_118 rfl (lv_at hl 2 rfl) ?_
          refine tg_get (v := .ref (ad 31)) hx hb hown hAm hw lyX6 hco rfl 6 (by decide) qw_231 (fun _ h9 => h9) rfl dX6_bisectOnce_119 ?_
          refine tg_callv (va_runVN (As := []) (rest := []) (Ts := []) ⟨hx, hb, hml, hown, fun _ h9 => absurd h9 List.not_mem_nil⟩ (lf_close l E _ G_1 hbi) (rc_cnV hAm qw_503 qw_8 qw_506 qw_505 qs_22 rfl rfl hd_X0_close ⟨Nat.le_of_ble_eq_true rfl, Nat.le_of_ble_eq_true rfl⟩) (tg_preV hAm hA hw hbi (q := vwCl[1]) rfl) rfl rfl hl.1 rfl (lv_room (Nat.le_of_ble_eq_true rfl)) dX6_bisectOnce_122 ⟨Nat.le_of_ble_eq_true rfl, Nat.le_of_ble_eq_true rfl⟩) hA hw (fun G_21 H locs hp hw => ?_)
          obtain ⟨hbi, o_23⟩ := hp
          have hco := (o_23 _ (by decide)).trans hco
          have h17 := (o_23 _ (by decide)).trans h17
          have h18 := (o_23 _ (by decide)).trans h18
          have h20 := (o_23 _ (by decide)).trans h20
          refine lv_iconst (v := 0) hx hb dX6_bisectOnce_125 (by decide) ?_
          exact tg_zret hx hb hr hlocks hw rfl (⟨bo_over hI hS hn hbi (fun t9 h9 => (o_23 t9 (by omega))), (fun t9 h9 => ((o_23 t9 (by omega))).trans (HO t9 (by omega)))⟩) (Nat.le_of_ble_eq_true rfl) (Nat.le_of_ble_eq_true rfl) dX6_bisectOnce_126
        · have c_20 := (nI_eq (a := outD v A9 B9) (b := 1) (by omega) (by omega)).mp c_20
          obtain ⟨-, -, -, -, -, hch, -⟩ := id hI
          have hcp : G_1 (40 + 3 * (prN g b)) = some (ad (40 + 3 * (prN g b)), .inr (2, [.ref (ad (41 + 3 * (prN g b))), .int ((vC v (prN g b)).1), .int ((vC v (prN g b)).2)])) := (hch (prN g b) (by omega)).1
          refine lv_aload_n hx hb dX6_bisectOnce_104 rfl (lv_at hl 2 rfl) ?_
          refine lv_iload_n hx hb dX6_bisectOnce_105 rfl (lv_at hl 1 rfl) ?_
          refine tg_callRr (va_runV (As := [.int (nI (prN g b))]) (rest := []) (Ts := []) ⟨hx, hb, hml, hown, fun _ h9 => absurd h9 List.not_mem_nil⟩ (co_changeAt l E _ ad v G_1 hI (prN g b) (by omega)) (rc_cwV hAm qw_432 qw_1 qw_435 qw_434 qs_9 rfl rfl hd_X6_changeAt ⟨Nat.le_of_ble_eq_true rfl, Nat.le_of_ble_eq_true rfl⟩) (tg_preV hAm hA hw hco (q := vwCl[7]) rfl) rfl rfl hl.1 rfl (lv_room (Nat.le_of_ble_eq_true rfl)) dX6_bisectOnce_106 ⟨Nat.le_of_ble_eq_true rfl, Nat.le_of_ble_eq_true rfl⟩) hA hw (fun H locs hw => ?_)
          refine lv_iconst (v := 1) hx hb dX6_bisectOnce_109 (by decide) ?_
          refine tg_putN hx hb hown hAm hw lyX1 tyX1 tyX1_ok nmX1 hcp rfl 1 (by decide) qw_71 (fun _ h9 => h9) rfl (by decide +kernel) (by decide +kernel) (Nat.le_of_ble_eq_true rfl) dX6_bisectOnce_110 (fun G_24 H locs g_25 o_26 hw => ?_)
          have hco := (o_26 _ (by omega)).trans hco
          have hbi := (o_26 _ (by omega)).trans hbi
          have h17 := (o_26 _ (by omega)).trans h17
          have h18 := (o_26 _ (by omega)).trans h18
          have h20 := (o_26 _ (by omega)).trans h20
          have hcp : G_24 (40 + 3 * (prN g b)) = some (ad (40 + 3 * (prN g b)), .inr (2, [.ref (ad (41 + 3 * (prN g b))), .int 1, .int ((vC v (prN g b)).2)])) := g_25
          refine lv_aload_n hx hb dX6_bisectOnce_113 rfl (lv_at hl 2 rfl) ?_
          refine lv_iload_n hx hb dX6_bisectOnce_114 rfl (lv_at hl 1 rfl) ?_
          refine tg_put hx hb hown hAm hw lyX6 tyX6 tyX6_ok nmX6 hco rfl 12 (by decide) qw_237 (fun _ h9 => h9) rfl rfl rfl (Nat.le_of_ble_eq_true rfl) dX6_bisectOnce_115 (fun G_27 H locs g_28 o_29 hw => ?_)
          have hbi := (o_29 _ (by decide)).trans hbi
          have h17 := (o_29 _ (by decide)).trans h17
          have h18 := (o_29 _ (by decide)).trans h18
          have h20 := (o_29 _ (by decide)).trans h20
          have hcp := (o_29 _ (by omega)).trans hcp
          have hco : G_27 8 = some (ad 8, .inr (7, [.ref (ad 9), .ref (ad 11), .ref (ad 13), .ref (ad 40), .ref (ad 15), .ref (ad 17), .ref (ad 31), .int (nI (vN v 0)), .int (nI (vN v 1)), .int (nI (vN v 2)), .int (nI (vN v 3)), .int (nI (vN v 4)), .int (nI (prN g b))])) := g_28
          refine lv_aload_n hx hb dX6_bisectOnce_118 rfl (lv_at hl 2 rfl) ?_
          refine tg_get (v := .ref (ad 31)) hx hb hown hAm hw lyX6 hco rfl 6 (by decide) qw_231 (fun _ h9 => h9) rfl dX6_bisectOnce_119 ?_
          refine tg_callv (va_runVN (As := []) (rest := []) (Ts := []) ⟨hx, hb, hml, hown, fun _ h9 => absurd h9 List.not_mem_nil⟩ (lf_close l E _ G_27 hbi) (rc_cnV hAm qw_503 qw_8 qw_506 qw_505 qs_22 rfl rfl hd_X0_close ⟨Nat.le_of_ble_eq_true rfl, Nat.le_of_ble_eq_true rfl⟩) (tg_preV hAm hA hw hbi (q := vwCl[1]) rfl) rfl rfl hl.1 rfl (lv_room (Nat.le_of_ble_eq_true rfl)) dX6_bisectOnce_122 ⟨Nat.le_of_ble_eq_true rfl, Nat.le_of_ble_eq_true rfl⟩) hA hw (fun G_30 H locs hp hw => ?_)
          obtain ⟨hbi, o_32⟩ := hp
          have hco := (o_32 _ (by decide)).trans hco
          have h17 := (o_32 _ (by decide)).trans h17
          have h18 := (o_32 _ (by decide)).trans h18
          have h20 := (o_32 _ (by decide)).trans h20
          have hcp := (o_32 _ (by omega)).trans hcp
          refine lv_iconst (v := 0) hx hb dX6_bisectOnce_125 (by decide) ?_
          exact tg_zret hx hb hr hlocks hw rfl (⟨bo_named hI hS (q := prN g b) (by omega) hcp hco hbi (fun t9 h7 h8 h9 => (o_32 t9 (by omega)).trans ((o_29 t9 (by omega)).trans ((o_26 t9 (by omega))))), (fun t9 h9 => ((o_32 t9 (by omega)).trans ((o_29 t9 (by omega)).trans ((o_26 t9 (by omega))))).trans (HO t9 (by omega)))⟩) (Nat.le_of_ble_eq_true rfl) (Nat.le_of_ble_eq_true rfl) dX6_bisectOnce_126
    · have c_11 := (nI_eq (a := outD v A9 B9) (b := 4) (by omega) (by omega)).mp c_11
      refine lv_aload_n hx hb dX6_bisectOnce_45 rfl (lv_at hl 2 rfl) ?_
      refine tg_get (v := .ref (ad 31)) hx hb hown hAm hw lyX6 hco rfl 6 (by decide) qw_231 (fun _ h9 => h9) rfl dX6_bisectOnce_46 ?_
      refine lv_aload_n hx hb dX6_bisectOnce_49 rfl (lv_at hl 2 rfl) ?_
      refine tg_get (v := .ref (ad 17)) hx hb hown hAm hw lyX6 hco rfl 5 (by decide) qw_230 (fun _ h9 => h9) rfl dX6_bisectOnce_50 ?_
      refine tg_getN (v := .ref (ad 18)) hx hb hown hAm hw lyX2 h17 rfl 0 (by decide) qw_108 (fun _ h9 => h9) rfl dX6_bisectOnce_53 ?_
      refine tg_getN (v := .int (nI A9.length)) hx hb hown hAm hw lyX5 h18 rfl 1 (by decide) qw_90 (fun _ h9 => h9) rfl dX6_bisectOnce_56 ?_
      refine lv_aload_n hx hb dX6_bisectOnce_59 rfl (lv_at hl 2 rfl) ?_
      refine tg_get (v := .ref (ad 17)) hx hb hown hAm hw lyX6 hco rfl 5 (by decide) qw_230 (fun _ h9 => h9) rfl dX6_bisectOnce_60 ?_
      refine tg_getN (v := .ref (ad 20)) hx hb hown hAm hw lyX2 h17 rfl 1 (by decide) qw_110 (fun _ h9 => h9) rfl dX6_bisectOnce_63 ?_
      refine tg_getN (v := .int (nI B9.length)) hx hb hown hAm hw lyX5 h20 rfl 1 (by decide) qw_90 (fun _ h9 => h9) rfl dX6_bisectOnce_66 ?_
      refine lv_icmp_ge (tgt := 82) hx hb dX6_bisectOnce_69 (by decide) (fun c_33 => ?_) (fun c_33 => ?_)
      · have c_33 := (nI_leI (a := B9.length) (b := A9.length) (by omega) (by omega)).mp c_33
        refine lv_iload_n hx hb dX6_bisectOnce_82 rfl (lv_at hl 1 rfl) ?_
        refine tg_putN hx hb hown hAm hw lyX0 tyX0 tyX0_ok nmX0 hbi rfl 3 (by decide) qw_157 (fun _ h9 => h9) rfl rfl rfl (Nat.le_of_ble_eq_true rfl) dX6_bisectOnce_83 (fun G_34 H locs g_35 o_36 hw => ?_)
        have hco := (o_36 _ (by decide)).trans hco
        have h17 := (o_36 _ (by decide)).trans h17
        have h18 := (o_36 _ (by decide)).trans h18
        have h20 := (o_36 _ (by decide)).trans h20
        have hbi : G_34 31 = some (ad 31, .inr (1, [.int 1, .int (nI g), .int (nI b), .int (nI (prN g b))])) := g_35
        refine lv_iconst (v := 0) hx hb dX6_bisectOnce_86 (by decide) ?_
        exact tg_zret hx hb hr hlocks hw rfl (⟨bo_wait hI hS hC hn hA9 hB9 (by omega) (if_neg (by omega)).symm hbi (fun t9 h9 => (o_36 t9 (by omega))), (fun t9 h9 => ((o_36 t9 (by omega))).trans (HO t9 (by omega)))⟩) (Nat.le_of_ble_eq_true rfl) (Nat.le_of_ble_eq_true rfl) dX6_bisectOnce_87
      · have c_33 := mt (nI_leI (a := B9.length) (b := A9.length) (by omega) (by omega)).mpr c_33
        refine lv_aload_n hx hb dX6_bisectOnce_72 rfl (lv_at hl 2 rfl) ?_
        refine tg_get (v := .ref (ad 31)) hx hb hown hAm hw lyX6 hco rfl 6 (by decide) qw_231 (fun _ h9 => h9) rfl dX6_bisectOnce_73 ?_
        refine tg_getN (v := .int (nI g)) hx hb hown hAm hw lyX0 hbi rfl 1 (by decide) qw_153 (fun _ h9 => h9) rfl dX6_bisectOnce_76 ?_
        refine lv_goto (tgt := 83) hx hb dX6_bisectOnce_79 (by decide) ?_
        refine tg_putN hx hb hown hAm hw lyX0 tyX0 tyX0_ok nmX0 hbi rfl 3 (by decide) qw_157 (fun _ h9 => h9) rfl rfl rfl (Nat.le_of_ble_eq_true rfl) dX6_bisectOnce_83 (fun G_37 H locs g_38 o_39 hw => ?_)
        have hco := (o_39 _ (by decide)).trans hco
        have h17 := (o_39 _ (by decide)).trans h17
        have h18 := (o_39 _ (by decide)).trans h18
        have h20 := (o_39 _ (by decide)).trans h20
        have hbi : G_37 31 = some (ad 31, .inr (1, [.int 1, .int (nI g), .int (nI b), .int (nI g)])) := g_38
        refine lv_iconst (v := 0) hx hb dX6_bisectOnce_86 (by decide) ?_
        exact tg_zret hx hb hr hlocks hw rfl (⟨bo_wait hI hS hC hn hA9 hB9 (by omega) (if_pos (by omega)).symm hbi (fun t9 h9 => (o_39 t9 (by omega))), (fun t9 h9 => ((o_39 t9 (by omega))).trans (HO t9 (by omega)))⟩) (Nat.le_of_ble_eq_true rfl) (Nat.le_of_ble_eq_true rfl) dX6_bisectOnce_87
theorem hd_X6_bisectOnce : yX6_bisectOnce.cls ≠ "java/lang/invoke/MethodHandle" ∧ yX6_bisectOnce.cls ≠ "java/lang/invoke/VarHandle" ∧ (parseMethodDescriptor yX6_bisectOnce.desc).map (fun d => d.parameters.length) = some 0 := by decide +kernel
set_option maxHeartbeats 4000000 in
set_option maxRecDepth 100000 in
theorem co_goOn (l : Launch) (E : rc_E) (sz : Nat) (ad : Nat → Nat) (v : av_V) (G : tg_G) (hI : ssH E ad v G) (hS : scH E ad G) (hC : caseH v) (hn : nmOK v) : tg_M l yX6_goOn [Cond.code yX6_goOn cX6_goOn 3 (none : Option FieldType)] { frames := 6, cells := 0, slots := 0, locals := 131 } E [.ref (ad 8)] G sz (tg_Qv E (fun u => GO E ad v u ∧ ∀ t9, t9 < 8 → u t9 = G t9)) 0 0 := by
  refine tg_in (cc := cX6_goOn) (maxL := 3) (ret := (none : Option FieldType)) (tg_Qv E (fun u => GO E ad v u ∧ ∀ t9, t9 < 8 → u t9 = G t9)) (by decide) rfl (Nat.le_of_ble_eq_true rfl) ?_
  intro p e s m args below meth cd ls A hx hb hr hml hown hlocks hin hA hAm hw hl
  have hown : s.vm.findClass RX6 = some m.cls := hown
  have hl : lv_has ls 3 [(0, .ref (ad 8))] := hl
  obtain ⟨h0, hco, ⟨hLm, hLc, hLr⟩, hbi, hma, hch, hru⟩ := id hI
  have hn60 := h0.1
  have loop : ∀ (d k : Nat) (v1 : av_V) (r1 : Int32) (ls : Array Slot) (G1 : tg_G) (H : Heap) (locs : List Loc), stH E ad v1 G1 → sameV v v1 → nmOK v1 → ((r1 = 0 ∧ caseOK v1) ∨ (r1 = 1 ∧ ∃ g1 b1, caseS v1 g1 b1 ∧ b1 - g1 ≤ d)) → k + d ≤ 12 → tg_W E A s G1 H locs → (∀ t9, t9 < 8 → G1 t9 = G t9) → lv_has ls 3 [(1, .int r1), (2, .int (nI k)), (0, .ref (ad 8))] → W p l e { frames := 6, cells := 0, slots := 0, locals := 131 } s m args below meth cd H locs 0 0 (MQ below ((tg_Qv E (fun u => GO E ad v u ∧ ∀ t9, t9 < 8 → u t9 = G t9)) A) args s 0 0 A) (F0 m 10 ls []) := by
    intro d
    induction d with
    | zero =>
      intro k v1 r1 ls G1 H locs hIS hv1 hn1 hcase hkd hw HO hl
      obtain ⟨hI, hS⟩ := hIS
      rcases hcase with ⟨rfl, hok1⟩ | ⟨-, g1, b1, hC, hd⟩
      · refine lv_iload_n hx hb dX6_goOn_10 rfl (lv_at hl 0 rfl) ?_
        refine lv_if_eq (tgt := 31) hx hb dX6_goOn_11 (by decide) (fun _ => ?_) (fun c9 => absurd (by decide) c9)
        exact tg_vret hx hb hr hlocks hw (⟨⟨v1, ⟨hI, hS⟩, hv1, hn1, hok1⟩, HO⟩) (Nat.le_of_ble_eq_true rfl) (Nat.le_of_ble_eq_true rfl) dX6_goOn_31
      · exact absurd hC.2.2.2.1 (by omega)
    | succ d ih =>
      intro k v1 r1 ls G1 H locs hIS hv1 hn1 hcase hkd hw HO hl
      obtain ⟨hI, hS⟩ := hIS
      rcases hcase with ⟨rfl, hok1⟩ | ⟨rfl, g1, b1, hC, hd⟩
      · refine lv_iload_n hx hb dX6_goOn_10 rfl (lv_at hl 0 rfl) ?_
        refine lv_if_eq (tgt := 31) hx hb dX6_goOn_11 (by decide) (fun _ => ?_) (fun c9 => absurd (by decide) c9)
        exact tg_vret hx hb hr hlocks hw (⟨⟨v1, ⟨hI, hS⟩, hv1, hn1, hok1⟩, HO⟩) (Nat.le_of_ble_eq_true rfl) (Nat.le_of_ble_eq_true rfl) dX6_goOn_31
      · have hco1 := hI.2.1
        refine lv_iload_n hx hb dX6_goOn_10 rfl (lv_at hl 0 rfl) ?_
        refine lv_if_eq (tgt := 31) hx hb dX6_goOn_11 (by decide) (fun c9 => absurd c9 (by decide)) (fun _ => ?_)
        refine lv_iload_n hx hb dX6_goOn_14 rfl (lv_at hl 1 rfl) ?_
        refine lv_bipush (v := 40) hx hb dX6_goOn_15 (by decide) ?_
        refine lv_icmp_ge (tgt := 31) hx hb dX6_goOn_17 (by decide) (fun c9 => absurd c9 (fun z9 => absurd ((nI_leI (a := 40) (b := k) (by omega) (by omega)).mp z9) (by omega))) (fun _ => ?_)
        refine lv_aload_n hx hb dX6_goOn_20 rfl (lv_at hl 2 rfl) ?_
        refine tg_calli (va_runV (As := []) (rest := []) (Ts := []) ⟨hx, hb, hml, hown, fun _ h9 => absurd h9 List.not_mem_nil⟩ (co_bisectOnce l E _ ad v1 G1 hI hS g1 b1 hC hn1) (rc_cwV hAm qw_416 qw_1 qw_419 qw_418 qs_5 rfl rfl hd_X6_bisectOnce ⟨Nat.le_of_ble_eq_true rfl, Nat.le_of_ble_eq_true rfl⟩) (tg_preV hAm hA hw hco1 (q := vwCl[7]) rfl) rfl rfl hl.1 rfl (lv_room (Nat.le_of_ble_eq_true rfl)) dX6_goOn_21 ⟨Nat.le_of_ble_eq_true rfl, Nat.le_of_ble_eq_true rfl⟩) hA hw (fun r_2 G_1 H locs hp hw => ?_)
        obtain ⟨⟨v2, ⟨hI2, hS2⟩, hv2, hn2, hq2⟩, hu⟩ := hp
        refine lv_istore_n (lv' := [(1, .int r_2), (2, .int (nI k)), (0, .ref (ad 8))]) hx hb dX6_goOn_24 rfl hl (by decide) rfl (fun ls hl => ?_)
        refine lv_iinc (v := nI (k + 1)) (lv' := [(2, .int (nI (k + 1))), (1, .int r_2), (0, .ref (ad 8))]) hx hb dX6_goOn_25 hl (k := 1) rfl (nI_1 _) (by decide) rfl (fun ls hl => ?_)
        refine lv_goto (tgt := 10) hx hb dX6_goOn_28 (by decide) ?_
        exact ih (k + 1) v2 r_2 ls _ _ _ ⟨hI2, hS2⟩ (hv1.tr hv2) hn2 (hq2.imp id (fun ⟨h1, g2, b2, h2, h3⟩ => ⟨h1, g2, b2, h2, by omega⟩)) (by omega) hw (fun t9 h9 => (hu t9 h9).trans (HO t9 h9)) (lv_sub hl [1, 0, 2] rfl)
  refine lv_aload_n hx hb dX6_goOn_0 rfl (lv_at hl 0 rfl) ?_
  refine tg_get (v := .ref (ad 31)) hx hb hown hAm hw lyX6 hco rfl 6 (by decide) qw_231 (fun _ h9 => h9) rfl dX6_goOn_1 ?_
  refine tg_getN (v := .int (vI v 1)) hx hb hown hAm hw lyX0 hbi rfl 0 (by decide) qw_151 (fun _ h9 => h9) rfl dX6_goOn_4 ?_
  refine lv_istore_n (lv' := [(1, .int (vI v 1)), (0, .ref (ad 8))]) hx hb dX6_goOn_7 rfl hl (by decide) rfl (fun ls hl => ?_)
  refine lv_iconst (v := 0) hx hb dX6_goOn_8 (by decide) ?_
  refine lv_istore_n (lv' := [(2, .int 0), (1, .int (vI v 1)), (0, .ref (ad 8))]) hx hb dX6_goOn_9 rfl hl (by decide) rfl (fun ls hl => ?_)
  rcases hC with hC | ⟨g, b, hC⟩
  · have e1 : vI v 1 = 0 := hC.1
    rw [e1] at hl
    exact loop 0 0 v 0 ls G _ _ ⟨hI, hS⟩ (sameV.rf v) hn (Or.inl ⟨rfl, Or.inl hC⟩) (by omega) hw (fun t9 _ => rfl) (lv_sub hl [1, 0, 2] rfl)
  · have e1 : vI v 1 = 1 := hC.1
    rw [e1] at hl
    exact loop 5 0 v 1 ls G _ _ ⟨hI, hS⟩ (sameV.rf v) hn (Or.inr ⟨rfl, g, b, hC, by have := hC.2.2.2.1; have := hC.2.2.2.2; omega⟩) (by omega) hw (fun t9 _ => rfl) (lv_sub hl [1, 0, 2] rfl)
