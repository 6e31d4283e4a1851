theorem hd_Jx4a65c_size_8abf5 : yJx4a65c_size_8abf5.cls ≠ "java/lang/invoke/MethodHandle" ∧ yJx4a65c_size_8abf5.cls ≠ "java/lang/invoke/VarHandle" ∧ (parseMethodDescriptor yJx4a65c_size_8abf5.desc).map (fun d => d.parameters.length) = some 0 := by decide +kernel
theorem hd_Jx4a65c_get_915e3 : yJx4a65c_get_915e3.cls ≠ "java/lang/invoke/MethodHandle" ∧ yJx4a65c_get_915e3.cls ≠ "java/lang/invoke/VarHandle" ∧ (parseMethodDescriptor yJx4a65c_get_915e3.desc).map (fun d => d.parameters.length) = some 1 := by decide +kernel
theorem hd_X4_isCounting : yX4_isCounting.cls ≠ "java/lang/invoke/MethodHandle" ∧ yX4_isCounting.cls ≠ "java/lang/invoke/VarHandle" ∧ (parseMethodDescriptor yX4_isCounting.desc).map (fun d => d.parameters.length) = some 0 := by decide +kernel
theorem hd_X6_oneIf : yX6_oneIf.cls ≠ "java/lang/invoke/MethodHandle" ∧ yX6_oneIf.cls ≠ "java/lang/invoke/VarHandle" ∧ (parseMethodDescriptor yX6_oneIf.desc).map (fun d => d.parameters.length) = some 1 := by decide +kernel
set_option maxHeartbeats 4000000 in
set_option maxRecDepth 100000 in
theorem ch_size (l : Launch) (E : rc_E) (sz : Nat) (ad : Nat → Nat) (v : av_V) (c : Nat) (G : tg_G) (hI : csH E ad v G c) : tg_M l yX1_sampleSize [Cond.code yX1_sampleSize cX1_sampleSize 3 (some FieldType.int)] { frames := 3, cells := 0, slots := 0, locals := 64 } E [.ref (ad (40 + 3 * c))] G sz (tg_Qi E (fun r u => r = nI (szN v c) ∧ u = G)) 0 0 := by
  refine tg_in (cc := cX1_sampleSize) (maxL := 3) (ret := (some FieldType.int)) (tg_Qi E (fun r u => r = nI (szN v c) ∧ u = G)) (by decide) rfl (Nat.le_of_ble_eq_true rfl) ?_
  intro p e s m args below meth cd ls A hx hb hr hml hown hlocks hin hA hAm hw hl
  have hown : s.vm.findClass RX1 = some m.cls := hown
  have hl : lv_has ls 3 [(0, .ref (ad (40 + 3 * c)))] := hl
  obtain ⟨h0, hc, ⟨hch, mc, la, hli, hla⟩, hma, hru⟩ := id hI
  have hn60 := h0.1
  have hlen := ixs_len v c
  have loop : ∀ (r k : Nat) (ls : Array Slot) (H : Heap) (locs : List Loc), k + r = (ixs v c).length → tg_W E A s G H locs → lv_has ls 3 [(2, .int (nI k)), (1, .int (nI (smR (fun i => cK v ((ixs v c).getD i 0)) k))), (0, .ref (ad (40 + 3 * c)))] → W p l e { frames := 3, cells := 0, slots := 0, locals := 64 } s m args below meth cd H locs 0 0 (MQ below ((tg_Qi E (fun r u => r = nI (szN v c) ∧ u = G)) A) args s 0 0 A) (F0 m 4 ls []) := by
    intro r
    induction r with
    | zero =>
      intro k ls H locs hk hw hl
      have hsl := smR_le (g := (fun i => cK v ((ixs v c).getD i 0))) (fun i => cK_le v _) k
      refine lv_iload_n hx hb dX1_sampleSize_4 rfl (lv_at hl 0 rfl) ?_
      refine lv_aload_n hx hb dX1_sampleSize_5 rfl (lv_at hl 2 rfl) ?_
      refine tg_get (v := .ref (ad (41 + 3 * c))) hx hb hown hAm hw lyX1 hch rfl 0 (by decide) qw_67 (fun _ h9 => h9) rfl dX1_sampleSize_6 ?_
      refine tg_callRi (va_runV (As := []) (rest := [.int (nI k)]) (Ts := []) ⟨hx, hb, hml, hown, fun _ h9 => absurd h9 List.not_mem_nil⟩ (lf_size l E _ G (n := (ixs v c).length) hli) (rc_cwV hAm qw_559 qw_4 qw_346 qw_344 qw_345 rfl rfl hd_Jx4a65c_size_8abf5 ⟨Nat.le_of_ble_eq_true rfl, Nat.le_of_ble_eq_true rfl⟩) (tg_preV hAm hA hw hli (q := vwCl[0]) rfl) rfl rfl hl.1 rfl (lv_room (Nat.le_of_ble_eq_true rfl)) dX1_sampleSize_9 ⟨Nat.le_of_ble_eq_true rfl, Nat.le_of_ble_eq_true rfl⟩) hA hw (fun H locs hw => ?_)
      refine lv_icmp_ge (tgt := 41) hx hb dX1_sampleSize_12 (by decide) (fun _ => ?_) (fun c9 => absurd ((nI_leI (a := (ixs v c).length) (b := k) (by omega) (by omega)).mpr (by omega)) c9)
      refine lv_bipush (v := 6) hx hb dX1_sampleSize_41 (by decide) ?_
      refine lv_iload_n hx hb dX1_sampleSize_43 rfl (lv_at hl 1 rfl) ?_
      refine va_mmin hx hb (by rw [hml]; exact hl.1.symm) hown (hAm.wd qw_564 rfl rfl) (hAm.wd qw_218 rfl rfl) (hAm.wd qw_10 rfl rfl) (hAm.wd qw_219 rfl rfl) (Nat.le_of_ble_eq_true rfl) (Nat.le_of_ble_eq_true rfl) (Nat.le_of_ble_eq_true rfl) (Nat.le_of_ble_eq_true rfl) dX1_sampleSize_44 ?_
      refine rc_topi (nI (min 6 (smR (fun i => cK v ((ixs v c).getD i 0)) k))) (nb_min (a := 6) (b := smR (fun i => cK v ((ixs v c).getD i 0)) k) (by omega) (by omega)) ?_
      exact tg_iret hx hb hr hlocks hw (⟨congrArg nI (by unfold szN; rw [show (ixs v c).length = k by omega]), rfl⟩) (Nat.le_of_ble_eq_true rfl) (Nat.le_of_ble_eq_true rfl) dX1_sampleSize_47
    | succ r ih =>
      intro k ls H locs hk hw hl
      have hsl := smR_le (g := (fun i => cK v ((ixs v c).getD i 0))) (fun i => cK_le v _) k
      rcases hla with ⟨z0, -⟩ | ⟨cap, f, ha, hcap, hcap2, hf⟩
      · exact absurd z0 (by omega)
      · refine lv_iload_n hx hb dX1_sampleSize_4 rfl (lv_at hl 0 rfl) ?_
        refine lv_aload_n hx hb dX1_sampleSize_5 rfl (lv_at hl 2 rfl) ?_
        refine tg_get (v := .ref (ad (41 + 3 * c))) hx hb hown hAm hw lyX1 hch rfl 0 (by decide) qw_67 (fun _ h9 => h9) rfl dX1_sampleSize_6 ?_
        refine tg_callRi (va_runV (As := []) (rest := [.int (nI k)]) (Ts := []) ⟨hx, hb, hml, hown, fun _ h9 => absurd h9 List.not_mem_nil⟩ (lf_size l E _ G (n := (ixs v c).length) hli) (rc_cwV hAm qw_559 qw_4 qw_346 qw_344 qw_345 rfl rfl hd_Jx4a65c_size_8abf5 ⟨Nat.le_of_ble_eq_true rfl, Nat.le_of_ble_eq_true rfl⟩) (tg_preV hAm hA hw hli (q := vwCl[0]) rfl) rfl rfl hl.1 rfl (lv_room (Nat.le_of_ble_eq_true rfl)) dX1_sampleSize_9 ⟨Nat.le_of_ble_eq_true rfl, Nat.le_of_ble_eq_true rfl⟩) hA hw (fun H locs hw => ?_)
        refine lv_icmp_ge (tgt := 41) hx hb dX1_sampleSize_12 (by decide) (fun c9 => absurd c9 (fun z9 => absurd ((nI_leI (a := (ixs v c).length) (b := k) (by omega) (by omega)).mp z9) (by omega))) (fun _ => ?_)
        obtain ⟨q, hq⟩ : ∃ q, q = (ixs v c).getD k 0 := ⟨_, rfl⟩
        obtain ⟨hr9, hm9, hk9, hj9, hw9⟩ := hI.run (i := k) (by omega)
        rw [← hq] at hr9 hm9 hk9 hj9 hw9
        have hcl := cN_le (vT v q).2 (vMI v (vR v q).2.1 7)
        have hr9 : G (64 + q) = some (ad (64 + q), .inr (5, [.int (nI (vR v q).1), .ref (ad (32 + (vR v q).2.1)), .int (vT v q).1, .int (nI (vR v q).2.2), .int (vT v q).2])) := hr9
        have hm9 : G (32 + (vR v q).2.1) = some (ad (32 + (vR v q).2.1), .inr (4, [.int (nI (vR v q).2.1), .int (nI (vMN v (vR v q).2.1 1)), .int (nI (vMN v (vR v q).2.1 2)), .int (vMI v (vR v q).2.1 3), .int (vMI v (vR v q).2.1 4), .int (vMI v (vR v q).2.1 5), .int (nI (vMN v (vR v q).2.1 6)), .int (vMI v (vR v q).2.1 7)])) := hm9
        refine lv_iload_n hx hb dX1_sampleSize_15 rfl (lv_at hl 1 rfl) ?_
        refine lv_aload_n hx hb dX1_sampleSize_16 rfl (lv_at hl 2 rfl) ?_
        refine tg_get (v := .ref (ad (41 + 3 * c))) hx hb hown hAm hw lyX1 hch rfl 0 (by decide) qw_67 (fun _ h9 => h9) rfl dX1_sampleSize_17 ?_
        refine lv_iload_n hx hb dX1_sampleSize_20 rfl (lv_at hl 0 rfl) ?_
        refine tg_callRr (va_runV (As := [.int (nI k)]) (rest := [.int (nI (smR (fun i => cK v ((ixs v c).getD i 0)) k))]) (Ts := []) ⟨hx, hb, hml, hown, fun _ h9 => absurd h9 List.not_mem_nil⟩ (lf_get l E _ G (k := k) (n := (ixs v c).length) (y := ad (64 + q)) (by omega) (by omega) (by omega) (show f k = some (ad (64 + q)) by rw [hq]; exact hf k (by omega)) hli ha) (rc_cwV hAm qw_560 qw_4 qw_439 qw_437 qw_438 rfl rfl hd_Jx4a65c_get_915e3 ⟨Nat.le_of_ble_eq_true rfl, Nat.le_of_ble_eq_true rfl⟩) (tg_preV hAm hA hw hli (q := vwCl[0]) rfl) rfl rfl hl.1 rfl (lv_room (Nat.le_of_ble_eq_true rfl)) dX1_sampleSize_21 ⟨Nat.le_of_ble_eq_true rfl, Nat.le_of_ble_eq_true rfl⟩) hA hw (fun H locs hw => ?_)
        refine tg_castS (C := RX4) hx hb hown hAm hw qw_561 hr9 rfl dX1_sampleSize_24 ?_
        refine tg_callRi (va_runVN (As := []) (rest := [.int (nI (smR (fun i => cK v ((ixs v c).getD i 0)) k))]) (Ts := []) ⟨hx, hb, hml, hown, fun _ h9 => absurd h9 List.not_mem_nil⟩ (lf_counts l E _ G hr9 hm9) (rc_cnV hAm qw_562 qw_22 qw_461 qw_459 qs_11 rfl rfl hd_X4_isCounting ⟨Nat.le_of_ble_eq_true rfl, Nat.le_of_ble_eq_true rfl⟩) (tg_preV hAm hA hw hr9 (q := vwCl[5]) rfl) rfl rfl hl.1 rfl (lv_room (Nat.le_of_ble_eq_true rfl)) dX1_sampleSize_27 ⟨Nat.le_of_ble_eq_true rfl, Nat.le_of_ble_eq_true rfl⟩) hA hw (fun H locs hw => ?_)
        refine tg_callRi (va_runSN (As := [.int (nI (cN (vT v q).2 (vMI v (vR v q).2.1 7)))]) (rest := [.int (nI (smR (fun i => cK v ((ixs v c).getD i 0)) k))]) (Ts := []) ⟨hx, hb, hml, hown, fun _ h9 => absurd h9 List.not_mem_nil⟩ (lf_oneIf l E _ G (z := nI (cN (vT v q).2 (vMI v (vR v q).2.1 7))) (nI_bit (cN_le _ _))) (rc_cnS hAm qw_563 qw_1 qw_528 qw_527 rfl rfl hd_X6_oneIf ⟨Nat.le_of_ble_eq_true rfl, Nat.le_of_ble_eq_true rfl⟩) (tg_preS hAm hA hw) rfl rfl hl.1 rfl (lv_room (Nat.le_of_ble_eq_true rfl)) dX1_sampleSize_30 ⟨Nat.le_of_ble_eq_true rfl, Nat.le_of_ble_eq_true rfl⟩) hA hw (fun H locs hw => ?_)
        refine lv_iadd hx hb dX1_sampleSize_33 ?_
        refine rc_topi (nI (smR (fun i => cK v ((ixs v c).getD i 0)) k + cN (vT v q).2 (vMI v (vR v q).2.1 7))) (nI_add (smR (fun i => cK v ((ixs v c).getD i 0)) k) (cN (vT v q).2 (vMI v (vR v q).2.1 7))) ?_
        refine rc_topi (nI (smR (fun i => cK v ((ixs v c).getD i 0)) (k + 1))) (congrArg nI (show smR (fun i => cK v ((ixs v c).getD i 0)) k + cN (vT v q).2 (vMI v (vR v q).2.1 7) = smR (fun i => cK v ((ixs v c).getD i 0)) k + cK v ((ixs v c).getD k 0) by rw [← hq]; rfl)) ?_
        refine lv_istore_n (lv' := [(1, .int (nI (smR (fun i => cK v ((ixs v c).getD i 0)) (k + 1)))), (2, .int (nI k)), (0, .ref (ad (40 + 3 * c)))]) hx hb dX1_sampleSize_34 rfl hl (by decide) rfl (fun ls hl => ?_)
        refine lv_iinc (v := nI (k + 1)) (lv' := [(2, .int (nI (k + 1))), (1, .int (nI (smR (fun i => cK v ((ixs v c).getD i 0)) (k + 1)))), (0, .ref (ad (40 + 3 * c)))]) hx hb dX1_sampleSize_35 hl (k := 1) rfl (nI_1 _) (by decide) rfl (fun ls hl => ?_)
        refine lv_goto (tgt := 4) hx hb dX1_sampleSize_38 (by decide) ?_
        exact ih (k + 1) ls _ _ (by omega) hw hl
  refine lv_iconst (v := 0) hx hb dX1_sampleSize_0 (by decide) ?_
  refine lv_istore_n (lv' := [(1, .int 0), (0, .ref (ad (40 + 3 * c)))]) hx hb dX1_sampleSize_1 rfl hl (by decide) rfl (fun ls hl => ?_)
  refine lv_iconst (v := 0) hx hb dX1_sampleSize_2 (by decide) ?_
  refine lv_istore_n (lv' := [(2, .int 0), (1, .int 0), (0, .ref (ad (40 + 3 * c)))]) hx hb dX1_sampleSize_3 rfl hl (by decide) rfl (fun ls hl => ?_)
  exact loop (ixs v c).length 0 ls _ _ (by omega) hw hl
set_option maxHeartbeats 4000000 in
set_option maxRecDepth 100000 in
theorem ch_sizeWithout (l : Launch) (E : rc_E) (sz : Nat) (ad : Nat → Nat) (v : av_V) (c : Nat) (G : tg_G) (hI : csH E ad v G c) (j : Nat) (hj : j < 2) : tg_M l yX1_sampleSizeWithout [Cond.code yX1_sampleSizeWithout cX1_sampleSizeWithout 5 (some FieldType.int)] { frames := 3, cells := 0, slots := 0, locals := 64 } E [.ref (ad (40 + 3 * c)), .ref (ad (32 + j))] G sz (tg_Qi E (fun r u => r = nI (swN v c j) ∧ u = G)) 0 0 := by
  refine tg_in (cc := cX1_sampleSizeWithout) (maxL := 5) (ret := (some FieldType.int)) (tg_Qi E (fun r u => r = nI (swN v c j) ∧ u = G)) (by decide) rfl (Nat.le_of_ble_eq_true rfl) ?_
  intro p e s m args below meth cd ls A hx hb hr hml hown hlocks hin hA hAm hw hl
  have hown : s.vm.findClass RX1 = some m.cls := hown
  have hl : lv_has ls 5 [(0, .ref (ad (40 + 3 * c))), (1, .ref (ad (32 + j)))] := hl
  obtain ⟨h0, hc, ⟨hch, mc, la, hli, hla⟩, hma, hru⟩ := id hI
  have hn60 := h0.1
  have hlen := ixs_len v c
  have hw1 := wK_le v j
  have hmj : G (32 + j) = some (ad (32 + j), .inr (4, [.int (nI j), .int (nI (vMN v j 1)), .int (nI (vMN v j 2)), .int (vMI v j 3), .int (vMI v j 4), .int (vMI v j 5), .int (nI (vMN v j 6)), .int (vMI v j 7)])) := hma j hj
  have loop : ∀ (r k : Nat) (ls : Array Slot) (H : Heap) (locs : List Loc), k + r = (ixs v c).length → tg_W E A s G H locs → lv_has ls 5 [(3, .int (nI k)), (2, .int (nI (smR (fun i => wK v j ((ixs v c).getD i 0)) k))), (0, .ref (ad (40 + 3 * c))), (1, .ref (ad (32 + j)))] → W p l e { frames := 3, cells := 0, slots := 0, locals := 64 } s m args below meth cd H locs 0 0 (MQ below ((tg_Qi E (fun r u => r = nI (swN v c j) ∧ u = G)) A) args s 0 0 A) (F0 m 4 ls []) := by
    intro r
    induction r with
    | zero =>
      intro k ls H locs hk hw hl
      have hsl := smR_le (g := (fun i => wK v j ((ixs v c).getD i 0))) (fun i => hw1 _) k
      refine lv_iload_n hx hb dX1_sampleSizeWithout_4 rfl (lv_at hl 0 rfl) ?_
      refine lv_aload_n hx hb dX1_sampleSizeWithout_5 rfl (lv_at hl 2 rfl) ?_
      refine tg_get (v := .ref (ad (41 + 3 * c))) hx hb hown hAm hw lyX1 hch rfl 0 (by decide) qw_67 (fun _ h9 => h9) rfl dX1_sampleSizeWithout_6 ?_
      refine tg_callRi (va_runV (As := []) (rest := [.int (nI k)]) (Ts := []) ⟨hx, hb, hml, hown, fun _ h9 => absurd h9 List.not_mem_nil⟩ (lf_size l E _ G (n := (ixs v c).length) hli) (rc_cwV hAm qw_559 qw_4 qw_346 qw_344 qw_345 rfl rfl hd_Jx4a65c_size_8abf5 ⟨Nat.le_of_ble_eq_true rfl, Nat.le_of_ble_eq_true rfl⟩) (tg_preV hAm hA hw hli (q := vwCl[0]) rfl) rfl rfl hl.1 rfl (lv_room (Nat.le_of_ble_eq_true rfl)) dX1_sampleSizeWithout_9 ⟨Nat.le_of_ble_eq_true rfl, Nat.le_of_ble_eq_true rfl⟩) hA hw (fun H locs hw => ?_)
      refine lv_icmp_ge (tgt := 62) hx hb dX1_sampleSizeWithout_12 (by decide) (fun _ => ?_) (fun c9 => absurd ((nI_leI (a := (ixs v c).length) (b := k) (by omega) (by omega)).mpr (by omega)) c9)
      refine lv_bipush (v := 6) hx hb dX1_sampleSizeWithout_62 (by decide) ?_
      refine lv_iload_n hx hb dX1_sampleSizeWithout_64 rfl (lv_at hl 1 rfl) ?_
      refine va_mmin hx hb (by rw [hml]; exact hl.1.symm) hown (hAm.wd qw_564 rfl rfl) (hAm.wd qw_218 rfl rfl) (hAm.wd qw_10 rfl rfl) (hAm.wd qw_219 rfl rfl) (Nat.le_of_ble_eq_true rfl) (Nat.le_of_ble_eq_true rfl) (Nat.le_of_ble_eq_true rfl) (Nat.le_of_ble_eq_true rfl) dX1_sampleSizeWithout_65 ?_
      refine rc_topi (nI (min 6 (smR (fun i => wK v j ((ixs v c).getD i 0)) k))) (nb_min (a := 6) (b := smR (fun i => wK v j ((ixs v c).getD i 0)) k) (by omega) (by omega)) ?_
      exact tg_iret hx hb hr hlocks hw (⟨congrArg nI (by unfold swN; rw [show (ixs v c).length = k by omega]), rfl⟩) (Nat.le_of_ble_eq_true rfl) (Nat.le_of_ble_eq_true rfl) dX1_sampleSizeWithout_68
    | succ r ih =>
      intro k ls H locs hk hw hl
      have hsl := smR_le (g := (fun i => wK v j ((ixs v c).getD i 0))) (fun i => hw1 _) k
      rcases hla with ⟨z0, -⟩ | ⟨cap, f, ha, hcap, hcap2, hf⟩
      · exact absurd z0 (by omega)
      · refine lv_iload_n hx hb dX1_sampleSizeWithout_4 rfl (lv_at hl 0 rfl) ?_
        refine lv_aload_n hx hb dX1_sampleSizeWithout_5 rfl (lv_at hl 2 rfl) ?_
        refine tg_get (v := .ref (ad (41 + 3 * c))) hx hb hown hAm hw lyX1 hch rfl 0 (by decide) qw_67 (fun _ h9 => h9) rfl dX1_sampleSizeWithout_6 ?_
        refine tg_callRi (va_runV (As := []) (rest := [.int (nI k)]) (Ts := []) ⟨hx, hb, hml, hown, fun _ h9 => absurd h9 List.not_mem_nil⟩ (lf_size l E _ G (n := (ixs v c).length) hli) (rc_cwV hAm qw_559 qw_4 qw_346 qw_344 qw_345 rfl rfl hd_Jx4a65c_size_8abf5 ⟨Nat.le_of_ble_eq_true rfl, Nat.le_of_ble_eq_true rfl⟩) (tg_preV hAm hA hw hli (q := vwCl[0]) rfl) rfl rfl hl.1 rfl (lv_room (Nat.le_of_ble_eq_true rfl)) dX1_sampleSizeWithout_9 ⟨Nat.le_of_ble_eq_true rfl, Nat.le_of_ble_eq_true rfl⟩) hA hw (fun H locs hw => ?_)
        refine lv_icmp_ge (tgt := 62) hx hb dX1_sampleSizeWithout_12 (by decide) (fun c9 => absurd c9 (fun z9 => absurd ((nI_leI (a := (ixs v c).length) (b := k) (by omega) (by omega)).mp z9) (by omega))) (fun _ => ?_)
        obtain ⟨q, hq⟩ : ∃ q, q = (ixs v c).getD k 0 := ⟨_, rfl⟩
        obtain ⟨hr9, hm9, hk9, hj9, hw9⟩ := hI.run (i := k) (by omega)
        rw [← hq] at hr9 hm9 hk9 hj9 hw9
        have hcl := cN_le (vT v q).2 (vMI v (vR v q).2.1 7)
        have hr9 : G (64 + q) = some (ad (64 + q), .inr (5, [.int (nI (vR v q).1), .ref (ad (32 + (vR v q).2.1)), .int (vT v q).1, .int (nI (vR v q).2.2), .int (vT v q).2])) := hr9
        have hm9 : G (32 + (vR v q).2.1) = some (ad (32 + (vR v q).2.1), .inr (4, [.int (nI (vR v q).2.1), .int (nI (vMN v (vR v q).2.1 1)), .int (nI (vMN v (vR v q).2.1 2)), .int (vMI v (vR v q).2.1 3), .int (vMI v (vR v q).2.1 4), .int (vMI v (vR v q).2.1 5), .int (nI (vMN v (vR v q).2.1 6)), .int (vMI v (vR v q).2.1 7)])) := hm9
        refine lv_aload_n hx hb dX1_sampleSizeWithout_15 rfl (lv_at hl 2 rfl) ?_
        refine tg_get (v := .ref (ad (41 + 3 * c))) hx hb hown hAm hw lyX1 hch rfl 0 (by decide) qw_67 (fun _ h9 => h9) rfl dX1_sampleSizeWithout_16 ?_
        refine lv_iload_n hx hb dX1_sampleSizeWithout_19 rfl (lv_at hl 0 rfl) ?_
        refine tg_callRr (va_runV (As := [.int (nI k)]) (rest := []) (Ts := []) ⟨hx, hb, hml, hown, fun _ h9 => absurd h9 List.not_mem_nil⟩ (lf_get l E _ G (k := k) (n := (ixs v c).length) (y := ad (64 + q)) (by omega) (by omega) (by omega) (show f k = some (ad (64 + q)) by rw [hq]; exact hf k (by omega)) hli ha) (rc_cwV hAm qw_560 qw_4 qw_439 qw_437 qw_438 rfl rfl hd_Jx4a65c_get_915e3 ⟨Nat.le_of_ble_eq_true rfl, Nat.le_of_ble_eq_true rfl⟩) (tg_preV hAm hA hw hli (q := vwCl[0]) rfl) rfl rfl hl.1 rfl (lv_room (Nat.le_of_ble_eq_true rfl)) dX1_sampleSizeWithout_20 ⟨Nat.le_of_ble_eq_true rfl, Nat.le_of_ble_eq_true rfl⟩) hA hw (fun H locs hw => ?_)
        refine tg_castS (C := RX4) hx hb hown hAm hw qw_561 hr9 rfl dX1_sampleSizeWithout_23 ?_
        refine lv_astore (lv' := [(4, .ref (ad (64 + q))), (3, .int (nI k)), (2, .int (nI (smR (fun i => wK v j ((ixs v c).getD i 0)) k))), (0, .ref (ad (40 + 3 * c))), (1, .ref (ad (32 + j)))]) hx hb dX1_sampleSizeWithout_26 hl (by decide) rfl (fun ls hl => ?_)
        refine lv_iload_n hx hb dX1_sampleSizeWithout_28 rfl (lv_at hl 2 rfl) ?_
        refine lv_aload hx hb dX1_sampleSizeWithout_29 (lv_at hl 0 rfl) ?_
        refine tg_callRi (va_runVN (As := []) (rest := [.int (nI (smR (fun i => wK v j ((ixs v c).getD i 0)) k))]) (Ts := []) ⟨hx, hb, hml, hown, fun _ h9 => absurd h9 List.not_mem_nil⟩ (lf_counts l E _ G hr9 hm9) (rc_cnV hAm qw_562 qw_22 qw_461 qw_459 qs_11 rfl rfl hd_X4_isCounting ⟨Nat.le_of_ble_eq_true rfl, Nat.le_of_ble_eq_true rfl⟩) (tg_preV hAm hA hw hr9 (q := vwCl[5]) rfl) rfl rfl hl.1 rfl (lv_room (Nat.le_of_ble_eq_true rfl)) dX1_sampleSizeWithout_31 ⟨Nat.le_of_ble_eq_true rfl, Nat.le_of_ble_eq_true rfl⟩) hA hw (fun H locs hw => ?_)
        have hcl := cN_le (vT v q).2 (vMI v (vR v q).2.1 7)
        refine lv_if_eq (tgt := 50) hx hb dX1_sampleSizeWithout_34 (by decide) (fun c_1 => ?_) (fun c_1 => ?_)
        · have c_1 := (nI_eq (a := cN (vT v q).2 (vMI v (vR v q).2.1 7)) (b := 0) (by omega) (by omega)).mp c_1
          refine lv_iconst (v := 0) hx hb dX1_sampleSizeWithout_50 (by decide) ?_
          refine tg_callRi (va_runSN (As := [.int 0]) (rest := [.int (nI (smR (fun i => wK v j ((ixs v c).getD i 0)) k))]) (Ts := []) ⟨hx, hb, hml, hown, fun _ h9 => absurd h9 List.not_mem_nil⟩ (lf_oneIf l E _ G (z := 0) (by decide)) (rc_cnS hAm qw_563 qw_1 qw_528 qw_527 rfl rfl hd_X6_oneIf ⟨Nat.le_of_ble_eq_true rfl, Nat.le_of_ble_eq_true rfl⟩) (tg_preS hAm hA hw) rfl rfl hl.1 rfl (lv_room (Nat.le_of_ble_eq_true rfl)) dX1_sampleSizeWithout_51 ⟨Nat.le_of_ble_eq_true rfl, Nat.le_of_ble_eq_true rfl⟩) hA hw (fun H locs hw => ?_)
          refine lv_iadd hx hb dX1_sampleSizeWithout_54 ?_
          refine rc_topi (nI (smR (fun i => wK v j ((ixs v c).getD i 0)) k + 0)) (nI_add (smR (fun i => wK v j ((ixs v c).getD i 0)) k) 0) ?_
          refine rc_topi (nI (smR (fun i => wK v j ((ixs v c).getD i 0)) (k + 1))) (congrArg nI (show smR (fun i => wK v j ((ixs v c).getD i 0)) k + 0 = smR (fun i => wK v j ((ixs v c).getD i 0)) k + wK v j ((ixs v c).getD k 0) by rw [← hq]; unfold wK cK; split <;> omega)) ?_
          refine lv_istore_n (lv' := [(2, .int (nI (smR (fun i => wK v j ((ixs v c).getD i 0)) (k + 1)))), (4, .ref (ad (64 + q))), (3, .int (nI k)), (0, .ref (ad (40 + 3 * c))), (1, .ref (ad (32 + j)))]) hx hb dX1_sampleSizeWithout_55 rfl hl (by decide) rfl (fun ls hl => ?_)
          refine lv_iinc (v := nI (k + 1)) (lv' := [(3, .int (nI (k + 1))), (2, .int (nI (smR (fun i => wK v j ((ixs v c).getD i 0)) (k + 1)))), (4, .ref (ad (64 + q))), (0, .ref (ad (40 + 3 * c))), (1, .ref (ad (32 + j)))]) hx hb dX1_sampleSizeWithout_56 hl (k := 2) rfl (nI_1 _) (by decide) rfl (fun ls hl => ?_)
          refine lv_goto (tgt := 4) hx hb dX1_sampleSizeWithout_59 (by decide) ?_
          exact ih (k + 1) ls _ _ (by omega) hw (lv_sub hl [0, 1, 3, 4] rfl)
        · have c_1 := mt (nI_eq (a := cN (vT v q).2 (vMI v (vR v q).2.1 7)) (b := 0) (by omega) (by omega)).mpr c_1
          refine lv_aload hx hb dX1_sampleSizeWithout_37 (lv_at hl 0 rfl) ?_
          refine tg_getN (v := .ref (ad (32 + (vR v q).2.1))) hx hb hown hAm hw lyX4 hr9 rfl 1 (by decide) qw_737 (fun _ h9 => h9) rfl dX1_sampleSizeWithout_39 ?_
          refine lv_aload_n hx hb dX1_sampleSizeWithout_42 rfl (lv_at hl 4 rfl) ?_
          by_cases e9 : (vR v q).2.1 = j
          · refine lv_acmp_eq (rx := (some (ad (32 + (vR v q).2.1)))) (ry := (some (ad (32 + j)))) (tgt := 50) hx hb dX1_sampleSizeWithout_43 (by decide) (fun _ => ?_) (fun c9 => absurd ((show some (ad (32 + (vR v q).2.1)) = some (ad (32 + j)) by rw [e9])) c9)
            refine lv_iconst (v := 0) hx hb dX1_sampleSizeWithout_50 (by decide) ?_
            refine tg_callRi (va_runSN (As := [.int 0]) (rest := [.int (nI (smR (fun i => wK v j ((ixs v c).getD i 0)) k))]) (Ts := []) ⟨hx, hb, hml, hown, fun _ h9 => absurd h9 List.not_mem_nil⟩ (lf_oneIf l E _ G (z := 0) (by decide)) (rc_cnS hAm qw_563 qw_1 qw_528 qw_527 rfl rfl hd_X6_oneIf ⟨Nat.le_of_ble_eq_true rfl, Nat.le_of_ble_eq_true rfl⟩) (tg_preS hAm hA hw) rfl rfl hl.1 rfl (lv_room (Nat.le_of_ble_eq_true rfl)) dX1_sampleSizeWithout_51 ⟨Nat.le_of_ble_eq_true rfl, Nat.le_of_ble_eq_true rfl⟩) hA hw (fun H locs hw => ?_)
            refine lv_iadd hx hb dX1_sampleSizeWithout_54 ?_
            refine rc_topi (nI (smR (fun i => wK v j ((ixs v c).getD i 0)) k + 0)) (nI_add (smR (fun i => wK v j ((ixs v c).getD i 0)) k) 0) ?_
            refine rc_topi (nI (smR (fun i => wK v j ((ixs v c).getD i 0)) (k + 1))) (congrArg nI (show smR (fun i => wK v j ((ixs v c).getD i 0)) k + 0 = smR (fun i => wK v j ((ixs v c).getD i 0)) k + wK v j ((ixs v c).getD k 0) by rw [← hq, show wK v j q = 0 from if_pos e9])) ?_
            refine lv_istore_n (lv' := [(2, .int (nI (smR (fun i => wK v j ((ixs v c).getD i 0)) (k + 1)))), (4, .ref (ad (64 + q))), (3, .int (nI k)), (0, .ref (ad (40 + 3 * c))), (1, .ref (ad (32 + j)))]) hx hb dX1_sampleSizeWithout_55 rfl hl (by decide) rfl (fun ls hl => ?_)
            refine lv_iinc (v := nI (k + 1)) (lv' := [(3, .int (nI (k + 1))), (2, .int (nI (smR (fun i => wK v j ((ixs v c).getD i 0)) (k + 1)))), (4, .ref (ad (64 + q))), (0, .ref (ad (40 + 3 * c))), (1, .ref (ad (32 + j)))]) hx hb dX1_sampleSizeWithout_56 hl (k := 2) rfl (nI_1 _) (by decide) rfl (fun ls hl => ?_)
            refine lv_goto (tgt := 4) hx hb dX1_sampleSizeWithout_59 (by decide) ?_
            exact ih (k + 1) ls _ _ (by omega) hw (lv_sub hl [0, 1, 3, 4] rfl)
          · refine lv_acmp_eq (rx := (some (ad (32 + (vR v q).2.1)))) (ry := (some (ad (32 + j)))) (tgt := 50) hx hb dX1_sampleSizeWithout_43 (by decide) (fun c9 => absurd c9 ((fun z9 => e9 (by have h9 := tg_addr hw hm9 hmj (Option.some.inj z9); omega)))) (fun _ => ?_)
            refine lv_iconst (v := 1) hx hb dX1_sampleSizeWithout_46 (by decide) ?_
            refine lv_goto (tgt := 51) hx hb dX1_sampleSizeWithout_47 (by decide) ?_
            refine tg_callRi (va_runSN (As := [.int 1]) (rest := [.int (nI (smR (fun i => wK v j ((ixs v c).getD i 0)) k))]) (Ts := []) ⟨hx, hb, hml, hown, fun _ h9 => absurd h9 List.not_mem_nil⟩ (lf_oneIf l E _ G (z := 1) (by decide)) (rc_cnS hAm qw_563 qw_1 qw_528 qw_527 rfl rfl hd_X6_oneIf ⟨Nat.le_of_ble_eq_true rfl, Nat.le_of_ble_eq_true rfl⟩) (tg_preS hAm hA hw) rfl rfl hl.1 rfl (lv_room (Nat.le_of_ble_eq_true rfl)) dX1_sampleSizeWithout_51 ⟨Nat.le_of_ble_eq_true rfl, Nat.le_of_ble_eq_true rfl⟩) hA hw (fun H locs hw => ?_)
            refine lv_iadd hx hb dX1_sampleSizeWithout_54 ?_
            refine rc_topi (nI (smR (fun i => wK v j ((ixs v c).getD i 0)) k + 1)) (nI_add (smR (fun i => wK v j ((ixs v c).getD i 0)) k) 1) ?_
            refine rc_topi (nI (smR (fun i => wK v j ((ixs v c).getD i 0)) (k + 1))) (congrArg nI (show smR (fun i => wK v j ((ixs v c).getD i 0)) k + 1 = smR (fun i => wK v j ((ixs v c).getD i 0)) k + wK v j ((ixs v c).getD k 0) by rw [← hq, show wK v j q = cK v q from if_neg e9]; unfold cK; omega)) ?_
            refine lv_istore_n (lv' := [(2, .int (nI (smR (fun i => wK v j ((ixs v c).getD i 0)) (k + 1)))), (4, .ref (ad (64 + q))), (3, .int (nI k)), (0, .ref (ad (40 + 3 * c))), (1, .ref (ad (32 + j)))]) hx hb dX1_sampleSizeWithout_55 rfl hl (by decide) rfl (fun ls hl => ?_)
            refine lv_iinc (v := nI (k + 1)) (lv' := [(3, .int (nI (k + 1))), (2, .int (nI (smR (fun i => wK v j ((ixs v c).getD i 0)) (k + 1)))), (4, .ref (ad (64 + q))), (0, .ref (ad (40 + 3 * c))), (1, .ref (ad (32 + j)))]) hx hb dX1_sampleSizeWithout_56 hl (k := 2) rfl (nI_1 _) (by decide) rfl (fun ls hl => ?_)
            refine lv_goto (tgt := 4) hx hb dX1_sampleSizeWithout_59 (by decide) ?_
            exact ih (k + 1) ls _ _ (by omega) hw (lv_sub hl [0, 1, 3, 4] rfl)
  refine lv_iconst (v := 0) hx hb dX1_sampleSizeWithout_0 (by decide) ?_
  refine lv_istore_n (lv' := [(2, .int 0), (0, .ref (ad (40 + 3 * c))), (1, .ref (ad (32 + j)))]) hx hb dX1_sampleSizeWithout_1 rfl hl (by decide) rfl (fun ls hl => ?_)
  refine lv_iconst (v := 0) hx hb dX1_sampleSizeWithout_2 (by decide) ?_
  refine lv_istore_n (lv' := [(3, .int 0), (2, .int 0), (0, .ref (ad (40 + 3 * c))), (1, .ref (ad (32 + j)))]) hx hb dX1_sampleSizeWithout_3 rfl hl (by decide) rfl (fun ls hl => ?_)
  exact loop (ixs v c).length 0 ls _ _ (by omega) hw hl
set_option maxHeartbeats 4000000 in
set_option maxRecDepth 100000 in
theorem ch_isInSample (l : Launch) (E : rc_E) (sz : Nat) (ad : Nat → Nat) (v : av_V) (c : Nat) (G : tg_G) (hI : csH E ad v G c) (k0 : Nat) (hk : k0 < vn v) : tg_M l yX1_isInSample [Cond.code yX1_isInSample cX1_isInSample 5 (some FieldType.boolean)] { frames := 3, cells := 0, slots := 0, locals := 64 } E [.ref (ad (40 + 3 * c)), .ref (ad (64 + k0))] G sz (tg_Qi E (fun r u => r = nI (isR v (ixs v c) k0 (ixs v c).length 0) ∧ u = G)) 0 0 := by
  refine tg_in (cc := cX1_isInSample) (maxL := 5) (ret := (some FieldType.boolean)) (tg_Qi E (fun r u => r = nI (isR v (ixs v c) k0 (ixs v c).length 0) ∧ u = G)) (by decide) rfl (Nat.le_of_ble_eq_true rfl) ?_
  intro p e s m args below meth cd ls A hx hb hr hml hown hlocks hin hA hAm hw hl
  have hown : s.vm.findClass RX1 = some m.cls := hown
  have hl : lv_has ls 5 [(0, .ref (ad (40 + 3 * c))), (1, .ref (ad (64 + k0)))] := hl
  obtain ⟨h0, hc, ⟨hch, mc, la, hli, hla⟩, hma, hru⟩ := id hI
  have hn60 := h0.1
  have hlen := ixs_len v c
  have hk0 : G (64 + k0) = some (ad (64 + k0), .inr (5, [.int (nI (vR v k0).1), .ref (ad (32 + (vR v k0).2.1)), .int (vT v k0).1, .int (nI (vR v k0).2.2), .int (vT v k0).2])) := hru k0 hk
  have loop : ∀ (d n : Nat) (ls : Array Slot) (H : Heap) (locs : List Loc), d ≤ (ixs v c).length → n ≤ 6 → isR v (ixs v c) k0 (ixs v c).length 0 = isR v (ixs v c) k0 d n → tg_W E A s G H locs → lv_has ls 5 [(3, .int (nI d + (-1))), (2, .int (nI n)), (0, .ref (ad (40 + 3 * c))), (1, .ref (ad (64 + k0)))] → W p l e { frames := 3, cells := 0, slots := 0, locals := 64 } s m args below meth cd H locs 0 0 (MQ below ((tg_Qi E (fun r u => r = nI (isR v (ixs v c) k0 (ixs v c).length 0) ∧ u = G)) A) args s 0 0 A) (F0 m 12 ls []) := by
    intro d
    induction d with
    | zero =>
      intro n ls H locs hd hn hR hw hl
      refine lv_iload_n hx hb dX1_isInSample_12 rfl (lv_at hl 0 rfl) ?_
      refine lv_if_lt (tgt := 64) hx hb dX1_isInSample_13 (by decide) (fun _ => ?_) (fun c9 => absurd ((by decide)) c9)
      refine lv_iconst (v := 0) hx hb dX1_isInSample_64 (by decide) ?_
      exact tg_zret hx hb hr hlocks hw rfl (⟨by rw [hR]; rfl, rfl⟩) (Nat.le_of_ble_eq_true rfl) (Nat.le_of_ble_eq_true rfl) dX1_isInSample_65
    | succ m8 ih =>
      intro n ls H locs hd hn hR hw hl
      rw [pk_m1] at hl
      rcases hla with ⟨z0, -⟩ | ⟨cap, f, ha, hcap, hcap2, hf⟩
      · exact absurd z0 (by omega)
      · refine lv_iload_n hx hb dX1_isInSample_12 rfl (lv_at hl 0 rfl) ?_
        refine lv_if_lt (tgt := 64) hx hb dX1_isInSample_13 (by decide) (fun c9 => absurd c9 (fun z9 => absurd ((nI_ltI (a := m8) (b := 0) (by omega) (by omega)).mp z9) (by omega))) (fun _ => ?_)
        refine lv_iload_n hx hb dX1_isInSample_16 rfl (lv_at hl 1 rfl) ?_
        refine lv_bipush (v := 6) hx hb dX1_isInSample_17 (by decide) ?_
        refine lv_icmp_ge (tgt := 64) hx hb dX1_isInSample_19 (by decide) (fun c_1 => ?_) (fun c_1 => ?_)
        · have c_1 := (nI_leI (a := 6) (b := n) (by omega) (by omega)).mp c_1
          refine lv_iconst (v := 0) hx hb dX1_isInSample_64 (by decide) ?_
          exact tg_zret hx hb hr hlocks hw rfl (⟨by rw [hR]; unfold isR; rw [if_neg (by omega)]; rfl, rfl⟩) (Nat.le_of_ble_eq_true rfl) (Nat.le_of_ble_eq_true rfl) dX1_isInSample_65
        · have c_1 := mt (nI_leI (a := 6) (b := n) (by omega) (by omega)).mpr c_1
          obtain ⟨q, hq⟩ : ∃ q, q = (ixs v c).getD m8 0 := ⟨_, rfl⟩
          obtain ⟨hr9, hm9, hk9, hj9, hw9⟩ := hI.run (i := m8) (by omega)
          rw [← hq] at hr9 hm9 hk9 hj9 hw9
          have hcl := cN_le (vT v q).2 (vMI v (vR v q).2.1 7)
          have hr9 : G (64 + q) = some (ad (64 + q), .inr (5, [.int (nI (vR v q).1), .ref (ad (32 + (vR v q).2.1)), .int (vT v q).1, .int (nI (vR v q).2.2), .int (vT v q).2])) := hr9
          have hm9 : G (32 + (vR v q).2.1) = some (ad (32 + (vR v q).2.1), .inr (4, [.int (nI (vR v q).2.1), .int (nI (vMN v (vR v q).2.1 1)), .int (nI (vMN v (vR v q).2.1 2)), .int (vMI v (vR v q).2.1 3), .int (vMI v (vR v q).2.1 4), .int (vMI v (vR v q).2.1 5), .int (nI (vMN v (vR v q).2.1 6)), .int (vMI v (vR v q).2.1 7)])) := hm9
          refine lv_aload_n hx hb dX1_isInSample_22 rfl (lv_at hl 2 rfl) ?_
          refine tg_get (v := .ref (ad (41 + 3 * c))) hx hb hown hAm hw lyX1 hch rfl 0 (by decide) qw_67 (fun _ h9 => h9) rfl dX1_isInSample_23 ?_
          refine lv_iload_n hx hb dX1_isInSample_26 rfl (lv_at hl 0 rfl) ?_
          refine tg_callRr (va_runV (As := [.int (nI m8)]) (rest := []) (Ts := []) ⟨hx, hb, hml, hown, fun _ h9 => absurd h9 List.not_mem_nil⟩ (lf_get l E _ G (k := m8) (n := (ixs v c).length) (y := ad (64 + q)) (by omega) (by omega) (by omega) (show f m8 = some (ad (64 + q)) by rw [hq]; exact hf m8 (by omega)) hli ha) (rc_cwV hAm qw_560 qw_4 qw_439 qw_437 qw_438 rfl rfl hd_Jx4a65c_get_915e3 ⟨Nat.le_of_ble_eq_true rfl, Nat.le_of_ble_eq_true rfl⟩) (tg_preV hAm hA hw hli (q := vwCl[0]) rfl) rfl rfl hl.1 rfl (lv_room (Nat.le_of_ble_eq_true rfl)) dX1_isInSample_27 ⟨Nat.le_of_ble_eq_true rfl, Nat.le_of_ble_eq_true rfl⟩) hA hw (fun H locs hw => ?_)
          refine tg_castS (C := RX4) hx hb hown hAm hw qw_561 hr9 rfl dX1_isInSample_30 ?_
          refine lv_astore (lv' := [(4, .ref (ad (64 + q))), (3, .int (nI m8)), (2, .int (nI n)), (0, .ref (ad (40 + 3 * c))), (1, .ref (ad (64 + k0)))]) hx hb dX1_isInSample_33 hl (by decide) rfl (fun ls hl => ?_)
          refine lv_aload hx hb dX1_isInSample_35 (lv_at hl 0 rfl) ?_
          refine lv_aload_n hx hb dX1_isInSample_37 rfl (lv_at hl 4 rfl) ?_
          by_cases e9 : q = k0
          · refine lv_acmp_ne (rx := (some (ad (64 + q)))) (ry := (some (ad (64 + k0)))) (tgt := 47) hx hb dX1_isInSample_38 (by decide) (fun c9 => absurd ((show some (ad (64 + q)) = some (ad (64 + k0)) by rw [e9])) c9) (fun _ => ?_)
            refine lv_aload hx hb dX1_isInSample_41 (lv_at hl 0 rfl) ?_
            refine tg_callRi (va_runVN (As := []) (rest := []) (Ts := []) ⟨hx, hb, hml, hown, fun _ h9 => absurd h9 List.not_mem_nil⟩ (lf_counts l E _ G hr9 hm9) (rc_cnV hAm qw_562 qw_22 qw_461 qw_459 qs_11 rfl rfl hd_X4_isCounting ⟨Nat.le_of_ble_eq_true rfl, Nat.le_of_ble_eq_true rfl⟩) (tg_preV hAm hA hw hr9 (q := vwCl[5]) rfl) rfl rfl hl.1 rfl (lv_room (Nat.le_of_ble_eq_true rfl)) dX1_isInSample_43 ⟨Nat.le_of_ble_eq_true rfl, Nat.le_of_ble_eq_true rfl⟩) hA hw (fun H locs hw => ?_)
            exact tg_zret hx hb hr hlocks hw (nI_bool (cN_le _ _)) (⟨by rw [hR]; unfold isR; rw [if_pos (by omega), if_pos (show (ixs v c).getD m8 0 = k0 by rw [← hq, e9]), ← e9]; rfl, rfl⟩) (Nat.le_of_ble_eq_true rfl) (Nat.le_of_ble_eq_true rfl) dX1_isInSample_46
          · refine lv_acmp_ne (rx := (some (ad (64 + q)))) (ry := (some (ad (64 + k0)))) (tgt := 47) hx hb dX1_isInSample_38 (by decide) (fun _ => ?_) (fun c9 => absurd c9 ((fun z9 => e9 (by have h9 := tg_addr hw hr9 hk0 (Option.some.inj z9); omega))))
            refine lv_iload_n hx hb dX1_isInSample_47 rfl (lv_at hl 2 rfl) ?_
            refine lv_aload hx hb dX1_isInSample_48 (lv_at hl 0 rfl) ?_
            refine tg_callRi (va_runVN (As := []) (rest := [.int (nI n)]) (Ts := []) ⟨hx, hb, hml, hown, fun _ h9 => absurd h9 List.not_mem_nil⟩ (lf_counts l E _ G hr9 hm9) (rc_cnV hAm qw_562 qw_22 qw_461 qw_459 qs_11 rfl rfl hd_X4_isCounting ⟨Nat.le_of_ble_eq_true rfl, Nat.le_of_ble_eq_true rfl⟩) (tg_preV hAm hA hw hr9 (q := vwCl[5]) rfl) rfl rfl hl.1 rfl (lv_room (Nat.le_of_ble_eq_true rfl)) dX1_isInSample_50 ⟨Nat.le_of_ble_eq_true rfl, Nat.le_of_ble_eq_true rfl⟩) hA hw (fun H locs hw => ?_)
            refine tg_callRi (va_runSN (As := [.int (nI (cN (vT v q).2 (vMI v (vR v q).2.1 7)))]) (rest := [.int (nI n)]) (Ts := []) ⟨hx, hb, hml, hown, fun _ h9 => absurd h9 List.not_mem_nil⟩ (lf_oneIf l E _ G (z := nI (cN (vT v q).2 (vMI v (vR v q).2.1 7))) (nI_bit (cN_le _ _))) (rc_cnS hAm qw_563 qw_1 qw_528 qw_527 rfl rfl hd_X6_oneIf ⟨Nat.le_of_ble_eq_true rfl, Nat.le_of_ble_eq_true rfl⟩) (tg_preS hAm hA hw) rfl rfl hl.1 rfl (lv_room (Nat.le_of_ble_eq_true rfl)) dX1_isInSample_53 ⟨Nat.le_of_ble_eq_true rfl, Nat.le_of_ble_eq_true rfl⟩) hA hw (fun H locs hw => ?_)
            refine lv_iadd hx hb dX1_isInSample_56 ?_
            refine rc_topi (nI (n + cN (vT v q).2 (vMI v (vR v q).2.1 7))) (nI_add n (cN (vT v q).2 (vMI v (vR v q).2.1 7))) ?_
            refine lv_istore_n (lv' := [(2, .int (nI (n + cN (vT v q).2 (vMI v (vR v q).2.1 7)))), (4, .ref (ad (64 + q))), (3, .int (nI m8)), (0, .ref (ad (40 + 3 * c))), (1, .ref (ad (64 + k0)))]) hx hb dX1_isInSample_57 rfl hl (by decide) rfl (fun ls hl => ?_)
            refine lv_iinc (v := nI m8 + (-1)) (lv' := [(3, .int (nI m8 + (-1))), (2, .int (nI (n + cN (vT v q).2 (vMI v (vR v q).2.1 7)))), (4, .ref (ad (64 + q))), (0, .ref (ad (40 + 3 * c))), (1, .ref (ad (64 + k0)))]) hx hb dX1_isInSample_58 hl (k := 2) rfl rfl (by decide) rfl (fun ls hl => ?_)
            refine lv_goto (tgt := 12) hx hb dX1_isInSample_61 (by decide) ?_
            exact ih _ ls _ _ (by omega) (by have := cN_le (vT v q).2 (vMI v (vR v q).2.1 7); omega) (by rw [hR]; show (if n < 6 then (if (ixs v c).getD m8 0 = k0 then cK v k0 else isR v (ixs v c) k0 m8 (n + cK v ((ixs v c).getD m8 0))) else 0) = _; rw [if_pos (by omega), ← hq, if_neg e9]; rfl) hw (lv_sub hl [0, 1, 3, 4] rfl)
  refine lv_iconst (v := 0) hx hb dX1_isInSample_0 (by decide) ?_
  refine lv_istore_n (lv' := [(2, .int 0), (0, .ref (ad (40 + 3 * c))), (1, .ref (ad (64 + k0)))]) hx hb dX1_isInSample_1 rfl hl (by decide) rfl (fun ls hl => ?_)
  refine lv_aload_n hx hb dX1_isInSample_2 rfl (lv_at hl 1 rfl) ?_
  refine tg_get (v := .ref (ad (41 + 3 * c))) hx hb hown hAm hw lyX1 hch rfl 0 (by decide) qw_67 (fun _ h9 => h9) rfl dX1_isInSample_3 ?_
  refine tg_callRi (va_runV (As := []) (rest := []) (Ts := []) ⟨hx, hb, hml, hown, fun _ h9 => absurd h9 List.not_mem_nil⟩ (lf_size l E _ G (n := (ixs v c).length) hli) (rc_cwV hAm qw_559 qw_4 qw_346 qw_344 qw_345 rfl rfl hd_Jx4a65c_size_8abf5 ⟨Nat.le_of_ble_eq_true rfl, Nat.le_of_ble_eq_true rfl⟩) (tg_preV hAm hA hw hli (q := vwCl[0]) rfl) rfl rfl hl.1 rfl (lv_room (Nat.le_of_ble_eq_true rfl)) dX1_isInSample_6 ⟨Nat.le_of_ble_eq_true rfl, Nat.le_of_ble_eq_true rfl⟩) hA hw (fun H locs hw => ?_)
  refine lv_iconst (v := 1) hx hb dX1_isInSample_9 (by decide) ?_
  refine lv_isub hx hb dX1_isInSample_10 ?_
  refine rc_topi (nI ((ixs v c).length) + (-1)) (nb_sub1 _) ?_
  refine lv_istore_n (lv' := [(3, .int (nI ((ixs v c).length) + (-1))), (2, .int 0), (0, .ref (ad (40 + 3 * c))), (1, .ref (ad (64 + k0)))]) hx hb dX1_isInSample_11 rfl hl (by decide) rfl (fun ls hl => ?_)
  exact loop (ixs v c).length 0 ls _ _ (Nat.le_refl _) (by omega) rfl hw hl
theorem hd_X5_add : yX5_add.cls ≠ "java/lang/invoke/MethodHandle" ∧ yX5_add.cls ≠ "java/lang/invoke/VarHandle" ∧ (parseMethodDescriptor yX5_add.desc).map (fun d => d.parameters.length) = some 1 := by decide +kernel
set_option maxHeartbeats 4000000 in
set_option maxRecDepth 100000 in
theorem ch_addLastOf (l : Launch) (E : rc_E) (sz : Nat) (ad : Nat → Nat) (v : av_V) (c : Nat) (G : tg_G) (hI : csH E ad v G c) {t a a9 : Nat} {f0 : Nat → Int32} (ht : t + 2 ≤ 32) (hs1 : G t = some (a, .inr (6, [.ref a9, .int (nI ([] : List Nat).length)]))) (hs0 : G (t + 1) = some (a9, .inl (E.2.1 0, 6, .inl f0))) : tg_M l yX5_addLastOf [Cond.code yX5_addLastOf cX5_addLastOf 4 (none : Option FieldType)] { frames := 3, cells := 0, slots := 0, locals := 64 } E [.ref a, .ref (ad (40 + 3 * c))] G sz (tg_Qv E (fun u => smH E u t a a9 (samp v c) ∧ ∀ t9, t9 < t ∨ t + 2 ≤ t9 → u t9 = G t9)) 0 0 := by
  refine tg_in (cc := cX5_addLastOf) (maxL := 4) (ret := (none : Option FieldType)) (tg_Qv E (fun u => smH E u t a a9 (samp v c) ∧ ∀ t9, t9 < t ∨ t + 2 ≤ t9 → u t9 = G t9)) (by decide) rfl (Nat.le_of_ble_eq_true rfl) ?_
  intro p e s m args below meth cd ls A hx hb hr hml hown hlocks hin hA hAm hw hl
  have hown : s.vm.findClass RX5 = some m.cls := hown
  have hl : lv_has ls 4 [(0, .ref a), (1, .ref (ad (40 + 3 * c)))] := hl
  have hs2 : ∃ f : Nat → Int32, G (t + 1) = some (a9, .inl (E.2.1 0, 6, .inl f)) ∧ ∀ i9, i9 < ([] : List Nat).length → f i9 = nI (([] : List Nat).getD i9 0) := ⟨f0, hs0, fun i9 h9 => absurd h9 (Nat.not_lt_zero _)⟩
  obtain ⟨h0, hc, ⟨hch, mc, la, hli, hla⟩, hma, hru⟩ := id hI
  have hn60 := h0.1
  have hlen := ixs_len v c
  have loop : ∀ (d : Nat) (S9 : List Nat) (ls : Array Slot) (G1 : tg_G) (H : Heap) (locs : List Loc), d ≤ (ixs v c).length → adR v (ixs v c) (ixs v c).length [] = adR v (ixs v c) d S9 → smH E G1 t a a9 S9 → (∀ t9, t9 < t ∨ t + 2 ≤ t9 → G1 t9 = G t9) → tg_W E A s G1 H locs → lv_has ls 4 [(2, .int (nI d + (-1))), (0, .ref a), (1, .ref (ad (40 + 3 * c)))] → W p l e { frames := 3, cells := 0, slots := 0, locals := 64 } s m args below meth cd H locs 0 0 (MQ below ((tg_Qv E (fun u => smH E u t a a9 (samp v c) ∧ ∀ t9, t9 < t ∨ t + 2 ≤ t9 → u t9 = G t9)) A) args s 0 0 A) (F0 m 10 ls []) := by
    intro d
    induction d with
    | zero =>
      intro S9 ls G1 H locs hd hA9 hS HO hw hl
      obtain ⟨hs1, ⟨f8, hs2, hs3⟩, hs5, hs4⟩ := id hS
      have hI1 : csH E ad v G1 c := hI.of (fun t9 h9 => HO t9 (by omega))
      obtain ⟨-, -, ⟨hch, mc, la, hli, hla⟩, -, -⟩ := id hI1
      refine lv_iload_n hx hb dX5_addLastOf_10 rfl (lv_at hl 0 rfl) ?_
      refine lv_if_lt (tgt := 59) hx hb dX5_addLastOf_11 (by decide) (fun _ => ?_) (fun c9 => absurd ((by decide)) c9)
      exact tg_vret hx hb hr hlocks hw (⟨by unfold samp; rw [hA9]; exact hS, HO⟩) (Nat.le_of_ble_eq_true rfl) (Nat.le_of_ble_eq_true rfl) dX5_addLastOf_59
    | succ m8 ih =>
      intro S9 ls G1 H locs hd hA9 hS HO hw hl
      obtain ⟨hs1, ⟨f8, hs2, hs3⟩, hs5, hs4⟩ := id hS
      have hI1 : csH E ad v G1 c := hI.of (fun t9 h9 => HO t9 (by omega))
      obtain ⟨-, -, ⟨hch, mc, la, hli, hla⟩, -, -⟩ := id hI1
      rw [pk_m1] at hl
      rcases hla with ⟨z0, -⟩ | ⟨cap, f, ha, hcap, hcap2, hf⟩
      · exact absurd z0 (by omega)
      · refine lv_iload_n hx hb dX5_addLastOf_10 rfl (lv_at hl 0 rfl) ?_
        refine lv_if_lt (tgt := 59) hx hb dX5_addLastOf_11 (by decide) (fun c9 => absurd c9 (fun z9 => absurd ((nI_ltI (a := m8) (b := 0) (by omega) (by omega)).mp z9) (by omega))) (fun _ => ?_)
        refine lv_aload_n hx hb dX5_addLastOf_14 rfl (lv_at hl 1 rfl) ?_
        refine tg_get (v := .int (nI S9.length)) hx hb hown hAm hw lyX5 hs1 rfl 1 (by decide) qw_88 (fun _ h9 => h9) rfl dX5_addLastOf_15 ?_
        refine lv_aload_n hx hb dX5_addLastOf_18 rfl (lv_at hl 1 rfl) ?_
        refine tg_get (v := .ref a9) hx hb hown hAm hw lyX5 hs1 rfl 0 (by decide) qw_87 (fun _ h9 => h9) rfl dX5_addLastOf_19 ?_
        refine tg_alen hx hb hAm hw 0 hs2 rfl 6 rfl dX5_addLastOf_22 ?_
        refine lv_icmp_ge (tgt := 59) hx hb dX5_addLastOf_23 (by decide) (fun c_1 => ?_) (fun c_1 => ?_)
        · have c_1 := (nI_leI (a := 6) (b := S9.length) (by omega) (by omega)).mp c_1
          exact tg_vret hx hb hr hlocks hw (⟨by unfold samp; rw [hA9]; unfold adR; rw [if_neg (by omega)]; exact hS, HO⟩) (Nat.le_of_ble_eq_true rfl) (Nat.le_of_ble_eq_true rfl) dX5_addLastOf_59
        · have c_1 := mt (nI_leI (a := 6) (b := S9.length) (by omega) (by omega)).mpr c_1
          obtain ⟨q, hq⟩ : ∃ q, q = (ixs v c).getD m8 0 := ⟨_, rfl⟩
          obtain ⟨hr9, hm9, hk9, hj9, hw9⟩ := hI1.run (i := m8) (by omega)
          rw [← hq] at hr9 hm9 hk9 hj9 hw9
          have hcl := cN_le (vT v q).2 (vMI v (vR v q).2.1 7)
          have hr9 : G1 (64 + q) = some (ad (64 + q), .inr (5, [.int (nI (vR v q).1), .ref (ad (32 + (vR v q).2.1)), .int (vT v q).1, .int (nI (vR v q).2.2), .int (vT v q).2])) := hr9
          have hm9 : G1 (32 + (vR v q).2.1) = some (ad (32 + (vR v q).2.1), .inr (4, [.int (nI (vR v q).2.1), .int (nI (vMN v (vR v q).2.1 1)), .int (nI (vMN v (vR v q).2.1 2)), .int (vMI v (vR v q).2.1 3), .int (vMI v (vR v q).2.1 4), .int (vMI v (vR v q).2.1 5), .int (nI (vMN v (vR v q).2.1 6)), .int (vMI v (vR v q).2.1 7)])) := hm9
          refine lv_aload_n hx hb dX5_addLastOf_26 rfl (lv_at hl 2 rfl) ?_
          refine tg_getN (v := .ref (ad (41 + 3 * c))) hx hb hown hAm hw lyX1 hch rfl 0 (by decide) qw_68 (fun _ h9 => h9) rfl dX5_addLastOf_27 ?_
          refine lv_iload_n hx hb dX5_addLastOf_30 rfl (lv_at hl 0 rfl) ?_
          refine tg_callRr (va_runV (As := [.int (nI m8)]) (rest := []) (Ts := []) ⟨hx, hb, hml, hown, fun _ h9 => absurd h9 List.not_mem_nil⟩ (lf_get l E _ G1 (k := m8) (n := (ixs v c).length) (y := ad (64 + q)) (by omega) (by omega) (by omega) (show f m8 = some (ad (64 + q)) by rw [hq]; exact hf m8 (by omega)) hli ha) (rc_cwV hAm qw_455 qw_4 qw_439 qw_437 qw_438 rfl rfl hd_Jx4a65c_get_915e3 ⟨Nat.le_of_ble_eq_true rfl, Nat.le_of_ble_eq_true rfl⟩) (tg_preV hAm hA hw hli (q := vwCl[0]) rfl) rfl rfl hl.1 rfl (lv_room (Nat.le_of_ble_eq_true rfl)) dX5_addLastOf_31 ⟨Nat.le_of_ble_eq_true rfl, Nat.le_of_ble_eq_true rfl⟩) hA hw (fun H locs hw => ?_)
          refine tg_castS (C := RX4) hx hb hown hAm hw qw_456 hr9 rfl dX5_addLastOf_34 ?_
          refine lv_astore_n (lv' := [(3, .ref (ad (64 + q))), (2, .int (nI m8)), (0, .ref a), (1, .ref (ad (40 + 3 * c)))]) hx hb dX5_addLastOf_37 rfl hl (by decide) rfl (fun ls hl => ?_)
          refine lv_aload_n hx hb dX5_addLastOf_38 rfl (lv_at hl 0 rfl) ?_
          refine tg_callRi (va_runVN (As := []) (rest := []) (Ts := []) ⟨hx, hb, hml, hown, fun _ h9 => absurd h9 List.not_mem_nil⟩ (lf_counts l E _ G1 hr9 hm9) (rc_cnV hAm qw_457 qw_22 qw_461 qw_459 qs_11 rfl rfl hd_X4_isCounting ⟨Nat.le_of_ble_eq_true rfl, Nat.le_of_ble_eq_true rfl⟩) (tg_preV hAm hA hw hr9 (q := vwCl[5]) rfl) rfl rfl hl.1 rfl (lv_room (Nat.le_of_ble_eq_true rfl)) dX5_addLastOf_39 ⟨Nat.le_of_ble_eq_true rfl, Nat.le_of_ble_eq_true rfl⟩) hA hw (fun H locs hw => ?_)
          refine lv_if_eq (tgt := 53) hx hb dX5_addLastOf_42 (by decide) (fun c_z => ?_) (fun c_z => ?_)
          · have c_z := (nI_eq (a := cN (vT v q).2 (vMI v (vR v q).2.1 7)) (b := 0) (by omega) (by omega)).mp c_z
            refine lv_iinc (v := nI m8 + (-1)) (lv' := [(2, .int (nI m8 + (-1))), (3, .ref (ad (64 + q))), (0, .ref a), (1, .ref (ad (40 + 3 * c)))]) hx hb dX5_addLastOf_53 hl (k := 1) rfl rfl (by decide) rfl (fun ls hl => ?_)
            refine lv_goto (tgt := 10) hx hb dX5_addLastOf_56 (by decide) ?_
            exact ih S9 ls G1 _ _ (by omega) (by rw [hA9]; show (if S9.length < 6 then (if cK v ((ixs v c).getD m8 0) = 0 then adR v (ixs v c) m8 S9 else adR v (ixs v c) m8 (insW S9 (vR v ((ixs v c).getD m8 0)).2.2)) else S9) = _; rw [← hq, if_pos (by omega)]; exact if_pos (show cK v q = 0 from c_z)) hS HO hw (lv_sub hl [0, 2, 3] rfl)
          · have c_z := mt (nI_eq (a := cN (vT v q).2 (vMI v (vR v q).2.1 7)) (b := 0) (by omega) (by omega)).mpr c_z
            refine lv_aload_n hx hb dX5_addLastOf_45 rfl (lv_at hl 2 rfl) ?_
            refine lv_aload_n hx hb dX5_addLastOf_46 rfl (lv_at hl 0 rfl) ?_
            refine tg_getN (v := .int (nI (vR v q).2.2)) hx hb hown hAm hw lyX4 hr9 rfl 3 (by decide) qw_742 (fun _ h9 => h9) rfl dX5_addLastOf_47 ?_
            refine tg_callv (va_runV (As := [.int (nI (vR v q).2.2)]) (rest := []) (Ts := []) ⟨hx, hb, hml, hown, fun _ h9 => absurd h9 List.not_mem_nil⟩ (sm_add l E _ G1 (L := S9) hs3 (by omega) (by omega) (fun i9 _ => hs4 i9) hs1 hs2) (rc_cwV hAm qw_462 qw_6 qw_465 qw_464 qs_12 rfl rfl hd_X5_add ⟨Nat.le_of_ble_eq_true rfl, Nat.le_of_ble_eq_true rfl⟩) (tg_preV hAm hA hw hs1 (q := vwCl[6]) rfl) rfl rfl hl.1 rfl (lv_room (Nat.le_of_ble_eq_true rfl)) dX5_addLastOf_50 ⟨Nat.le_of_ble_eq_true rfl, Nat.le_of_ble_eq_true rfl⟩) hA hw (fun G_3 H locs hp hw => ?_)
            obtain ⟨hs1, ⟨f2, hs2, hs3⟩, hu⟩ := hp
            have HO := fun (t9 : Nat) (h9 : t9 < t ∨ t + 2 ≤ t9) => (hu t9 h9).trans (HO t9 h9)
            rw [← insW_len S9 (vR v q).2.2] at hs1 hs3
            refine lv_iinc (v := nI m8 + (-1)) (lv' := [(2, .int (nI m8 + (-1))), (3, .ref (ad (64 + q))), (0, .ref a), (1, .ref (ad (40 + 3 * c)))]) hx hb dX5_addLastOf_53 hl (k := 1) rfl rfl (by decide) rfl (fun ls hl => ?_)
            refine lv_goto (tgt := 10) hx hb dX5_addLastOf_56 (by decide) ?_
            exact ih _ ls _ _ _ (by omega) (by rw [hA9]; show (if S9.length < 6 then (if cK v ((ixs v c).getD m8 0) = 0 then adR v (ixs v c) m8 S9 else adR v (ixs v c) m8 (insW S9 (vR v ((ixs v c).getD m8 0)).2.2)) else S9) = _; rw [← hq, if_pos (by omega)]; exact if_neg (show ¬ cK v q = 0 from c_z)) ⟨hs1, ⟨f2, hs2, hs3⟩, by rw [insW_len]; omega, insW_lt hs4 (by omega)⟩ HO hw (lv_sub hl [0, 2, 3] rfl)
  refine lv_aload_n hx hb dX5_addLastOf_0 rfl (lv_at hl 1 rfl) ?_
  refine tg_getN (v := .ref (ad (41 + 3 * c))) hx hb hown hAm hw lyX1 hch rfl 0 (by decide) qw_68 (fun _ h9 => h9) rfl dX5_addLastOf_1 ?_
  refine tg_callRi (va_runV (As := []) (rest := []) (Ts := []) ⟨hx, hb, hml, hown, fun _ h9 => absurd h9 List.not_mem_nil⟩ (lf_size l E _ G (n := (ixs v c).length) hli) (rc_cwV hAm qw_454 qw_4 qw_346 qw_344 qw_345 rfl rfl hd_Jx4a65c_size_8abf5 ⟨Nat.le_of_ble_eq_true rfl, Nat.le_of_ble_eq_true rfl⟩) (tg_preV hAm hA hw hli (q := vwCl[0]) rfl) rfl rfl hl.1 rfl (lv_room (Nat.le_of_ble_eq_true rfl)) dX5_addLastOf_4 ⟨Nat.le_of_ble_eq_true rfl, Nat.le_of_ble_eq_true rfl⟩) hA hw (fun H locs hw => ?_)
  refine lv_iconst (v := 1) hx hb dX5_addLastOf_7 (by decide) ?_
  refine lv_isub hx hb dX5_addLastOf_8 ?_
  refine rc_topi (nI ((ixs v c).length) + (-1)) (nb_sub1 _) ?_
  refine lv_istore_n (lv' := [(2, .int (nI ((ixs v c).length) + (-1))), (0, .ref a), (1, .ref (ad (40 + 3 * c)))]) hx hb dX5_addLastOf_9 rfl hl (by decide) rfl (fun ls hl => ?_)
  exact loop (ixs v c).length [] ls G _ _ (Nat.le_refl _) rfl ⟨hs1, hs2, by simp, fun i9 => by simp⟩ (fun _ _ => rfl) hw hl
