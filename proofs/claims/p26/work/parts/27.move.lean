set_option maxHeartbeats 4000000 in
set_option maxRecDepth 100000 in
theorem co_creditOf (l : Launch) (E : rc_E) (sz : Nat) (ad : Nat → Nat) (v : av_V) (G : tg_G) (hI : ssH E ad v G) (hS : scH E ad G) (c : Nat) (hc0 : 1 ≤ c) (hc : c < 6) : tg_M l yX6_creditOfStepTo [Cond.code yX6_creditOfStepTo cX6_creditOfStepTo 2 (some FieldType.int)] { frames := 5, cells := 0, slots := 0, locals := 109 } E [.ref (ad 8), .int (nI c)] G sz (tg_Qi E (fun r u => r = crF v c ∧ scH E ad u ∧ ∀ t9, t9 < 15 ∨ 31 ≤ t9 → u t9 = G t9)) 0 0 := by
  refine tg_in (cc := cX6_creditOfStepTo) (maxL := 2) (ret := (some FieldType.int)) (tg_Qi E (fun r u => r = crF v c ∧ scH E ad u ∧ ∀ t9, t9 < 15 ∨ 31 ≤ t9 → u t9 = G t9)) (by decide) rfl (Nat.le_of_ble_eq_true rfl) ?_
  intro p e s m args below meth cd ls A hx hb hr hml hown hlocks hin hA hAm hw hl
  have hown : s.vm.findClass RX6 = some m.cls := hown
  have hl : lv_has ls 2 [(0, .ref (ad 8)), (1, .int (nI c))] := hl
  obtain ⟨h0, hco, ⟨hLm, hLc, hLr⟩, hbi, hma, hch, hru⟩ := id hI
  have hn60 := h0.1
  have HO := fun (t9 : Nat) (_ : t9 < 15 ∨ 31 ≤ t9) => (rfl : G t9 = G t9)
  have hcc : G (40 + 3 * c) = some (ad (40 + 3 * c), .inr (2, [.ref (ad (41 + 3 * c)), .int (vC v c).1, .int (vC v c).2])) := (hch c (by omega)).1
  refine lv_aload_n hx hb dX6_creditOfStepTo_0 rfl (lv_at hl 0 rfl) ?_
  refine lv_iload_n hx hb dX6_creditOfStepTo_1 rfl (lv_at hl 1 rfl) ?_
  refine tg_callRr (va_runV (As := [.int (nI c)]) (rest := []) (Ts := []) ⟨hx, hb, hml, hown, fun _ h9 => absurd h9 List.not_mem_nil⟩ (co_changeAt l E _ ad v G hI c (by omega)) (rc_cwV hAm qw_432 qw_1 qw_435 qw_434 qs_9 rfl rfl hd_X6_changeAt ⟨Nat.le_of_ble_eq_true rfl, Nat.le_of_ble_eq_true rfl⟩) (tg_preV hAm hA hw hco (q := vwCl[7]) rfl) rfl rfl hl.1 rfl (lv_room (Nat.le_of_ble_eq_true rfl)) dX6_creditOfStepTo_2 ⟨Nat.le_of_ble_eq_true rfl, Nat.le_of_ble_eq_true rfl⟩) hA hw (fun H locs hw => ?_)
  refine tg_getN (v := .int (vC v c).2) hx hb hown hAm hw lyX1 hcc rfl 2 (by decide) qw_73 (fun _ h9 => h9) rfl dX6_creditOfStepTo_5 ?_
  refine lv_if_eq (tgt := 13) hx hb dX6_creditOfStepTo_8 (by decide) (fun ce => ?_) (fun ce => ?_)
  · refine lv_aload_n hx hb dX6_creditOfStepTo_13 rfl (lv_at hl 0 rfl) ?_
    refine lv_iload_n hx hb dX6_creditOfStepTo_14 rfl (lv_at hl 1 rfl) ?_
    refine lv_iconst (v := 1) hx hb dX6_creditOfStepTo_15 (by decide) ?_
    refine lv_isub hx hb dX6_creditOfStepTo_16 ?_
    refine rc_topi (nI (c - 1)) (pk_sub (a := c) (b := 1) (by omega)) ?_
    refine lv_iload_n hx hb dX6_creditOfStepTo_17 rfl (lv_at hl 1 rfl) ?_
    refine tg_callv (va_runV (As := [.int (nI (c - 1)), .int (nI c)]) (rest := []) (Ts := []) ⟨hx, hb, hml, hown, fun _ h9 => absurd h9 List.not_mem_nil⟩ (co_meet l E _ ad v G hI hS (c - 1) c (by omega) (by omega)) (rc_cwV hAm qw_424 qw_1 qw_427 qw_426 qs_7 rfl rfl hd_X6_meet ⟨Nat.le_of_ble_eq_true rfl, Nat.le_of_ble_eq_true rfl⟩) (tg_preV hAm hA hw hco (q := vwCl[7]) rfl) rfl rfl hl.1 rfl (lv_room (Nat.le_of_ble_eq_true rfl)) dX6_creditOfStepTo_18 ⟨Nat.le_of_ble_eq_true rfl, Nat.le_of_ble_eq_true rfl⟩) hA hw (fun G_1 H locs hp hw => ?_)
    obtain ⟨hD, hu⟩ := hp
    have hS := scH_meet hS hD hu
    have hco := (hu 8 (by omega)).trans hco
    have hcc := (hu (40 + 3 * c) (by omega)).trans hcc
    have hI := hI.scr (fun t9 h9 => hu t9 (by omega))
    have HO := fun (t9 : Nat) (h9 : t9 < 15 ∨ 31 ≤ t9) => (hu t9 (by omega)).trans (HO t9 h9)
    obtain ⟨A9, hA9⟩ : ∃ A9, A9 = samp v (c - 1) := ⟨_, rfl⟩
    obtain ⟨B9, hB9⟩ : ∃ B9, B9 = samp v c := ⟨_, rfl⟩
    rw [← hA9, ← hB9] at hD
    obtain ⟨hD1, hD2, h17, h22, h23, hR⟩ := id hD
    have h18 := hD1.1
    have h20 := hD2.1
    have hal := (alN_sym hD1.2.2.1 hD2.2.2.1).2
    have hhi := hiN_le A9 B9
    have hlo := loN_le A9 B9
    have hen : vN v 0 < 7 := h0.2.2.2.2.2.1
    have hlv0 : vN v 1 ≤ 200 := h0.2.2.2.2.2.2.1
    have hlv : vN v 1 * alN A9 B9 < 2 ^ 31 := Nat.lt_of_le_of_lt (Nat.mul_le_mul hlv0 hal) (by decide)
    have hA6 : A9.length ≤ 6 := hD1.2.2.1
    have hB6 : B9.length ≤ 6 := hD2.2.2.1
    have ho5 := outD_lt v A9 B9
    refine lv_aload_n hx hb dX6_creditOfStepTo_21 rfl (lv_at hl 0 rfl) ?_
    refine tg_get (v := .ref (ad 17)) hx hb hown hAm hw lyX6 hco rfl 5 (by decide) qw_230 (fun _ h9 => h9) rfl dX6_creditOfStepTo_22 ?_
    refine lv_aload_n hx hb dX6_creditOfStepTo_25 rfl (lv_at hl 0 rfl) ?_
    refine tg_get (v := .int (nI (vN v 0))) hx hb hown hAm hw lyX6 hco rfl 7 (by decide) qw_232 (fun _ h9 => h9) rfl dX6_creditOfStepTo_26 ?_
    refine lv_aload_n hx hb dX6_creditOfStepTo_29 rfl (lv_at hl 0 rfl) ?_
    refine tg_get (v := .int (nI (vN v 1))) hx hb hown hAm hw lyX6 hco rfl 8 (by decide) qw_233 (fun _ h9 => h9) rfl dX6_creditOfStepTo_30 ?_
    refine tg_callRi (va_runVN (As := [.int (nI (vN v 0)), .int (nI (vN v 1))]) (rest := []) (Ts := []) ⟨hx, hb, hml, hown, fun _ h9 => absurd h9 List.not_mem_nil⟩ (du_outcome l E _ G_1 (nA := A9.length) (nB := B9.length) (hi := hiN A9 B9) (lo := loN A9 B9) (al := alN A9 B9) (en := vN v 0) (lv := vN v 1) ⟨hD1.2.2.1, hD2.2.2.1⟩ (by omega) (by omega) (by omega) hlv h17 h18 h20) (rc_cnV hAm qw_499 qw_7 qw_502 qw_501 qs_21 rfl rfl hd_X2_outcome ⟨Nat.le_of_ble_eq_true rfl, Nat.le_of_ble_eq_true rfl⟩) (tg_preV hAm hA hw h17 (q := vwCl[3]) rfl) rfl rfl hl.1 rfl (lv_room (Nat.le_of_ble_eq_true rfl)) dX6_creditOfStepTo_33 ⟨Nat.le_of_ble_eq_true rfl, Nat.le_of_ble_eq_true rfl⟩) hA hw (fun H locs hw => ?_)
    rcases (show outD v A9 B9 = 0 ∨ outD v A9 B9 = 1 ∨ outD v A9 B9 = 2 ∨ outD v A9 B9 = 3 ∨ outD v A9 B9 = 4 by omega) with ho | ho | ho | ho | ho
    · refine rc_topi 0 (show nI (outD v A9 B9) = 0 by rw [ho]; rfl) ?_
      refine lv_lookup (off := 33) (tgt := 69) hx hb dX6_creditOfStepTo_36 (by decide) (by decide) (by decide) ?_
      refine lv_iconst (v := (-1)) hx hb dX6_creditOfStepTo_69 (by decide) ?_
      exact tg_iret hx hb hr hlocks hw (⟨by unfold crF; rw [if_pos ce, ← hA9, ← hB9, ho]; rfl, hS, HO⟩) (Nat.le_of_ble_eq_true rfl) (Nat.le_of_ble_eq_true rfl) dX6_creditOfStepTo_70
    · refine rc_topi 1 (show nI (outD v A9 B9) = 1 by rw [ho]; rfl) ?_
      refine lv_lookup (off := 33) (tgt := 69) hx hb dX6_creditOfStepTo_36 (by decide) (by decide) (by decide) ?_
      refine lv_iconst (v := (-1)) hx hb dX6_creditOfStepTo_69 (by decide) ?_
      exact tg_iret hx hb hr hlocks hw (⟨by unfold crF; rw [if_pos ce, ← hA9, ← hB9, ho]; rfl, hS, HO⟩) (Nat.le_of_ble_eq_true rfl) (Nat.le_of_ble_eq_true rfl) dX6_creditOfStepTo_70
    · refine rc_topi 2 (show nI (outD v A9 B9) = 2 by rw [ho]; rfl) ?_
      refine lv_lookup (off := 28) (tgt := 64) hx hb dX6_creditOfStepTo_36 (by decide) (by decide) (by decide) ?_
      refine lv_bipush (v := 10) hx hb dX6_creditOfStepTo_64 (by decide) ?_
      exact tg_iret hx hb hr hlocks hw (⟨by unfold crF; rw [if_pos ce, ← hA9, ← hB9, ho]; rfl, hS, HO⟩) (Nat.le_of_ble_eq_true rfl) (Nat.le_of_ble_eq_true rfl) dX6_creditOfStepTo_66
    · refine rc_topi 3 (show nI (outD v A9 B9) = 3 by rw [ho]; rfl) ?_
      refine lv_lookup (off := 31) (tgt := 67) hx hb dX6_creditOfStepTo_36 (by decide) (by decide) (by decide) ?_
      refine lv_iconst (v := 0) hx hb dX6_creditOfStepTo_67 (by decide) ?_
      exact tg_iret hx hb hr hlocks hw (⟨by unfold crF; rw [if_pos ce, ← hA9, ← hB9, ho]; rfl, hS, HO⟩) (Nat.le_of_ble_eq_true rfl) (Nat.le_of_ble_eq_true rfl) dX6_creditOfStepTo_68
    · refine rc_topi 4 (show nI (outD v A9 B9) = 4 by rw [ho]; rfl) ?_
      refine lv_lookup (off := 33) (tgt := 69) hx hb dX6_creditOfStepTo_36 (by decide) (by decide) (by decide) ?_
      refine lv_iconst (v := (-1)) hx hb dX6_creditOfStepTo_69 (by decide) ?_
      exact tg_iret hx hb hr hlocks hw (⟨by unfold crF; rw [if_pos ce, ← hA9, ← hB9, ho]; rfl, hS, HO⟩) (Nat.le_of_ble_eq_true rfl) (Nat.le_of_ble_eq_true rfl) dX6_creditOfStepTo_70
  · refine lv_iconst (v := 0) hx hb dX6_creditOfStepTo_11 (by decide) ?_
    exact tg_iret hx hb hr hlocks hw (⟨(if_neg ce).symm, hS, HO⟩) (Nat.le_of_ble_eq_true rfl) (Nat.le_of_ble_eq_true rfl) dX6_creditOfStepTo_12
theorem hd_X6_creditOfStepTo : yX6_creditOfStepTo.cls ≠ "java/lang/invoke/MethodHandle" ∧ yX6_creditOfStepTo.cls ≠ "java/lang/invoke/VarHandle" ∧ (parseMethodDescriptor yX6_creditOfStepTo.desc).map (fun d => d.parameters.length) = some 1 := by decide +kernel
set_option maxHeartbeats 4000000 in
set_option maxRecDepth 100000 in
theorem pu_wouldMove (l : Launch) (E : rc_E) (sz : Nat) (ad : Nat → Nat) (v : av_V) (G : tg_G) (hI : ssH E ad v G) (hS : scH E ad G) : tg_M l yX6_wouldMove [Cond.code yX6_wouldMove cX6_wouldMove 3 (some FieldType.int)] { frames := 6, cells := 0, slots := 0, locals := 130 } E [.ref (ad 8)] G sz (tg_Qi E (fun r u => r = nI (wm v 6 (vN v 4)) ∧ scH E ad u ∧ ∀ t9, t9 < 15 ∨ 31 ≤ t9 → u t9 = G t9)) 0 0 := by
  refine tg_in (cc := cX6_wouldMove) (maxL := 3) (ret := (some FieldType.int)) (tg_Qi E (fun r u => r = nI (wm v 6 (vN v 4)) ∧ scH E ad u ∧ ∀ t9, t9 < 15 ∨ 31 ≤ t9 → u t9 = G t9)) (by decide) rfl (Nat.le_of_ble_eq_true rfl) ?_
  intro p e s m args below meth cd ls A hx hb hr hml hown hlocks hin hA hAm hw hl
  have hown : s.vm.findClass RX6 = some m.cls := hown
  have hl : lv_has ls 3 [(0, .ref (ad 8))] := hl
  obtain ⟨h0, hco, ⟨hLm, hLc, hLr⟩, hbi, hma, hch, hru⟩ := id hI
  have hn60 := h0.1
  have HO := fun (t9 : Nat) (_ : t9 < 15 ∨ 31 ≤ t9) => (rfl : G t9 = G t9)
  have hb4 : vN v 4 < 6 := h0.2.2.2.2.2.2.2.2.2
  have loop : ∀ (k a : Nat) (ls : Array Slot) (G1 : tg_G) (H : Heap) (locs : List Loc), ssH E ad v G1 → scH E ad G1 → wm v 6 (vN v 4) = wm v k a → 5 ≤ a + k → a < 6 → tg_W E A s G1 H locs → (∀ t9, t9 < 15 ∨ 31 ≤ t9 → G1 t9 = G t9) → lv_has ls 3 [(1, .int (nI a)), (2, .int (nI (a + 1))), (0, .ref (ad 8))] → W p l e { frames := 6, cells := 0, slots := 0, locals := 130 } s m args below meth cd H locs 0 0 (MQ below ((tg_Qi E (fun r u => r = nI (wm v 6 (vN v 4)) ∧ scH E ad u ∧ ∀ t9, t9 < 15 ∨ 31 ≤ t9 → u t9 = G t9)) A) args s 0 0 A) (F0 m 12 ls []) := by
    intro k
    induction k with
    | zero =>
      intro a ls G1 H locs hI hS hE ha ha6 hw HO hl
      obtain ⟨-, hco, ⟨-, hLc, -⟩, -⟩ := id hI
      obtain ⟨mc9, la9, hl9, -⟩ := id hLc
      refine lv_iload_n hx hb dX6_wouldMove_12 rfl (lv_at hl 1 rfl) ?_
      refine lv_aload_n hx hb dX6_wouldMove_13 rfl (lv_at hl 2 rfl) ?_
      refine tg_get (v := .ref (ad 11)) hx hb hown hAm hw lyX6 hco rfl 1 (by decide) qw_226 (fun _ h9 => h9) rfl dX6_wouldMove_14 ?_
      refine tg_callRi (va_runV (As := []) (rest := [.int (nI (a + 1))]) (Ts := []) ⟨hx, hb, hml, hown, fun _ h9 => absurd h9 List.not_mem_nil⟩ (lf_size l E _ G1 (n := 6) hl9) (rc_cwV hAm qw_343 qw_4 qw_346 qw_344 qw_345 rfl rfl hd_Jx4a65c_size_8abf5 ⟨Nat.le_of_ble_eq_true rfl, Nat.le_of_ble_eq_true rfl⟩) (tg_preV hAm hA hw hl9 (q := vwCl[0]) rfl) rfl rfl hl.1 rfl (lv_room (Nat.le_of_ble_eq_true rfl)) dX6_wouldMove_17 ⟨Nat.le_of_ble_eq_true rfl, Nat.le_of_ble_eq_true rfl⟩) hA hw (fun H locs hw => ?_)
      refine lv_icmp_ge (tgt := 40) hx hb dX6_wouldMove_20 (by decide) (fun _ => ?_) (fun c9 => absurd ((nI_leI (a := 6) (b := a + 1) (by omega) (by omega)).mpr (by omega)) c9)
      refine lv_iload_n hx hb dX6_wouldMove_40 rfl (lv_at hl 0 rfl) ?_
      exact tg_iret hx hb hr hlocks hw (⟨congrArg nI (by rw [hE]; exact (wm_end (by omega)).symm), hS, HO⟩) (Nat.le_of_ble_eq_true rfl) (Nat.le_of_ble_eq_true rfl) dX6_wouldMove_41
    | succ k ih =>
      intro a ls G1 H locs hI hS hE ha ha6 hw HO hl
      obtain ⟨-, hco, ⟨-, hLc, -⟩, -⟩ := id hI
      obtain ⟨mc9, la9, hl9, -⟩ := id hLc
      refine lv_iload_n hx hb dX6_wouldMove_12 rfl (lv_at hl 1 rfl) ?_
      refine lv_aload_n hx hb dX6_wouldMove_13 rfl (lv_at hl 2 rfl) ?_
      refine tg_get (v := .ref (ad 11)) hx hb hown hAm hw lyX6 hco rfl 1 (by decide) qw_226 (fun _ h9 => h9) rfl dX6_wouldMove_14 ?_
      refine tg_callRi (va_runV (As := []) (rest := [.int (nI (a + 1))]) (Ts := []) ⟨hx, hb, hml, hown, fun _ h9 => absurd h9 List.not_mem_nil⟩ (lf_size l E _ G1 (n := 6) hl9) (rc_cwV hAm qw_343 qw_4 qw_346 qw_344 qw_345 rfl rfl hd_Jx4a65c_size_8abf5 ⟨Nat.le_of_ble_eq_true rfl, Nat.le_of_ble_eq_true rfl⟩) (tg_preV hAm hA hw hl9 (q := vwCl[0]) rfl) rfl rfl hl.1 rfl (lv_room (Nat.le_of_ble_eq_true rfl)) dX6_wouldMove_17 ⟨Nat.le_of_ble_eq_true rfl, Nat.le_of_ble_eq_true rfl⟩) hA hw (fun H locs hw => ?_)
      refine lv_icmp_ge (tgt := 40) hx hb dX6_wouldMove_20 (by decide) (fun c_1 => ?_) (fun c_1 => ?_)
      · have c_1 := (nI_leI (a := 6) (b := a + 1) (by omega) (by omega)).mp c_1
        refine lv_iload_n hx hb dX6_wouldMove_40 rfl (lv_at hl 0 rfl) ?_
        exact tg_iret hx hb hr hlocks hw (⟨congrArg nI (by rw [hE]; first | exact (wm_stay ce).symm | exact (wm_end (by omega)).symm), hS, HO⟩) (Nat.le_of_ble_eq_true rfl) (Nat.le_of_ble_eq_true rfl) dX6_wouldMove_41
      · have c_1 := mt (nI_leI (a := 6) (b := a + 1) (by omega) (by omega)).mpr c_1
        refine lv_aload_n hx hb dX6_wouldMove_23 rfl (lv_at hl 2 rfl) ?_
        refine lv_iload_n hx hb dX6_wouldMove_24 rfl (lv_at hl 1 rfl) ?_
        refine tg_calli (va_runV (As := [.int (nI (a + 1))]) (rest := []) (Ts := []) ⟨hx, hb, hml, hown, fun _ h9 => absurd h9 List.not_mem_nil⟩ (co_creditOf l E _ ad v G1 hI hS (a + 1) (by omega) (by omega)) (rc_cwV hAm qw_614 qw_1 qw_617 qw_616 qs_43 rfl rfl hd_X6_creditOfStepTo ⟨Nat.le_of_ble_eq_true rfl, Nat.le_of_ble_eq_true rfl⟩) (tg_preV hAm hA hw hco (q := vwCl[7]) rfl) rfl rfl hl.1 rfl (lv_room (Nat.le_of_ble_eq_true rfl)) dX6_wouldMove_25 ⟨Nat.le_of_ble_eq_true rfl, Nat.le_of_ble_eq_true rfl⟩) hA hw (fun r_3 G_2 H locs hp hw => ?_)
        obtain ⟨hr9, hS, hu⟩ := hp
        rw [hr9]
        have hco := (hu 8 (by omega)).trans hco
        have hl9 := (hu 11 (by omega)).trans hl9
        have hI := hI.scr (fun t9 h9 => hu t9 (by omega))
        have HO := fun (t9 : Nat) (h9 : t9 < 15 ∨ 31 ≤ t9) => (hu t9 (by omega)).trans (HO t9 h9)
        refine lv_iconst (v := (-1)) hx hb dX6_wouldMove_28 (by decide) ?_
        refine lv_icmp_eq (tgt := 40) hx hb dX6_wouldMove_29 (by decide) (fun ce => ?_) (fun ce => ?_)
        · refine lv_iload_n hx hb dX6_wouldMove_40 rfl (lv_at hl 0 rfl) ?_
          exact tg_iret hx hb hr hlocks hw (⟨congrArg nI (by rw [hE]; first | exact (wm_stay ce).symm | exact (wm_end (by omega)).symm), hS, HO⟩) (Nat.le_of_ble_eq_true rfl) (Nat.le_of_ble_eq_true rfl) dX6_wouldMove_41
        · refine lv_iload_n hx hb dX6_wouldMove_32 rfl (lv_at hl 1 rfl) ?_
          refine lv_istore_n (lv' := [(1, .int (nI (a + 1))), (2, .int (nI (a + 1))), (0, .ref (ad 8))]) hx hb dX6_wouldMove_33 rfl hl (by decide) rfl (fun ls hl => ?_)
          refine lv_iinc (v := nI (a + 1 + 1)) (lv' := [(2, .int (nI (a + 1 + 1))), (1, .int (nI (a + 1))), (0, .ref (ad 8))]) hx hb dX6_wouldMove_34 hl (k := 1) rfl (nI_1 _) (by decide) rfl (fun ls hl => ?_)
          refine lv_goto (tgt := 12) hx hb dX6_wouldMove_37 (by decide) ?_
          exact ih (a + 1) ls _ _ _ hI hS (by rw [hE]; exact wm_go (by omega) ce) (by omega) (by omega) hw HO (lv_sub hl [1, 0, 2] rfl)
  refine lv_aload_n hx hb dX6_wouldMove_0 rfl (lv_at hl 0 rfl) ?_
  refine tg_get (v := .int (nI (vN v 4))) hx hb hown hAm hw lyX6 hco rfl 11 (by decide) qw_236 (fun _ h9 => h9) rfl dX6_wouldMove_1 ?_
  refine lv_istore_n (lv' := [(1, .int (nI (vN v 4))), (0, .ref (ad 8))]) hx hb dX6_wouldMove_4 rfl hl (by decide) rfl (fun ls hl => ?_)
  refine lv_aload_n hx hb dX6_wouldMove_5 rfl (lv_at hl 1 rfl) ?_
  refine tg_get (v := .int (nI (vN v 4))) hx hb hown hAm hw lyX6 hco rfl 11 (by decide) qw_236 (fun _ h9 => h9) rfl dX6_wouldMove_6 ?_
  refine lv_iconst (v := 1) hx hb dX6_wouldMove_9 (by decide) ?_
  refine lv_iadd hx hb dX6_wouldMove_10 ?_
  refine rc_topi (nI (vN v 4 + 1)) (nI_add (vN v 4) 1) ?_
  refine lv_istore_n (lv' := [(2, .int (nI (vN v 4 + 1))), (1, .int (nI (vN v 4))), (0, .ref (ad 8))]) hx hb dX6_wouldMove_11 rfl hl (by decide) rfl (fun ls hl => ?_)
  exact loop 6 (vN v 4) ls G _ _ hI hS rfl (by omega) hb4 hw HO (lv_sub hl [1, 0, 2] rfl)
set_option maxHeartbeats 4000000 in
set_option maxRecDepth 100000 in
theorem pu_move (l : Launch) (E : rc_E) (sz : Nat) (ad : Nat → Nat) (v : av_V) (G : tg_G) (hI : ssH E ad v G) (hS : scH E ad G) : tg_M l yX6_move [Cond.code yX6_move cX6_move 3 (some FieldType.int)] { frames := 6, cells := 0, slots := 0, locals := 130 } E [.ref (ad 8)] G sz (tg_Qi E (fun r u => (r = nI (wm v 6 (vN v 4)) ∧ MV E ad v u) ∧ ∀ t9, t9 < 8 → u t9 = G t9)) 0 0 := by
  refine tg_in (cc := cX6_move) (maxL := 3) (ret := (some FieldType.int)) (tg_Qi E (fun r u => (r = nI (wm v 6 (vN v 4)) ∧ MV E ad v u) ∧ ∀ t9, t9 < 8 → u t9 = G t9)) (by decide) rfl (Nat.le_of_ble_eq_true rfl) ?_
  intro p e s m args below meth cd ls A hx hb hr hml hown hlocks hin hA hAm hw hl
  have hown : s.vm.findClass RX6 = some m.cls := hown
  have hl : lv_has ls 3 [(0, .ref (ad 8))] := hl
  obtain ⟨h0, hco, ⟨hLm, hLc, hLr⟩, hbi, hma, hch, hru⟩ := id hI
  have hn60 := h0.1
  have hb4 : vN v 4 < 6 := h0.2.2.2.2.2.2.2.2.2
  have hb3 : vN v 3 ≤ 100 + 10 * vN v 4 := h0.2.2.2.2.2.2.2.2.1
  have loop : ∀ (k a cr : Nat) (ls : Array Slot) (G1 : tg_G) (H : Heap) (locs : List Loc), ssH E ad (setN v cr a) G1 → scH E ad G1 → wm v 6 (vN v 4) = wm v k a → 5 ≤ a + k → a < 6 → cr ≤ 100 + 10 * a → vN v 3 ≤ cr → (cr - vN v 3) % 10 = 0 → tg_W E A s G1 H locs → (∀ t9, t9 < 8 → G1 t9 = G t9) → lv_has ls 3 [(1, .int (nI (a + 1))), (0, .ref (ad 8))] → W p l e { frames := 6, cells := 0, slots := 0, locals := 130 } s m args below meth cd H locs 0 0 (MQ below ((tg_Qi E (fun r u => (r = nI (wm v 6 (vN v 4)) ∧ MV E ad v u) ∧ ∀ t9, t9 < 8 → u t9 = G t9)) A) args s 0 0 A) (F0 m 7 ls []) := by
    intro k
    induction k with
    | zero =>
      intro a cr ls G1 H locs hI hS hE ha ha6 hc1 hc2 hc3 hw HO8 hl
      have HO := fun (t9 : Nat) (_ : t9 < 15 ∨ 31 ≤ t9) => (rfl : G1 t9 = G1 t9)
      obtain ⟨-, -, ⟨-, hLc, -⟩, -⟩ := id hI
      obtain ⟨mc9, la9, hl9, -⟩ := id hLc
      have hco : G1 8 = some (ad 8, .inr (7, [.ref (ad 9), .ref (ad 11), .ref (ad 13), .ref (ad 40), .ref (ad 15), .ref (ad 17), .ref (ad 31), .int (nI (vN v 0)), .int (nI (vN v 1)), .int (nI (vN v 2)), .int (nI cr), .int (nI a), .int (vI v 0)])) := hI.2.1
      refine lv_iload_n hx hb dX6_move_7 rfl (lv_at hl 0 rfl) ?_
      refine lv_aload_n hx hb dX6_move_8 rfl (lv_at hl 1 rfl) ?_
      refine tg_get (v := .ref (ad 11)) hx hb hown hAm hw lyX6 hco rfl 1 (by decide) qw_226 (fun _ h9 => h9) rfl dX6_move_9 ?_
      refine tg_callRi (va_runV (As := []) (rest := [.int (nI (a + 1))]) (Ts := []) ⟨hx, hb, hml, hown, fun _ h9 => absurd h9 List.not_mem_nil⟩ (lf_size l E _ G1 (n := 6) hl9) (rc_cwV hAm qw_343 qw_4 qw_346 qw_344 qw_345 rfl rfl hd_Jx4a65c_size_8abf5 ⟨Nat.le_of_ble_eq_true rfl, Nat.le_of_ble_eq_true rfl⟩) (tg_preV hAm hA hw hl9 (q := vwCl[0]) rfl) rfl rfl hl.1 rfl (lv_room (Nat.le_of_ble_eq_true rfl)) dX6_move_12 ⟨Nat.le_of_ble_eq_true rfl, Nat.le_of_ble_eq_true rfl⟩) hA hw (fun H locs hw => ?_)
      refine lv_icmp_ge (tgt := 53) hx hb dX6_move_15 (by decide) (fun _ => ?_) (fun c9 => absurd ((nI_leI (a := 6) (b := a + 1) (by omega) (by omega)).mpr (by omega)) c9)
      refine lv_aload_n hx hb dX6_move_53 rfl (lv_at hl 1 rfl) ?_
      refine tg_get (v := .int (nI a)) hx hb hown hAm hw lyX6 hco rfl 11 (by decide) qw_236 (fun _ h9 => h9) rfl dX6_move_54 ?_
      exact tg_iret hx hb hr hlocks hw (⟨⟨congrArg nI (by rw [hE]; exact (wm_end (by omega)).symm), MV_of ⟨hI, hS⟩ hc2 hc3 hE (wm_end (by omega))⟩, HO8⟩) (Nat.le_of_ble_eq_true rfl) (Nat.le_of_ble_eq_true rfl) dX6_move_57
    | succ k ih =>
      intro a cr ls G1 H locs hI hS hE ha ha6 hc1 hc2 hc3 hw HO8 hl
      have HO := fun (t9 : Nat) (_ : t9 < 15 ∨ 31 ≤ t9) => (rfl : G1 t9 = G1 t9)
      obtain ⟨-, -, ⟨-, hLc, -⟩, -⟩ := id hI
      obtain ⟨mc9, la9, hl9, -⟩ := id hLc
      have hco : G1 8 = some (ad 8, .inr (7, [.ref (ad 9), .ref (ad 11), .ref (ad 13), .ref (ad 40), .ref (ad 15), .ref (ad 17), .ref (ad 31), .int (nI (vN v 0)), .int (nI (vN v 1)), .int (nI (vN v 2)), .int (nI cr), .int (nI a), .int (vI v 0)])) := hI.2.1
      refine lv_iload_n hx hb dX6_move_7 rfl (lv_at hl 0 rfl) ?_
      refine lv_aload_n hx hb dX6_move_8 rfl (lv_at hl 1 rfl) ?_
      refine tg_get (v := .ref (ad 11)) hx hb hown hAm hw lyX6 hco rfl 1 (by decide) qw_226 (fun _ h9 => h9) rfl dX6_move_9 ?_
      refine tg_callRi (va_runV (As := []) (rest := [.int (nI (a + 1))]) (Ts := []) ⟨hx, hb, hml, hown, fun _ h9 => absurd h9 List.not_mem_nil⟩ (lf_size l E _ G1 (n := 6) hl9) (rc_cwV hAm qw_343 qw_4 qw_346 qw_344 qw_345 rfl rfl hd_Jx4a65c_size_8abf5 ⟨Nat.le_of_ble_eq_true rfl, Nat.le_of_ble_eq_true rfl⟩) (tg_preV hAm hA hw hl9 (q := vwCl[0]) rfl) rfl rfl hl.1 rfl (lv_room (Nat.le_of_ble_eq_true rfl)) dX6_move_12 ⟨Nat.le_of_ble_eq_true rfl, Nat.le_of_ble_eq_true rfl⟩) hA hw (fun H locs hw => ?_)
      refine lv_icmp_ge (tgt := 53) hx hb dX6_move_15 (by decide) (fun c_1 => ?_) (fun c_1 => ?_)
      · have c_1 := (nI_leI (a := 6) (b := a + 1) (by omega) (by omega)).mp c_1
        refine lv_aload_n hx hb dX6_move_53 rfl (lv_at hl 1 rfl) ?_
        refine tg_get (v := .int (nI a)) hx hb hown hAm hw lyX6 hco rfl 11 (by decide) qw_236 (fun _ h9 => h9) rfl dX6_move_54 ?_
        exact tg_iret hx hb hr hlocks hw (⟨⟨congrArg nI (by rw [hE]; first | exact (wm_stay ce).symm | exact (wm_end (by omega)).symm), MV_of ⟨hI, hS⟩ hc2 hc3 hE (by first | exact wm_stay ce | exact wm_end (by omega))⟩, fun t9 h9 => (HO t9 (by omega)).trans (HO8 t9 h9)⟩) (Nat.le_of_ble_eq_true rfl) (Nat.le_of_ble_eq_true rfl) dX6_move_57
      · have c_1 := mt (nI_leI (a := 6) (b := a + 1) (by omega) (by omega)).mpr c_1
        refine lv_aload_n hx hb dX6_move_18 rfl (lv_at hl 1 rfl) ?_
        refine lv_iload_n hx hb dX6_move_19 rfl (lv_at hl 0 rfl) ?_
        refine tg_calli (va_runV (As := [.int (nI (a + 1))]) (rest := []) (Ts := []) ⟨hx, hb, hml, hown, fun _ h9 => absurd h9 List.not_mem_nil⟩ (co_creditOf l E _ ad (setN v cr a) G1 hI hS (a + 1) (by omega) (by omega)) (rc_cwV hAm qw_614 qw_1 qw_617 qw_616 qs_43 rfl rfl hd_X6_creditOfStepTo ⟨Nat.le_of_ble_eq_true rfl, Nat.le_of_ble_eq_true rfl⟩) (tg_preV hAm hA hw hco (q := vwCl[7]) rfl) rfl rfl hl.1 rfl (lv_room (Nat.le_of_ble_eq_true rfl)) dX6_move_20 ⟨Nat.le_of_ble_eq_true rfl, Nat.le_of_ble_eq_true rfl⟩) hA hw (fun r_3 G_2 H locs hp hw => ?_)
        obtain ⟨hr9, hS, hu⟩ := hp
        rw [hr9]
        have hco := (hu 8 (by omega)).trans hco
        have hl9 := (hu 11 (by omega)).trans hl9
        have hI := hI.scr (fun t9 h9 => hu t9 (by omega))
        have HO := fun (t9 : Nat) (h9 : t9 < 15 ∨ 31 ≤ t9) => (hu t9 (by omega)).trans (HO t9 h9)
        rw [crF_setN]
        refine lv_istore_n (lv' := [(2, .int (crF v (a + 1))), (1, .int (nI (a + 1))), (0, .ref (ad 8))]) hx hb dX6_move_23 rfl hl (by decide) rfl (fun ls hl => ?_)
        refine lv_iload_n hx hb dX6_move_24 rfl (lv_at hl 0 rfl) ?_
        refine lv_iconst (v := (-1)) hx hb dX6_move_25 (by decide) ?_
        refine lv_icmp_ne (tgt := 32) hx hb dX6_move_26 (by decide) (fun ce => ?_) (fun ce => ?_)
        · refine lv_aload_n hx hb dX6_move_32 rfl (lv_at hl 2 rfl) ?_
          refine lv_iload_n hx hb dX6_move_33 rfl (lv_at hl 1 rfl) ?_
          refine tg_put hx hb hown hAm hw lyX6 tyX6 tyX6_ok nmX6 hco rfl 11 (by decide) qw_236 (fun _ h9 => h9) rfl rfl rfl (Nat.le_of_ble_eq_true rfl) dX6_move_34 (fun G_4 H locs g_5 o_6 hw => ?_)
          have hl9 := (o_6 _ (by decide)).trans hl9
          have hco : G_4 8 = some (ad 8, .inr (7, [.ref (ad 9), .ref (ad 11), .ref (ad 13), .ref (ad 40), .ref (ad 15), .ref (ad 17), .ref (ad 31), .int (nI (vN v 0)), .int (nI (vN v 1)), .int (nI (vN v 2)), .int (nI cr), .int (nI (a + 1)), .int (vI v 0)])) := g_5
          refine lv_aload_n hx hb dX6_move_37 rfl (lv_at hl 2 rfl) ?_
          refine lv_dup hx hb dX6_move_38 rfl ?_
          refine tg_get (v := .int (nI cr)) hx hb hown hAm hw lyX6 hco rfl 10 (by decide) qw_235 (fun _ h9 => h9) rfl dX6_move_39 ?_
          refine lv_iload_n hx hb dX6_move_42 rfl (lv_at hl 0 rfl) ?_
          have h10 := crN_10 v (a + 1)
          refine rc_topi (nI (crN v (a + 1))) (crN_of ce) ?_
          refine lv_iadd hx hb dX6_move_43 ?_
          refine rc_topi (nI (cr + crN v (a + 1))) (nI_add cr (crN v (a + 1))) ?_
          refine tg_put hx hb hown hAm hw lyX6 tyX6 tyX6_ok nmX6 hco rfl 10 (by decide) qw_235 (fun _ h9 => h9) rfl rfl rfl (Nat.le_of_ble_eq_true rfl) dX6_move_44 (fun G_7 H locs g_8 o_9 hw => ?_)
          have hl9 := (o_9 _ (by decide)).trans hl9
          have hco : G_7 8 = some (ad 8, .inr (7, [.ref (ad 9), .ref (ad 11), .ref (ad 13), .ref (ad 40), .ref (ad 15), .ref (ad 17), .ref (ad 31), .int (nI (vN v 0)), .int (nI (vN v 1)), .int (nI (vN v 2)), .int (nI (cr + crN v (a + 1))), .int (nI (a + 1)), .int (vI v 0)])) := g_8
          refine lv_iinc (v := nI (a + 1 + 1)) (lv' := [(1, .int (nI (a + 1 + 1))), (2, .int (crF v (a + 1))), (0, .ref (ad 8))]) hx hb dX6_move_47 hl (k := 1) rfl (nI_1 _) (by decide) rfl (fun ls hl => ?_)
          refine lv_goto (tgt := 7) hx hb dX6_move_50 (by decide) ?_
          have hI2 := hI.court (setN v (cr + crN v (a + 1)) (a + 1)) rfl (fun _ _ => rfl) (okV_setN h0 (by omega) (by omega)) hco (fun t9 h9 => (o_9 t9 h9).trans ((o_6 t9 h9)))
          have hS2 := hS.off (fun t9 h8 h10 => (fun (h9 : t9 ≠ 8) => (o_9 t9 h9).trans ((o_6 t9 h9))) (by omega))
          exact ih (a + 1) (cr + crN v (a + 1)) ls _ _ _ hI2 hS2 (by rw [hE]; exact wm_go (by omega) ce) (by omega) (by omega) (by omega) (by omega) (by omega) hw (fun t9 h8 => ((fun (h9 : t9 ≠ 8) => (o_9 t9 h9).trans ((o_6 t9 h9))) (by omega)).trans ((HO t9 (by omega)).trans (HO8 t9 h8))) (lv_sub hl [0, 2] rfl)
        · refine lv_goto (tgt := 53) hx hb dX6_move_29 (by decide) ?_
          refine lv_aload_n hx hb dX6_move_53 rfl (lv_at hl 2 rfl) ?_
          refine tg_get (v := .int (nI a)) hx hb hown hAm hw lyX6 hco rfl 11 (by decide) qw_236 (fun _ h9 => h9) rfl dX6_move_54 ?_
          exact tg_iret hx hb hr hlocks hw (⟨⟨congrArg nI (by rw [hE]; first | exact (wm_stay ce).symm | exact (wm_end (by omega)).symm), MV_of ⟨hI, hS⟩ hc2 hc3 hE (by first | exact wm_stay ce | exact wm_end (by omega))⟩, fun t9 h9 => (HO t9 (by omega)).trans (HO8 t9 h9)⟩) (Nat.le_of_ble_eq_true rfl) (Nat.le_of_ble_eq_true rfl) dX6_move_57
  refine lv_aload_n hx hb dX6_move_0 rfl (lv_at hl 0 rfl) ?_
  refine tg_get (v := .int (nI (vN v 4))) hx hb hown hAm hw lyX6 hco rfl 11 (by decide) qw_236 (fun _ h9 => h9) rfl dX6_move_1 ?_
  refine lv_iconst (v := 1) hx hb dX6_move_4 (by decide) ?_
  refine lv_iadd hx hb dX6_move_5 ?_
  refine rc_topi (nI (vN v 4 + 1)) (nI_add (vN v 4) 1) ?_
  refine lv_istore_n (lv' := [(1, .int (nI (vN v 4 + 1))), (0, .ref (ad 8))]) hx hb dX6_move_6 rfl hl (by decide) rfl (fun ls hl => ?_)
  exact loop 6 (vN v 4) (vN v 3) ls G _ _ (by rw [setN_id]; exact hI) hS rfl (by omega) hb4 hb3 (Nat.le_refl _) (by rw [Nat.sub_self]) hw (fun t9 _ => rfl) hl
