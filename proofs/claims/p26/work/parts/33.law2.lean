theorem hd_X6_doubt : yX6_doubt.cls ≠ "java/lang/invoke/MethodHandle" ∧ yX6_doubt.cls ≠ "java/lang/invoke/VarHandle" ∧ (parseMethodDescriptor yX6_doubt.desc).map (fun d => d.parameters.length) = some 2 := by decide +kernel
set_option maxHeartbeats 16000000 in
set_option maxRecDepth 100000 in
theorem lw_verdict (l : Launch) (E : rc_E) (sz : Nat) (ad : Nat → Nat) (v : av_V) (G : tg_G) (hI : ssH E ad v G) (hS : scH E ad G) (a0 b0 : Nat) (ha0 : a0 < 6) (hb0 : b0 < 6) : tg_M l yL_isVerdictRight [Cond.code yL_isVerdictRight cL_isVerdictRight 14 (some FieldType.boolean)] { frames := 6, cells := 0, slots := 0, locals := 132 } E [.ref (ad 8), .int (nI a0), .int (nI b0), .int (nI (vN v 0)), .int (nI (vN v 1))] G sz (tg_Qi E (fun r u => r = 1 ∧ scH E ad u ∧ ∀ t9, t9 < 15 ∨ 31 ≤ t9 → u t9 = G t9)) 0 0 := by
  refine tg_in (cc := cL_isVerdictRight) (maxL := 14) (ret := (some FieldType.boolean)) (tg_Qi E (fun r u => r = 1 ∧ scH E ad u ∧ ∀ t9, t9 < 15 ∨ 31 ≤ t9 → u t9 = G t9)) (by decide) rfl (Nat.le_of_ble_eq_true rfl) ?_
  intro p e s m args below meth cd ls A hx hb hr hml hown hlocks hin hA hAm hw hl
  have hown : s.vm.findClass RL = some m.cls := hown
  have hl : lv_has ls 14 [(0, .ref (ad 8)), (1, .int (nI a0)), (2, .int (nI b0)), (3, .int (nI (vN v 0))), (4, .int (nI (vN v 1)))] := hl
  have h0 : okV v := hI.1
  have hco := hI.2.1
  have HO := fun (t9 : Nat) (_ : t9 < 15 ∨ 31 ≤ t9) => (rfl : G t9 = G t9)
  obtain ⟨A9, hA9⟩ : ∃ A9, A9 = samp v a0 := ⟨_, rfl⟩
  obtain ⟨B9, hB9⟩ : ∃ B9, B9 = samp v b0 := ⟨_, rfl⟩
  have hA6 : A9.length ≤ 6 := by rw [hA9, samp_len]; exact szN_le _ _
  have hB6 : B9.length ≤ 6 := by rw [hB9, samp_len]; exact szN_le _ _
  have hal := (alN_sym hA6 hB6).2
  have hal2 := (alN_sym hA6 hB6).1
  have hhi := hiN_le A9 B9
  have hlo := loN_le A9 B9
  have hh0 := hiN_pos A9 B9
  have hl0 := loN_pos A9 B9
  have hhl := hilo A9 B9
  have hen : vN v 0 < 7 := h0.2.2.2.2.2.1
  have hlv0 : vN v 1 ≤ 200 := h0.2.2.2.2.2.2.1
  have hlv : vN v 1 * alN A9 B9 < 2 ^ 31 := Nat.lt_of_le_of_lt (Nat.mul_le_mul hlv0 hal) (by decide)
  have ho5 := outD_lt v A9 B9
  have hAB : A9.length * B9.length ≤ 36 := Nat.mul_le_mul hA6 hB6
  have hAA : A9.length * A9.length ≤ 36 := Nat.mul_le_mul hA6 hA6
  have hcr := crs_le A9 B9
  have hcr2 := crs_le B9 A9
  have hBA : B9.length * A9.length ≤ 36 := Nat.mul_le_mul hB6 hA6
  have hcp : crs A9 B9 + crs B9 A9 = 2 * A9.length * B9.length := by rw [crs_pair, Nat.mul_assoc]
  have h2AB : 2 * A9.length * B9.length ≤ 72 := by rw [Nat.mul_assoc]; omega
  have hdb := dbl_ok hA6 hB6 hh0 hhi
  refine lv_aload_n hx hb dL_isVerdictRight_0 rfl (lv_at hl 0 rfl) ?_
  refine lv_iload_n hx hb dL_isVerdictRight_1 rfl (lv_at hl 1 rfl) ?_
  refine lv_iload_n hx hb dL_isVerdictRight_2 rfl (lv_at hl 2 rfl) ?_
  refine lv_iconst (v := 0) hx hb dL_isVerdictRight_3 (by decide) ?_
  refine tg_calli (va_runV (As := [.int (nI a0), .int (nI b0), .int 0]) (rest := []) (Ts := []) ⟨hx, hb, hml, hown, fun _ h9 => absurd h9 List.not_mem_nil⟩ (pu_verdict0 l E _ ad v G hI hS a0 b0 (by omega) (by omega)) (rc_cwV hAm qw_771 qw_1 qw_774 qw_772 qw_773 rfl rfl hd_X6_verdict ⟨Nat.le_of_ble_eq_true rfl, Nat.le_of_ble_eq_true rfl⟩) (tg_preV hAm hA hw hco (q := vwCl[7]) rfl) rfl rfl hl.1 rfl (lv_room (Nat.le_of_ble_eq_true rfl)) dL_isVerdictRight_4 ⟨Nat.le_of_ble_eq_true rfl, Nat.le_of_ble_eq_true rfl⟩) hA hw (fun r_2 G_1 H locs hp hw => ?_)
  obtain ⟨hr9, hS, hu⟩ := hp
  rw [hr9]
  try rw [← hA9]
  try rw [← hB9]
  have hco := (hu 8 (by omega)).trans hco
  have hI := hI.scr (fun t9 h9 => hu t9 (by omega))
  have HO := fun (t9 : Nat) (h9 : t9 < 15 ∨ 31 ≤ t9) => (hu t9 (by omega)).trans (HO t9 h9)
  refine lv_istore (lv' := [(5, .int (nI (outD v A9 B9))), (0, .ref (ad 8)), (1, .int (nI a0)), (2, .int (nI b0)), (3, .int (nI (vN v 0))), (4, .int (nI (vN v 1)))]) hx hb dL_isVerdictRight_7 hl (by decide) rfl (fun ls hl => ?_)
  refine lv_aload_n hx hb dL_isVerdictRight_9 rfl (lv_at hl 1 rfl) ?_
  refine lv_iload_n hx hb dL_isVerdictRight_10 rfl (lv_at hl 2 rfl) ?_
  refine lv_iload_n hx hb dL_isVerdictRight_11 rfl (lv_at hl 3 rfl) ?_
  refine lv_iconst (v := 1) hx hb dL_isVerdictRight_12 (by decide) ?_
  refine tg_calli (va_runV (As := [.int (nI a0), .int (nI b0), .int 1]) (rest := []) (Ts := []) ⟨hx, hb, hml, hown, fun _ h9 => absurd h9 List.not_mem_nil⟩ (pu_verdict1 l E _ ad v G_1 hI hS a0 b0 (by omega) (by omega)) (rc_cwV hAm qw_771 qw_1 qw_774 qw_772 qw_773 rfl rfl hd_X6_verdict ⟨Nat.le_of_ble_eq_true rfl, Nat.le_of_ble_eq_true rfl⟩) (tg_preV hAm hA hw hco (q := vwCl[7]) rfl) rfl rfl hl.1 rfl (lv_room (Nat.le_of_ble_eq_true rfl)) dL_isVerdictRight_13 ⟨Nat.le_of_ble_eq_true rfl, Nat.le_of_ble_eq_true rfl⟩) hA hw (fun r_4 G_3 H locs hp hw => ?_)
  obtain ⟨hr9, hS, hu⟩ := hp
  rw [hr9]
  try rw [← hA9]
  try rw [← hB9]
  have hco := (hu 8 (by omega)).trans hco
  have hI := hI.scr (fun t9 h9 => hu t9 (by omega))
  have HO := fun (t9 : Nat) (h9 : t9 < 15 ∨ 31 ≤ t9) => (hu t9 (by omega)).trans (HO t9 h9)
  refine rc_topi (nI (crs A9 B9)) (scI_eq A9 B9) ?_
  refine lv_istore (lv' := [(6, .int (nI (crs A9 B9))), (5, .int (nI (outD v A9 B9))), (0, .ref (ad 8)), (1, .int (nI a0)), (2, .int (nI b0)), (3, .int (nI (vN v 0))), (4, .int (nI (vN v 1)))]) hx hb dL_isVerdictRight_16 hl (by decide) rfl (fun ls hl => ?_)
  refine lv_aload_n hx hb dL_isVerdictRight_18 rfl (lv_at hl 2 rfl) ?_
  refine lv_iload_n hx hb dL_isVerdictRight_19 rfl (lv_at hl 3 rfl) ?_
  refine lv_iload_n hx hb dL_isVerdictRight_20 rfl (lv_at hl 4 rfl) ?_
  refine lv_iconst (v := 2) hx hb dL_isVerdictRight_21 (by decide) ?_
  refine tg_calli (va_runV (As := [.int (nI a0), .int (nI b0), .int 2]) (rest := []) (Ts := []) ⟨hx, hb, hml, hown, fun _ h9 => absurd h9 List.not_mem_nil⟩ (pu_verdict2 l E _ ad v G_3 hI hS a0 b0 (by omega) (by omega)) (rc_cwV hAm qw_771 qw_1 qw_774 qw_772 qw_773 rfl rfl hd_X6_verdict ⟨Nat.le_of_ble_eq_true rfl, Nat.le_of_ble_eq_true rfl⟩) (tg_preV hAm hA hw hco (q := vwCl[7]) rfl) rfl rfl hl.1 rfl (lv_room (Nat.le_of_ble_eq_true rfl)) dL_isVerdictRight_22 ⟨Nat.le_of_ble_eq_true rfl, Nat.le_of_ble_eq_true rfl⟩) hA hw (fun r_6 G_5 H locs hp hw => ?_)
  obtain ⟨hr9, hS, hu⟩ := hp
  rw [hr9]
  try rw [← hA9]
  try rw [← hB9]
  have hco := (hu 8 (by omega)).trans hco
  have hI := hI.scr (fun t9 h9 => hu t9 (by omega))
  have HO := fun (t9 : Nat) (h9 : t9 < 15 ∨ 31 ≤ t9) => (hu t9 (by omega)).trans (HO t9 h9)
  refine lv_istore (lv' := [(7, .int (nI (hiN A9 B9))), (6, .int (nI (crs A9 B9))), (5, .int (nI (outD v A9 B9))), (0, .ref (ad 8)), (1, .int (nI a0)), (2, .int (nI b0)), (3, .int (nI (vN v 0))), (4, .int (nI (vN v 1)))]) hx hb dL_isVerdictRight_25 hl (by decide) rfl (fun ls hl => ?_)
  refine lv_aload_n hx hb dL_isVerdictRight_27 rfl (lv_at hl 3 rfl) ?_
  refine lv_iload_n hx hb dL_isVerdictRight_28 rfl (lv_at hl 4 rfl) ?_
  refine lv_iload_n hx hb dL_isVerdictRight_29 rfl (lv_at hl 5 rfl) ?_
  refine lv_iconst (v := 3) hx hb dL_isVerdictRight_30 (by decide) ?_
  refine tg_calli (va_runV (As := [.int (nI a0), .int (nI b0), .int 3]) (rest := []) (Ts := []) ⟨hx, hb, hml, hown, fun _ h9 => absurd h9 List.not_mem_nil⟩ (pu_verdict3 l E _ ad v G_5 hI hS a0 b0 (by omega) (by omega)) (rc_cwV hAm qw_771 qw_1 qw_774 qw_772 qw_773 rfl rfl hd_X6_verdict ⟨Nat.le_of_ble_eq_true rfl, Nat.le_of_ble_eq_true rfl⟩) (tg_preV hAm hA hw hco (q := vwCl[7]) rfl) rfl rfl hl.1 rfl (lv_room (Nat.le_of_ble_eq_true rfl)) dL_isVerdictRight_31 ⟨Nat.le_of_ble_eq_true rfl, Nat.le_of_ble_eq_true rfl⟩) hA hw (fun r_8 G_7 H locs hp hw => ?_)
  obtain ⟨hr9, hS, hu⟩ := hp
  rw [hr9]
  try rw [← hA9]
  try rw [← hB9]
  have hco := (hu 8 (by omega)).trans hco
  have hI := hI.scr (fun t9 h9 => hu t9 (by omega))
  have HO := fun (t9 : Nat) (h9 : t9 < 15 ∨ 31 ≤ t9) => (hu t9 (by omega)).trans (HO t9 h9)
  refine lv_istore (lv' := [(8, .int (nI (loN A9 B9))), (7, .int (nI (hiN A9 B9))), (6, .int (nI (crs A9 B9))), (5, .int (nI (outD v A9 B9))), (0, .ref (ad 8)), (1, .int (nI a0)), (2, .int (nI b0)), (3, .int (nI (vN v 0))), (4, .int (nI (vN v 1)))]) hx hb dL_isVerdictRight_34 hl (by decide) rfl (fun ls hl => ?_)
  refine lv_aload_n hx hb dL_isVerdictRight_36 rfl (lv_at hl 4 rfl) ?_
  refine lv_iload_n hx hb dL_isVerdictRight_37 rfl (lv_at hl 5 rfl) ?_
  refine lv_iload_n hx hb dL_isVerdictRight_38 rfl (lv_at hl 6 rfl) ?_
  refine lv_iconst (v := 4) hx hb dL_isVerdictRight_39 (by decide) ?_
  refine tg_calli (va_runV (As := [.int (nI a0), .int (nI b0), .int 4]) (rest := []) (Ts := []) ⟨hx, hb, hml, hown, fun _ h9 => absurd h9 List.not_mem_nil⟩ (pu_verdict4 l E _ ad v G_7 hI hS a0 b0 (by omega) (by omega)) (rc_cwV hAm qw_771 qw_1 qw_774 qw_772 qw_773 rfl rfl hd_X6_verdict ⟨Nat.le_of_ble_eq_true rfl, Nat.le_of_ble_eq_true rfl⟩) (tg_preV hAm hA hw hco (q := vwCl[7]) rfl) rfl rfl hl.1 rfl (lv_room (Nat.le_of_ble_eq_true rfl)) dL_isVerdictRight_40 ⟨Nat.le_of_ble_eq_true rfl, Nat.le_of_ble_eq_true rfl⟩) hA hw (fun r_10 G_9 H locs hp hw => ?_)
  obtain ⟨hr9, hS, hu⟩ := hp
  rw [hr9]
  try rw [← hA9]
  try rw [← hB9]
  have hco := (hu 8 (by omega)).trans hco
  have hI := hI.scr (fun t9 h9 => hu t9 (by omega))
  have HO := fun (t9 : Nat) (h9 : t9 < 15 ∨ 31 ≤ t9) => (hu t9 (by omega)).trans (HO t9 h9)
  refine lv_istore (lv' := [(9, .int (nI (alN A9 B9))), (8, .int (nI (loN A9 B9))), (7, .int (nI (hiN A9 B9))), (6, .int (nI (crs A9 B9))), (5, .int (nI (outD v A9 B9))), (0, .ref (ad 8)), (1, .int (nI a0)), (2, .int (nI b0)), (3, .int (nI (vN v 0))), (4, .int (nI (vN v 1)))]) hx hb dL_isVerdictRight_43 hl (by decide) rfl (fun ls hl => ?_)
  refine lv_aload_n hx hb dL_isVerdictRight_45 rfl (lv_at hl 5 rfl) ?_
  refine lv_iload_n hx hb dL_isVerdictRight_46 rfl (lv_at hl 6 rfl) ?_
  refine lv_iconst (v := 1) hx hb dL_isVerdictRight_47 (by decide) ?_
  refine tg_calli (va_runV (As := [.int (nI a0), .int 1]) (rest := []) (Ts := []) ⟨hx, hb, hml, hown, fun _ h9 => absurd h9 List.not_mem_nil⟩ (pu_ofChange1 l E _ ad v G_9 hI hS a0 (by omega)) (rc_cwV hAm qw_709 qw_1 qw_712 qw_710 qw_711 rfl rfl hd_X6_ofChange ⟨Nat.le_of_ble_eq_true rfl, Nat.le_of_ble_eq_true rfl⟩) (tg_preV hAm hA hw hco (q := vwCl[7]) rfl) rfl rfl hl.1 rfl (lv_room (Nat.le_of_ble_eq_true rfl)) dL_isVerdictRight_48 ⟨Nat.le_of_ble_eq_true rfl, Nat.le_of_ble_eq_true rfl⟩) hA hw (fun r_12 G_11 H locs hp hw => ?_)
  obtain ⟨hr9, hS, hu⟩ := hp
  rw [hr9]
  try rw [← hA9]
  try rw [← hB9]
  have hco := (hu 8 (by omega)).trans hco
  have hI := hI.scr (fun t9 h9 => hu t9 (by omega))
  have HO := fun (t9 : Nat) (h9 : t9 < 15 ∨ 31 ≤ t9) => (hu t9 (by omega)).trans (HO t9 h9)
  refine lv_istore (lv' := [(10, .int (nI A9.length)), (9, .int (nI (alN A9 B9))), (8, .int (nI (loN A9 B9))), (7, .int (nI (hiN A9 B9))), (6, .int (nI (crs A9 B9))), (5, .int (nI (outD v A9 B9))), (0, .ref (ad 8)), (1, .int (nI a0)), (2, .int (nI b0)), (3, .int (nI (vN v 0))), (4, .int (nI (vN v 1)))]) hx hb dL_isVerdictRight_51 hl (by decide) rfl (fun ls hl => ?_)
  refine lv_aload_n hx hb dL_isVerdictRight_53 rfl (lv_at hl 6 rfl) ?_
  refine lv_iload_n hx hb dL_isVerdictRight_54 rfl (lv_at hl 8 rfl) ?_
  refine lv_iconst (v := 1) hx hb dL_isVerdictRight_55 (by decide) ?_
  refine tg_calli (va_runV (As := [.int (nI b0), .int 1]) (rest := []) (Ts := []) ⟨hx, hb, hml, hown, fun _ h9 => absurd h9 List.not_mem_nil⟩ (pu_ofChange1 l E _ ad v G_11 hI hS b0 (by omega)) (rc_cwV hAm qw_709 qw_1 qw_712 qw_710 qw_711 rfl rfl hd_X6_ofChange ⟨Nat.le_of_ble_eq_true rfl, Nat.le_of_ble_eq_true rfl⟩) (tg_preV hAm hA hw hco (q := vwCl[7]) rfl) rfl rfl hl.1 rfl (lv_room (Nat.le_of_ble_eq_true rfl)) dL_isVerdictRight_56 ⟨Nat.le_of_ble_eq_true rfl, Nat.le_of_ble_eq_true rfl⟩) hA hw (fun r_14 G_13 H locs hp hw => ?_)
  obtain ⟨hr9, hS, hu⟩ := hp
  rw [hr9]
  try rw [← hA9]
  try rw [← hB9]
  have hco := (hu 8 (by omega)).trans hco
  have hI := hI.scr (fun t9 h9 => hu t9 (by omega))
  have HO := fun (t9 : Nat) (h9 : t9 < 15 ∨ 31 ≤ t9) => (hu t9 (by omega)).trans (HO t9 h9)
  refine lv_istore (lv' := [(11, .int (nI B9.length)), (10, .int (nI A9.length)), (9, .int (nI (alN A9 B9))), (8, .int (nI (loN A9 B9))), (7, .int (nI (hiN A9 B9))), (6, .int (nI (crs A9 B9))), (5, .int (nI (outD v A9 B9))), (0, .ref (ad 8)), (1, .int (nI a0)), (2, .int (nI b0)), (3, .int (nI (vN v 0))), (4, .int (nI (vN v 1)))]) hx hb dL_isVerdictRight_59 hl (by decide) rfl (fun ls hl => ?_)
  refine lv_iload hx hb dL_isVerdictRight_61 (lv_at hl 1 rfl) ?_
  refine lv_iload_n hx hb dL_isVerdictRight_63 rfl (lv_at hl 10 rfl) ?_
  refine lv_icmp_lt (tgt := 73) hx hb dL_isVerdictRight_64 (by decide) (fun c_15 => ?_) (fun c_15 => ?_)
  · have c_15 := (nI_ltI (a := A9.length) (b := vN v 0) (by omega) (by omega)).mp c_15
    refine lv_iconst (v := 1) hx hb dL_isVerdictRight_73 (by decide) ?_
    refine lv_goto (tgt := 78) hx hb dL_isVerdictRight_74 (by decide) ?_
    refine lv_istore (lv' := [(12, .int 1), (11, .int (nI B9.length)), (10, .int (nI A9.length)), (9, .int (nI (alN A9 B9))), (8, .int (nI (loN A9 B9))), (7, .int (nI (hiN A9 B9))), (6, .int (nI (crs A9 B9))), (5, .int (nI (outD v A9 B9))), (0, .ref (ad 8)), (1, .int (nI a0)), (2, .int (nI b0)), (3, .int (nI (vN v 0))), (4, .int (nI (vN v 1)))]) hx hb dL_isVerdictRight_78 hl (by decide) rfl (fun ls hl => ?_)
    refine lv_iload hx hb dL_isVerdictRight_80 (lv_at hl 0 rfl) ?_
    refine lv_if_eq (tgt := 89) hx hb dL_isVerdictRight_82 (by decide) (fun c9 => absurd c9 (by decide)) (fun _ => ?_)
    refine lv_iconst (v := 0) hx hb dL_isVerdictRight_85 (by decide) ?_
    refine lv_goto (tgt := 144) hx hb dL_isVerdictRight_86 (by decide) ?_
    have ho : outD v A9 B9 = 0 := by unfold outD outF; (repeat' split) <;> first | rfl | omega
    refine lv_istore (lv' := [(13, .int 0), (12, .int 1), (11, .int (nI B9.length)), (10, .int (nI A9.length)), (9, .int (nI (alN A9 B9))), (8, .int (nI (loN A9 B9))), (7, .int (nI (hiN A9 B9))), (6, .int (nI (crs A9 B9))), (5, .int (nI (outD v A9 B9))), (0, .ref (ad 8)), (1, .int (nI a0)), (2, .int (nI b0)), (3, .int (nI (vN v 0))), (4, .int (nI (vN v 1)))]) hx hb dL_isVerdictRight_144 hl (by decide) rfl (fun ls hl => ?_)
    refine lv_iload hx hb dL_isVerdictRight_146 (lv_at hl 8 rfl) ?_
    refine lv_iload hx hb dL_isVerdictRight_148 (lv_at hl 0 rfl) ?_
    refine lv_icmp_ne (tgt := 253) hx hb dL_isVerdictRight_150 (by decide) (fun c9 => absurd ((nI_eq (a := outD v A9 B9) (b := 0) (by omega) (by omega)).mpr (by omega)) c9) (fun _ => ?_)
    refine lv_iload hx hb dL_isVerdictRight_153 (lv_at hl 7 rfl) ?_
    refine lv_if_lt (tgt := 253) hx hb dL_isVerdictRight_155 (by decide) (fun c9 => absurd c9 (fun z9 => absurd ((nI_ltI (a := crs A9 B9) (b := 0) (by omega) (by omega)).mp z9) (by omega))) (fun _ => ?_)
    refine lv_iload hx hb dL_isVerdictRight_158 (lv_at hl 7 rfl) ?_
    refine lv_aload_n hx hb dL_isVerdictRight_160 rfl (lv_at hl 9 rfl) ?_
    refine lv_iload_n hx hb dL_isVerdictRight_161 rfl (lv_at hl 11 rfl) ?_
    refine lv_iload_n hx hb dL_isVerdictRight_162 rfl (lv_at hl 10 rfl) ?_
    refine lv_iconst (v := 1) hx hb dL_isVerdictRight_163 (by decide) ?_
    refine tg_calli (va_runV (As := [.int (nI b0), .int (nI a0), .int 1]) (rest := [.int (nI (crs A9 B9))]) (Ts := []) ⟨hx, hb, hml, hown, fun _ h9 => absurd h9 List.not_mem_nil⟩ (pu_verdict1 l E _ ad v G_13 hI hS b0 a0 (by omega) (by omega)) (rc_cwV hAm qw_771 qw_1 qw_774 qw_772 qw_773 rfl rfl hd_X6_verdict ⟨Nat.le_of_ble_eq_true rfl, Nat.le_of_ble_eq_true rfl⟩) (tg_preV hAm hA hw hco (q := vwCl[7]) rfl) rfl rfl hl.1 rfl (lv_room (Nat.le_of_ble_eq_true rfl)) dL_isVerdictRight_164 ⟨Nat.le_of_ble_eq_true rfl, Nat.le_of_ble_eq_true rfl⟩) hA hw (fun r_17 G_16 H locs hp hw => ?_)
    obtain ⟨hr9, hS, hu⟩ := hp
    rw [hr9]
    try rw [← hA9]
    try rw [← hB9]
    have hco := (hu 8 (by omega)).trans hco
    have hI := hI.scr (fun t9 h9 => hu t9 (by omega))
    have HO := fun (t9 : Nat) (h9 : t9 < 15 ∨ 31 ≤ t9) => (hu t9 (by omega)).trans (HO t9 h9)
    refine rc_topi (nI (crs B9 A9)) (scI_eq B9 A9) ?_
    refine lv_iadd hx hb dL_isVerdictRight_167 ?_
    refine rc_topi (nI (crs A9 B9 + crs B9 A9)) (nI_add (crs A9 B9) (crs B9 A9)) ?_
    refine lv_iconst (v := 2) hx hb dL_isVerdictRight_168 (by decide) ?_
    refine lv_iload hx hb dL_isVerdictRight_169 (lv_at hl 3 rfl) ?_
    refine lv_imul hx hb dL_isVerdictRight_171 ?_
    refine rc_topi (nI (2 * A9.length)) (pk_mul 2 A9.length) ?_
    refine lv_iload hx hb dL_isVerdictRight_172 (lv_at hl 2 rfl) ?_
    refine lv_imul hx hb dL_isVerdictRight_174 ?_
    refine rc_topi (nI ((2 * A9.length) * B9.length)) (pk_mul (2 * A9.length) B9.length) ?_
    refine lv_icmp_ne (tgt := 253) hx hb dL_isVerdictRight_175 (by decide) (fun c9 => absurd ((nI_eq (a := crs A9 B9 + crs B9 A9) (b := (2 * A9.length) * B9.length) (by omega) (by omega)).mpr (by omega)) c9) (fun _ => ?_)
    refine lv_iload hx hb dL_isVerdictRight_178 (lv_at hl 6 rfl) ?_
    refine lv_if_le (tgt := 253) hx hb dL_isVerdictRight_180 (by decide) (fun c9 => absurd c9 (fun z9 => absurd ((nI_leI (a := hiN A9 B9) (b := 0) (by omega) (by omega)).mp z9) (by omega))) (fun _ => ?_)
    refine lv_iload hx hb dL_isVerdictRight_183 (lv_at hl 5 rfl) ?_
    refine lv_if_le (tgt := 253) hx hb dL_isVerdictRight_185 (by decide) (fun c9 => absurd c9 (fun z9 => absurd ((nI_leI (a := loN A9 B9) (b := 0) (by omega) (by omega)).mp z9) (by omega))) (fun _ => ?_)
    refine lv_iload hx hb dL_isVerdictRight_188 (lv_at hl 6 rfl) ?_
    refine lv_iload hx hb dL_isVerdictRight_190 (lv_at hl 5 rfl) ?_
    refine lv_iadd hx hb dL_isVerdictRight_192 ?_
    refine rc_topi (nI (hiN A9 B9 + loN A9 B9)) (nI_add (hiN A9 B9) (loN A9 B9)) ?_
    refine lv_iload hx hb dL_isVerdictRight_193 (lv_at hl 4 rfl) ?_
    refine lv_icmp_le (tgt := 253) hx hb dL_isVerdictRight_195 (by decide) (fun c9 => absurd c9 (fun z9 => absurd ((nI_leI (a := hiN A9 B9 + loN A9 B9) (b := alN A9 B9) (by omega) (by omega)).mp z9) (by omega))) (fun _ => ?_)
    refine lv_iload hx hb dL_isVerdictRight_198 (lv_at hl 4 rfl) ?_
    refine lv_aload_n hx hb dL_isVerdictRight_200 rfl (lv_at hl 9 rfl) ?_
    refine lv_iload_n hx hb dL_isVerdictRight_201 rfl (lv_at hl 11 rfl) ?_
    refine lv_iload_n hx hb dL_isVerdictRight_202 rfl (lv_at hl 10 rfl) ?_
    refine lv_iconst (v := 4) hx hb dL_isVerdictRight_203 (by decide) ?_
    refine tg_calli (va_runV (As := [.int (nI b0), .int (nI a0), .int 4]) (rest := [.int (nI (alN A9 B9))]) (Ts := []) ⟨hx, hb, hml, hown, fun _ h9 => absurd h9 List.not_mem_nil⟩ (pu_verdict4 l E _ ad v G_16 hI hS b0 a0 (by omega) (by omega)) (rc_cwV hAm qw_771 qw_1 qw_774 qw_772 qw_773 rfl rfl hd_X6_verdict ⟨Nat.le_of_ble_eq_true rfl, Nat.le_of_ble_eq_true rfl⟩) (tg_preV hAm hA hw hco (q := vwCl[7]) rfl) rfl rfl hl.1 rfl (lv_room (Nat.le_of_ble_eq_true rfl)) dL_isVerdictRight_204 ⟨Nat.le_of_ble_eq_true rfl, Nat.le_of_ble_eq_true rfl⟩) hA hw (fun r_19 G_18 H locs hp hw => ?_)
    obtain ⟨hr9, hS, hu⟩ := hp
    rw [hr9]
    try rw [← hA9]
    try rw [← hB9]
    have hco := (hu 8 (by omega)).trans hco
    have hI := hI.scr (fun t9 h9 => hu t9 (by omega))
    have HO := fun (t9 : Nat) (h9 : t9 < 15 ∨ 31 ≤ t9) => (hu t9 (by omega)).trans (HO t9 h9)
    refine lv_icmp_ne (tgt := 253) hx hb dL_isVerdictRight_207 (by decide) (fun c9 => absurd ((nI_eq (a := alN A9 B9) (b := alN B9 A9) (by omega) (by omega)).mpr (by omega)) c9) (fun _ => ?_)
    refine lv_aload_n hx hb dL_isVerdictRight_210 rfl (lv_at hl 9 rfl) ?_
    refine lv_iload_n hx hb dL_isVerdictRight_211 rfl (lv_at hl 10 rfl) ?_
    refine lv_iload_n hx hb dL_isVerdictRight_212 rfl (lv_at hl 11 rfl) ?_
    refine tg_calld (va_runV (As := [.int (nI a0), .int (nI b0)]) (rest := []) (Ts := []) ⟨hx, hb, hml, hown, fun _ h9 => absurd h9 List.not_mem_nil⟩ (pu_doubt l E _ ad v G_18 hI hS a0 b0 (by omega) (by omega)) (rc_cwV hAm qw_775 qw_1 qw_778 qw_776 qw_777 rfl rfl hd_X6_doubt ⟨Nat.le_of_ble_eq_true rfl, Nat.le_of_ble_eq_true rfl⟩) (tg_preV hAm hA hw hco (q := vwCl[7]) rfl) rfl rfl hl.1 rfl (lv_room (Nat.le_of_ble_eq_true rfl)) dL_isVerdictRight_213 ⟨Nat.le_of_ble_eq_true rfl, Nat.le_of_ble_eq_true rfl⟩) hA hw (fun r_21 G_20 H locs hp hw => ?_)
    obtain ⟨hr9, hS, hu⟩ := hp
    rw [hr9]
    try rw [← hA9]
    try rw [← hB9]
    have hco := (hu 8 (by omega)).trans hco
    have hI := hI.scr (fun t9 h9 => hu t9 (by omega))
    have HO := fun (t9 : Nat) (h9 : t9 < 15 ∨ 31 ≤ t9) => (hu t9 (by omega)).trans (HO t9 h9)
    refine lv_iload hx hb dL_isVerdictRight_216 (lv_at hl 4 rfl) ?_
    refine lv_i2d hx hb dL_isVerdictRight_218 ?_
    refine lv_dmul hx hb dL_isVerdictRight_219 hdb.1 ?_
    refine rc_topd (dq (hiN A9 B9) (alN A9 B9)) rfl ?_
    refine lv_iload hx hb dL_isVerdictRight_220 (lv_at hl 6 rfl) ?_
    refine lv_i2d hx hb dL_isVerdictRight_222 ?_
    refine lv_dsub hx hb dL_isVerdictRight_223 hdb.2.1 ?_
    refine rc_topd (dr (hiN A9 B9) (alN A9 B9)) rfl ?_
    refine la_absD hx hb (by rw [hml]; exact hl.1.symm) hown (hAm.wd qw_783 rfl rfl) (hAm.wd qw_784 rfl rfl) (hAm.wd qw_10 rfl rfl) (hAm.wd qw_785 rfl rfl) (Nat.le_of_ble_eq_true rfl) (Nat.le_of_ble_eq_true rfl) (Nat.le_of_ble_eq_true rfl) (Nat.le_of_ble_eq_true rfl) hdb.2.1 dL_isVerdictRight_224 ?_
    refine lv_ldc2d (v := 4562254508917369340) hx hb hown (hAm.wd qw_793 rfl rfl) dL_isVerdictRight_227 ?_
    refine lv_dcmp hx hb dL_isVerdictRight_230 ?_
    refine lv_if_ge (tgt := 253) hx hb dL_isVerdictRight_231 (by decide) (fun c9 => absurd c9 hdb.2.2) (fun _ => ?_)
    refine lv_iload_n hx hb dL_isVerdictRight_234 rfl (lv_at hl 10 rfl) ?_
    refine lv_iload_n hx hb dL_isVerdictRight_235 rfl (lv_at hl 11 rfl) ?_
    refine lv_icmp_ne (tgt := 249) hx hb dL_isVerdictRight_236 (by decide) (fun c_22 => ?_) (fun c_22 => ?_)
    · have c_22 := mt (nI_eq (a := a0) (b := b0) (by omega) (by omega)).mpr c_22
      refine lv_iconst (v := 1) hx hb dL_isVerdictRight_249 (by decide) ?_
      refine lv_goto (tgt := 254) hx hb dL_isVerdictRight_250 (by decide) ?_
      exact tg_zret hx hb hr hlocks hw rfl (⟨rfl, hS, HO⟩) (Nat.le_of_ble_eq_true rfl) (Nat.le_of_ble_eq_true rfl) dL_isVerdictRight_254
    · have c_22 := (nI_eq (a := a0) (b := b0) (by omega) (by omega)).mp c_22
      have hss : crs A9 B9 = A9.length * A9.length := by rw [hB9, ← (show a0 = b0 by omega), ← hA9]; exact crs_self A9
      refine lv_iload hx hb dL_isVerdictRight_239 (lv_at hl 7 rfl) ?_
      refine lv_iload hx hb dL_isVerdictRight_241 (lv_at hl 3 rfl) ?_
      refine lv_iload hx hb dL_isVerdictRight_243 (lv_at hl 3 rfl) ?_
      refine lv_imul hx hb dL_isVerdictRight_245 ?_
      refine rc_topi (nI (A9.length * A9.length)) (pk_mul A9.length A9.length) ?_
      refine lv_icmp_ne (tgt := 253) hx hb dL_isVerdictRight_246 (by decide) (fun c9 => absurd ((nI_eq (a := crs A9 B9) (b := A9.length * A9.length) (by omega) (by omega)).mpr (by omega)) c9) (fun _ => ?_)
      refine lv_iconst (v := 1) hx hb dL_isVerdictRight_249 (by decide) ?_
      refine lv_goto (tgt := 254) hx hb dL_isVerdictRight_250 (by decide) ?_
      exact tg_zret hx hb hr hlocks hw rfl (⟨rfl, hS, HO⟩) (Nat.le_of_ble_eq_true rfl) (Nat.le_of_ble_eq_true rfl) dL_isVerdictRight_254
  · have c_15 := mt (nI_ltI (a := A9.length) (b := vN v 0) (by omega) (by omega)).mpr c_15
    refine lv_iload hx hb dL_isVerdictRight_67 (lv_at hl 0 rfl) ?_
    refine lv_iload_n hx hb dL_isVerdictRight_69 rfl (lv_at hl 10 rfl) ?_
    refine lv_icmp_ge (tgt := 77) hx hb dL_isVerdictRight_70 (by decide) (fun c_23 => ?_) (fun c_23 => ?_)
    · have c_23 := (nI_leI (a := vN v 0) (b := B9.length) (by omega) (by omega)).mp c_23
      refine lv_iconst (v := 0) hx hb dL_isVerdictRight_77 (by decide) ?_
      refine lv_istore (lv' := [(12, .int 0), (11, .int (nI B9.length)), (10, .int (nI A9.length)), (9, .int (nI (alN A9 B9))), (8, .int (nI (loN A9 B9))), (7, .int (nI (hiN A9 B9))), (6, .int (nI (crs A9 B9))), (5, .int (nI (outD v A9 B9))), (0, .ref (ad 8)), (1, .int (nI a0)), (2, .int (nI b0)), (3, .int (nI (vN v 0))), (4, .int (nI (vN v 1)))]) hx hb dL_isVerdictRight_78 hl (by decide) rfl (fun ls hl => ?_)
      refine lv_iload hx hb dL_isVerdictRight_80 (lv_at hl 0 rfl) ?_
      refine lv_if_eq (tgt := 89) hx hb dL_isVerdictRight_82 (by decide) (fun _ => ?_) (fun c9 => absurd (by decide) c9)
      refine lv_iload hx hb dL_isVerdictRight_89 (lv_at hl 5 rfl) ?_
      refine lv_sipush (v := 1000) hx hb dL_isVerdictRight_91 (by decide) ?_
      refine lv_imul hx hb dL_isVerdictRight_94 ?_
      refine rc_topi (nI ((hiN A9 B9) * 1000)) (pk_mul (hiN A9 B9) 1000) ?_
      refine lv_iload hx hb dL_isVerdictRight_95 (lv_at hl 12 rfl) ?_
      refine lv_iload hx hb dL_isVerdictRight_97 (lv_at hl 3 rfl) ?_
      refine lv_imul hx hb dL_isVerdictRight_99 ?_
      refine rc_topi (nI ((vN v 1) * (alN A9 B9))) (pk_mul (vN v 1) (alN A9 B9)) ?_
      refine lv_icmp_gt (tgt := 107) hx hb dL_isVerdictRight_100 (by decide) (fun c_24 => ?_) (fun c_24 => ?_)
      · have c_24 := (nI_ltI (a := (vN v 1) * (alN A9 B9)) (b := (hiN A9 B9) * 1000) (by omega) (by omega)).mp c_24
        refine lv_iload hx hb dL_isVerdictRight_107 (lv_at hl 4 rfl) ?_
        refine lv_sipush (v := 1000) hx hb dL_isVerdictRight_109 (by decide) ?_
        refine lv_imul hx hb dL_isVerdictRight_112 ?_
        refine rc_topi (nI ((loN A9 B9) * 1000)) (pk_mul (loN A9 B9) 1000) ?_
        refine lv_iload hx hb dL_isVerdictRight_113 (lv_at hl 12 rfl) ?_
        refine lv_iload hx hb dL_isVerdictRight_115 (lv_at hl 3 rfl) ?_
        refine lv_imul hx hb dL_isVerdictRight_117 ?_
        refine rc_topi (nI ((vN v 1) * (alN A9 B9))) (pk_mul (vN v 1) (alN A9 B9)) ?_
        refine lv_icmp_gt (tgt := 125) hx hb dL_isVerdictRight_118 (by decide) (fun c_25 => ?_) (fun c_25 => ?_)
        · have c_25 := (nI_ltI (a := (vN v 1) * (alN A9 B9)) (b := (loN A9 B9) * 1000) (by omega) (by omega)).mp c_25
          refine lv_iload hx hb dL_isVerdictRight_125 (lv_at hl 2 rfl) ?_
          refine lv_bipush (v := 6) hx hb dL_isVerdictRight_127 (by decide) ?_
          refine lv_icmp_ne (tgt := 143) hx hb dL_isVerdictRight_129 (by decide) (fun c_26 => ?_) (fun c_26 => ?_)
          · have c_26 := mt (nI_eq (a := A9.length) (b := 6) (by omega) (by omega)).mpr c_26
            refine lv_iconst (v := 4) hx hb dL_isVerdictRight_143 (by decide) ?_
            have ho : outD v A9 B9 = 4 := by unfold outD outF; (repeat' split) <;> first | rfl | omega
            refine lv_istore (lv' := [(13, .int 4), (12, .int 0), (11, .int (nI B9.length)), (10, .int (nI A9.length)), (9, .int (nI (alN A9 B9))), (8, .int (nI (loN A9 B9))), (7, .int (nI (hiN A9 B9))), (6, .int (nI (crs A9 B9))), (5, .int (nI (outD v A9 B9))), (0, .ref (ad 8)), (1, .int (nI a0)), (2, .int (nI b0)), (3, .int (nI (vN v 0))), (4, .int (nI (vN v 1)))]) hx hb dL_isVerdictRight_144 hl (by decide) rfl (fun ls hl => ?_)
            refine lv_iload hx hb dL_isVerdictRight_146 (lv_at hl 8 rfl) ?_
            refine lv_iload hx hb dL_isVerdictRight_148 (lv_at hl 0 rfl) ?_
            refine lv_icmp_ne (tgt := 253) hx hb dL_isVerdictRight_150 (by decide) (fun c9 => absurd ((nI_eq (a := outD v A9 B9) (b := 4) (by omega) (by omega)).mpr (by omega)) c9) (fun _ => ?_)
            refine lv_iload hx hb dL_isVerdictRight_153 (lv_at hl 7 rfl) ?_
            refine lv_if_lt (tgt := 253) hx hb dL_isVerdictRight_155 (by decide) (fun c9 => absurd c9 (fun z9 => absurd ((nI_ltI (a := crs A9 B9) (b := 0) (by omega) (by omega)).mp z9) (by omega))) (fun _ => ?_)
            refine lv_iload hx hb dL_isVerdictRight_158 (lv_at hl 7 rfl) ?_
            refine lv_aload_n hx hb dL_isVerdictRight_160 rfl (lv_at hl 9 rfl) ?_
            refine lv_iload_n hx hb dL_isVerdictRight_161 rfl (lv_at hl 11 rfl) ?_
            refine lv_iload_n hx hb dL_isVerdictRight_162 rfl (lv_at hl 10 rfl) ?_
            refine lv_iconst (v := 1) hx hb dL_isVerdictRight_163 (by decide) ?_
            refine tg_calli (va_runV (As := [.int (nI b0), .int (nI a0), .int 1]) (rest := [.int (nI (crs A9 B9))]) (Ts := []) ⟨hx, hb, hml, hown, fun _ h9 => absurd h9 List.not_mem_nil⟩ (pu_verdict1 l E _ ad v G_13 hI hS b0 a0 (by omega) (by omega)) (rc_cwV hAm qw_771 qw_1 qw_774 qw_772 qw_773 rfl rfl hd_X6_verdict ⟨Nat.le_of_ble_eq_true rfl, Nat.le_of_ble_eq_true rfl⟩) (tg_preV hAm hA hw hco (q := vwCl[7]) rfl) rfl rfl hl.1 rfl (lv_room (Nat.le_of_ble_eq_true rfl)) dL_isVerdictRight_164 ⟨Nat.le_of_ble_eq_true rfl, Nat.le_of_ble_eq_true rfl⟩) hA hw (fun r_28 G_27 H locs hp hw => ?_)
            obtain ⟨hr9, hS, hu⟩ := hp
            rw [hr9]
            try rw [← hA9]
            try rw [← hB9]
            have hco := (hu 8 (by omega)).trans hco
            have hI := hI.scr (fun t9 h9 => hu t9 (by omega))
            have HO := fun (t9 : Nat) (h9 : t9 < 15 ∨ 31 ≤ t9) => (hu t9 (by omega)).trans (HO t9 h9)
            refine rc_topi (nI (crs B9 A9)) (scI_eq B9 A9) ?_
            refine lv_iadd hx hb dL_isVerdictRight_167 ?_
            refine rc_topi (nI (crs A9 B9 + crs B9 A9)) (nI_add (crs A9 B9) (crs B9 A9)) ?_
            refine lv_iconst (v := 2) hx hb dL_isVerdictRight_168 (by decide) ?_
            refine lv_iload hx hb dL_isVerdictRight_169 (lv_at hl 3 rfl) ?_
            refine lv_imul hx hb dL_isVerdictRight_171 ?_
            refine rc_topi (nI (2 * A9.length)) (pk_mul 2 A9.length) ?_
            refine lv_iload hx hb dL_isVerdictRight_172 (lv_at hl 2 rfl) ?_
            refine lv_imul hx hb dL_isVerdictRight_174 ?_
            refine rc_topi (nI ((2 * A9.length) * B9.length)) (pk_mul (2 * A9.length) B9.length) ?_
            refine lv_icmp_ne (tgt := 253) hx hb dL_isVerdictRight_175 (by decide) (fun c9 => absurd ((nI_eq (a := crs A9 B9 + crs B9 A9) (b := (2 * A9.length) * B9.length) (by omega) (by omega)).mpr (by omega)) c9) (fun _ => ?_)
            refine lv_iload hx hb dL_isVerdictRight_178 (lv_at hl 6 rfl) ?_
            refine lv_if_le (tgt := 253) hx hb dL_isVerdictRight_180 (by decide) (fun c9 => absurd c9 (fun z9 => absurd ((nI_leI (a := hiN A9 B9) (b := 0) (by omega) (by omega)).mp z9) (by omega))) (fun _ => ?_)
            refine lv_iload hx hb dL_isVerdictRight_183 (lv_at hl 5 rfl) ?_
            refine lv_if_le (tgt := 253) hx hb dL_isVerdictRight_185 (by decide) (fun c9 => absurd c9 (fun z9 => absurd ((nI_leI (a := loN A9 B9) (b := 0) (by omega) (by omega)).mp z9) (by omega))) (fun _ => ?_)
            refine lv_iload hx hb dL_isVerdictRight_188 (lv_at hl 6 rfl) ?_
            refine lv_iload hx hb dL_isVerdictRight_190 (lv_at hl 5 rfl) ?_
            refine lv_iadd hx hb dL_isVerdictRight_192 ?_
            refine rc_topi (nI (hiN A9 B9 + loN A9 B9)) (nI_add (hiN A9 B9) (loN A9 B9)) ?_
            refine lv_iload hx hb dL_isVerdictRight_193 (lv_at hl 4 rfl) ?_
            refine lv_icmp_le (tgt := 253) hx hb dL_isVerdictRight_195 (by decide) (fun c9 => absurd c9 (fun z9 => absurd ((nI_leI (a := hiN A9 B9 + loN A9 B9) (b := alN A9 B9) (by omega) (by omega)).mp z9) (by omega))) (fun _ => ?_)
            refine lv_iload hx hb dL_isVerdictRight_198 (lv_at hl 4 rfl) ?_
            refine lv_aload_n hx hb dL_isVerdictRight_200 rfl (lv_at hl 9 rfl) ?_
            refine lv_iload_n hx hb dL_isVerdictRight_201 rfl (lv_at hl 11 rfl) ?_
            refine lv_iload_n hx hb dL_isVerdictRight_202 rfl (lv_at hl 10 rfl) ?_
            refine lv_iconst (v := 4) hx hb dL_isVerdictRight_203 (by decide) ?_
            refine tg_calli (va_runV (As := [.int (nI b0), .int (nI a0), .int 4]) (rest := [.int (nI (alN A9 B9))]) (Ts := []) ⟨hx, hb, hml, hown, fun _ h9 => absurd h9 List.not_mem_nil⟩ (pu_verdict4 l E _ ad v G_27 hI hS b0 a0 (by omega) (by omega)) (rc_cwV hAm qw_771 qw_1 qw_774 qw_772 qw_773 rfl rfl hd_X6_verdict ⟨Nat.le_of_ble_eq_true rfl, Nat.le_of_ble_eq_true rfl⟩) (tg_preV hAm hA hw hco (q := vwCl[7]) rfl) rfl rfl hl.1 rfl (lv_room (Nat.le_of_ble_eq_true rfl)) dL_isVerdictRight_204 ⟨Nat.le_of_ble_eq_true rfl, Nat.le_of_ble_eq_true rfl⟩) hA hw (fun r_30 G_29 H locs hp hw => ?_)
            obtain ⟨hr9, hS, hu⟩ := hp
            rw [hr9]
            try rw [← hA9]
            try rw [← hB9]
            have hco := (hu 8 (by omega)).trans hco
            have hI := hI.scr (fun t9 h9 => hu t9 (by omega))
            have HO := fun (t9 : Nat) (h9 : t9 < 15 ∨ 31 ≤ t9) => (hu t9 (by omega)).trans (HO t9 h9)
            refine lv_icmp_ne (tgt := 253) hx hb dL_isVerdictRight_207 (by decide) (fun c9 => absurd ((nI_eq (a := alN A9 B9) (b := alN B9 A9) (by omega) (by omega)).mpr (by omega)) c9) (fun _ => ?_)
            refine lv_aload_n hx hb dL_isVerdictRight_210 rfl (lv_at hl 9 rfl) ?_
            refine lv_iload_n hx hb dL_isVerdictRight_211 rfl (lv_at hl 10 rfl) ?_
            refine lv_iload_n hx hb dL_isVerdictRight_212 rfl (lv_at hl 11 rfl) ?_
            refine tg_calld (va_runV (As := [.int (nI a0), .int (nI b0)]) (rest := []) (Ts := []) ⟨hx, hb, hml, hown, fun _ h9 => absurd h9 List.not_mem_nil⟩ (pu_doubt l E _ ad v G_29 hI hS a0 b0 (by omega) (by omega)) (rc_cwV hAm qw_775 qw_1 qw_778 qw_776 qw_777 rfl rfl hd_X6_doubt ⟨Nat.le_of_ble_eq_true rfl, Nat.le_of_ble_eq_true rfl⟩) (tg_preV hAm hA hw hco (q := vwCl[7]) rfl) rfl rfl hl.1 rfl (lv_room (Nat.le_of_ble_eq_true rfl)) dL_isVerdictRight_213 ⟨Nat.le_of_ble_eq_true rfl, Nat.le_of_ble_eq_true rfl⟩) hA hw (fun r_32 G_31 H locs hp hw => ?_)
            obtain ⟨hr9, hS, hu⟩ := hp
            rw [hr9]
            try rw [← hA9]
            try rw [← hB9]
            have hco := (hu 8 (by omega)).trans hco
            have hI := hI.scr (fun t9 h9 => hu t9 (by omega))
            have HO := fun (t9 : Nat) (h9 : t9 < 15 ∨ 31 ≤ t9) => (hu t9 (by omega)).trans (HO t9 h9)
            refine lv_iload hx hb dL_isVerdictRight_216 (lv_at hl 4 rfl) ?_
            refine lv_i2d hx hb dL_isVerdictRight_218 ?_
            refine lv_dmul hx hb dL_isVerdictRight_219 hdb.1 ?_
            refine rc_topd (dq (hiN A9 B9) (alN A9 B9)) rfl ?_
            refine lv_iload hx hb dL_isVerdictRight_220 (lv_at hl 6 rfl) ?_
            refine lv_i2d hx hb dL_isVerdictRight_222 ?_
            refine lv_dsub hx hb dL_isVerdictRight_223 hdb.2.1 ?_
            refine rc_topd (dr (hiN A9 B9) (alN A9 B9)) rfl ?_
            refine la_absD hx hb (by rw [hml]; exact hl.1.symm) hown (hAm.wd qw_783 rfl rfl) (hAm.wd qw_784 rfl rfl) (hAm.wd qw_10 rfl rfl) (hAm.wd qw_785 rfl rfl) (Nat.le_of_ble_eq_true rfl) (Nat.le_of_ble_eq_true rfl) (Nat.le_of_ble_eq_true rfl) (Nat.le_of_ble_eq_true rfl) hdb.2.1 dL_isVerdictRight_224 ?_
            refine lv_ldc2d (v := 4562254508917369340) hx hb hown (hAm.wd qw_793 rfl rfl) dL_isVerdictRight_227 ?_
            refine lv_dcmp hx hb dL_isVerdictRight_230 ?_
            refine lv_if_ge (tgt := 253) hx hb dL_isVerdictRight_231 (by decide) (fun c9 => absurd c9 hdb.2.2) (fun _ => ?_)
            refine lv_iload_n hx hb dL_isVerdictRight_234 rfl (lv_at hl 10 rfl) ?_
            refine lv_iload_n hx hb dL_isVerdictRight_235 rfl (lv_at hl 11 rfl) ?_
            refine lv_icmp_ne (tgt := 249) hx hb dL_isVerdictRight_236 (by decide) (fun c_33 => ?_) (fun c_33 => ?_)
            · have c_33 := mt (nI_eq (a := a0) (b := b0) (by omega) (by omega)).mpr c_33
              refine lv_iconst (v := 1) hx hb dL_isVerdictRight_249 (by decide) ?_
              refine lv_goto (tgt := 254) hx hb dL_isVerdictRight_250 (by decide) ?_
              exact tg_zret hx hb hr hlocks hw rfl (⟨rfl, hS, HO⟩) (Nat.le_of_ble_eq_true rfl) (Nat.le_of_ble_eq_true rfl) dL_isVerdictRight_254
            · have c_33 := (nI_eq (a := a0) (b := b0) (by omega) (by omega)).mp c_33
              have hss : crs A9 B9 = A9.length * A9.length := by rw [hB9, ← (show a0 = b0 by omega), ← hA9]; exact crs_self A9
              refine lv_iload hx hb dL_isVerdictRight_239 (lv_at hl 7 rfl) ?_
              refine lv_iload hx hb dL_isVerdictRight_241 (lv_at hl 3 rfl) ?_
              refine lv_iload hx hb dL_isVerdictRight_243 (lv_at hl 3 rfl) ?_
              refine lv_imul hx hb dL_isVerdictRight_245 ?_
              refine rc_topi (nI (A9.length * A9.length)) (pk_mul A9.length A9.length) ?_
              refine lv_icmp_ne (tgt := 253) hx hb dL_isVerdictRight_246 (by decide) (fun c9 => absurd ((nI_eq (a := crs A9 B9) (b := A9.length * A9.length) (by omega) (by omega)).mpr (by omega)) c9) (fun _ => ?_)
              refine lv_iconst (v := 1) hx hb dL_isVerdictRight_249 (by decide) ?_
              refine lv_goto (tgt := 254) hx hb dL_isVerdictRight_250 (by decide) ?_
              exact tg_zret hx hb hr hlocks hw rfl (⟨rfl, hS, HO⟩) (Nat.le_of_ble_eq_true rfl) (Nat.le_of_ble_eq_true rfl) dL_isVerdictRight_254
          · have c_26 := (nI_eq (a := A9.length) (b := 6) (by omega) (by omega)).mp c_26
            refine lv_iload hx hb dL_isVerdictRight_132 (lv_at hl 1 rfl) ?_
            refine lv_bipush (v := 6) hx hb dL_isVerdictRight_134 (by decide) ?_
            refine lv_icmp_ne (tgt := 143) hx hb dL_isVerdictRight_136 (by decide) (fun c_34 => ?_) (fun c_34 => ?_)
            · have c_34 := mt (nI_eq (a := B9.length) (b := 6) (by omega) (by omega)).mpr c_34
              refine lv_iconst (v := 4) hx hb dL_isVerdictRight_143 (by decide) ?_
              have ho : outD v A9 B9 = 4 := by unfold outD outF; (repeat' split) <;> first | rfl | omega
              refine lv_istore (lv' := [(13, .int 4), (12, .int 0), (11, .int (nI B9.length)), (10, .int (nI A9.length)), (9, .int (nI (alN A9 B9))), (8, .int (nI (loN A9 B9))), (7, .int (nI (hiN A9 B9))), (6, .int (nI (crs A9 B9))), (5, .int (nI (outD v A9 B9))), (0, .ref (ad 8)), (1, .int (nI a0)), (2, .int (nI b0)), (3, .int (nI (vN v 0))), (4, .int (nI (vN v 1)))]) hx hb dL_isVerdictRight_144 hl (by decide) rfl (fun ls hl => ?_)
              refine lv_iload hx hb dL_isVerdictRight_146 (lv_at hl 8 rfl) ?_
              refine lv_iload hx hb dL_isVerdictRight_148 (lv_at hl 0 rfl) ?_
              refine lv_icmp_ne (tgt := 253) hx hb dL_isVerdictRight_150 (by decide) (fun c9 => absurd ((nI_eq (a := outD v A9 B9) (b := 4) (by omega) (by omega)).mpr (by omega)) c9) (fun _ => ?_)
              refine lv_iload hx hb dL_isVerdictRight_153 (lv_at hl 7 rfl) ?_
              refine lv_if_lt (tgt := 253) hx hb dL_isVerdictRight_155 (by decide) (fun c9 => absurd c9 (fun z9 => absurd ((nI_ltI (a := crs A9 B9) (b := 0) (by omega) (by omega)).mp z9) (by omega))) (fun _ => ?_)
              refine lv_iload hx hb dL_isVerdictRight_158 (lv_at hl 7 rfl) ?_
              refine lv_aload_n hx hb dL_isVerdictRight_160 rfl (lv_at hl 9 rfl) ?_
              refine lv_iload_n hx hb dL_isVerdictRight_161 rfl (lv_at hl 11 rfl) ?_
              refine lv_iload_n hx hb dL_isVerdictRight_162 rfl (lv_at hl 10 rfl) ?_
              refine lv_iconst (v := 1) hx hb dL_isVerdictRight_163 (by decide) ?_
              refine tg_calli (va_runV (As := [.int (nI b0), .int (nI a0), .int 1]) (rest := [.int (nI (crs A9 B9))]) (Ts := []) ⟨hx, hb, hml, hown, fun _ h9 => absurd h9 List.not_mem_nil⟩ (pu_verdict1 l E _ ad v G_13 hI hS b0 a0 (by omega) (by omega)) (rc_cwV hAm qw_771 qw_1 qw_774 qw_772 qw_773 rfl rfl hd_X6_verdict ⟨Nat.le_of_ble_eq_true rfl, Nat.le_of_ble_eq_true rfl⟩) (tg_preV hAm hA hw hco (q := vwCl[7]) rfl) rfl rfl hl.1 rfl (lv_room (Nat.le_of_ble_eq_true rfl)) dL_isVerdictRight_164 ⟨Nat.le_of_ble_eq_true rfl, Nat.le_of_ble_eq_true rfl⟩) hA hw (fun r_36 G_35 H locs hp hw => ?_)
              obtain ⟨hr9, hS, hu⟩ := hp
              rw [hr9]
              try rw [← hA9]
              try rw [← hB9]
              have hco := (hu 8 (by omega)).trans hco
              have hI := hI.scr (fun t9 h9 => hu t9 (by omega))
              have HO := fun (t9 : Nat) (h9 : t9 < 15 ∨ 31 ≤ t9) => (hu t9 (by omega)).trans (HO t9 h9)
              refine rc_topi (nI (crs B9 A9)) (scI_eq B9 A9) ?_
              refine lv_iadd hx hb dL_isVerdictRight_167 ?_
              refine rc_topi (nI (crs A9 B9 + crs B9 A9)) (nI_add (crs A9 B9) (crs B9 A9)) ?_
              refine lv_iconst (v := 2) hx hb dL_isVerdictRight_168 (by decide) ?_
              refine lv_iload hx hb dL_isVerdictRight_169 (lv_at hl 3 rfl) ?_
              refine lv_imul hx hb dL_isVerdictRight_171 ?_
              refine rc_topi (nI (2 * A9.length)) (pk_mul 2 A9.length) ?_
              refine lv_iload hx hb dL_isVerdictRight_172 (lv_at hl 2 rfl) ?_
              refine lv_imul hx hb dL_isVerdictRight_174 ?_
              refine rc_topi (nI ((2 * A9.length) * B9.length)) (pk_mul (2 * A9.length) B9.length) ?_
              refine lv_icmp_ne (tgt := 253) hx hb dL_isVerdictRight_175 (by decide) (fun c9 => absurd ((nI_eq (a := crs A9 B9 + crs B9 A9) (b := (2 * A9.length) * B9.length) (by omega) (by omega)).mpr (by omega)) c9) (fun _ => ?_)
              refine lv_iload hx hb dL_isVerdictRight_178 (lv_at hl 6 rfl) ?_
              refine lv_if_le (tgt := 253) hx hb dL_isVerdictRight_180 (by decide) (fun c9 => absurd c9 (fun z9 => absurd ((nI_leI (a := hiN A9 B9) (b := 0) (by omega) (by omega)).mp z9) (by omega))) (fun _ => ?_)
              refine lv_iload hx hb dL_isVerdictRight_183 (lv_at hl 5 rfl) ?_
              refine lv_if_le (tgt := 253) hx hb dL_isVerdictRight_185 (by decide) (fun c9 => absurd c9 (fun z9 => absurd ((nI_leI (a := loN A9 B9) (b := 0) (by omega) (by omega)).mp z9) (by omega))) (fun _ => ?_)
              refine lv_iload hx hb dL_isVerdictRight_188 (lv_at hl 6 rfl) ?_
              refine lv_iload hx hb dL_isVerdictRight_190 (lv_at hl 5 rfl) ?_
              refine lv_iadd hx hb dL_isVerdictRight_192 ?_
              refine rc_topi (nI (hiN A9 B9 + loN A9 B9)) (nI_add (hiN A9 B9) (loN A9 B9)) ?_
              refine lv_iload hx hb dL_isVerdictRight_193 (lv_at hl 4 rfl) ?_
              refine lv_icmp_le (tgt := 253) hx hb dL_isVerdictRight_195 (by decide) (fun c9 => absurd c9 (fun z9 => absurd ((nI_leI (a := hiN A9 B9 + loN A9 B9) (b := alN A9 B9) (by omega) (by omega)).mp z9) (by omega))) (fun _ => ?_)
              refine lv_iload hx hb dL_isVerdictRight_198 (lv_at hl 4 rfl) ?_
              refine lv_aload_n hx hb dL_isVerdictRight_200 rfl (lv_at hl 9 rfl) ?_
              refine lv_iload_n hx hb dL_isVerdictRight_201 rfl (lv_at hl 11 rfl) ?_
              refine lv_iload_n hx hb dL_isVerdictRight_202 rfl (lv_at hl 10 rfl) ?_
              refine lv_iconst (v := 4) hx hb dL_isVerdictRight_203 (by decide) ?_
              refine tg_calli (va_runV (As := [.int (nI b0), .int (nI a0), .int 4]) (rest := [.int (nI (alN A9 B9))]) (Ts := []) ⟨hx, hb, hml, hown, fun _ h9 => absurd h9 List.not_mem_nil⟩ (pu_verdict4 l E _ ad v G_35 hI hS b0 a0 (by omega) (by omega)) (rc_cwV hAm qw_771 qw_1 qw_774 qw_772 qw_773 rfl rfl hd_X6_verdict ⟨Nat.le_of_ble_eq_true rfl, Nat.le_of_ble_eq_true rfl⟩) (tg_preV hAm hA hw hco (q := vwCl[7]) rfl) rfl rfl hl.1 rfl (lv_room (Nat.le_of_ble_eq_true rfl)) dL_isVerdictRight_204 ⟨Nat.le_of_ble_eq_true rfl, Nat.le_of_ble_eq_true rfl⟩) hA hw (fun r_38 G_37 H locs hp hw => ?_)
              obtain ⟨hr9, hS, hu⟩ := hp
              rw [hr9]
              try rw [← hA9]
              try rw [← hB9]
              have hco := (hu 8 (by omega)).trans hco
              have hI := hI.scr (fun t9 h9 => hu t9 (by omega))
              have HO := fun (t9 : Nat) (h9 : t9 < 15 ∨ 31 ≤ t9) => (hu t9 (by omega)).trans (HO t9 h9)
              refine lv_icmp_ne (tgt := 253) hx hb dL_isVerdictRight_207 (by decide) (fun c9 => absurd ((nI_eq (a := alN A9 B9) (b := alN B9 A9) (by omega) (by omega)).mpr (by omega)) c9) (fun _ => ?_)
              refine lv_aload_n hx hb dL_isVerdictRight_210 rfl (lv_at hl 9 rfl) ?_
              refine lv_iload_n hx hb dL_isVerdictRight_211 rfl (lv_at hl 10 rfl) ?_
              refine lv_iload_n hx hb dL_isVerdictRight_212 rfl (lv_at hl 11 rfl) ?_
              refine tg_calld (va_runV (As := [.int (nI a0), .int (nI b0)]) (rest := []) (Ts := []) ⟨hx, hb, hml, hown, fun _ h9 => absurd h9 List.not_mem_nil⟩ (pu_doubt l E _ ad v G_37 hI hS a0 b0 (by omega) (by omega)) (rc_cwV hAm qw_775 qw_1 qw_778 qw_776 qw_777 rfl rfl hd_X6_doubt ⟨Nat.le_of_ble_eq_true rfl, Nat.le_of_ble_eq_true rfl⟩) (tg_preV hAm hA hw hco (q := vwCl[7]) rfl) rfl rfl hl.1 rfl (lv_room (Nat.le_of_ble_eq_true rfl)) dL_isVerdictRight_213 ⟨Nat.le_of_ble_eq_true rfl, Nat.le_of_ble_eq_true rfl⟩) hA hw (fun r_40 G_39 H locs hp hw => ?_)
              obtain ⟨hr9, hS, hu⟩ := hp
              rw [hr9]
              try rw [← hA9]
              try rw [← hB9]
              have hco := (hu 8 (by omega)).trans hco
              have hI := hI.scr (fun t9 h9 => hu t9 (by omega))
              have HO := fun (t9 : Nat) (h9 : t9 < 15 ∨ 31 ≤ t9) => (hu t9 (by omega)).trans (HO t9 h9)
              refine lv_iload hx hb dL_isVerdictRight_216 (lv_at hl 4 rfl) ?_
              refine lv_i2d hx hb dL_isVerdictRight_218 ?_
              refine lv_dmul hx hb dL_isVerdictRight_219 hdb.1 ?_
              refine rc_topd (dq (hiN A9 B9) (alN A9 B9)) rfl ?_
              refine lv_iload hx hb dL_isVerdictRight_220 (lv_at hl 6 rfl) ?_
              refine lv_i2d hx hb dL_isVerdictRight_222 ?_
              refine lv_dsub hx hb dL_isVerdictRight_223 hdb.2.1 ?_
              refine rc_topd (dr (hiN A9 B9) (alN A9 B9)) rfl ?_
              refine la_absD hx hb (by rw [hml]; exact hl.1.symm) hown (hAm.wd qw_783 rfl rfl) (hAm.wd qw_784 rfl rfl) (hAm.wd qw_10 rfl rfl) (hAm.wd qw_785 rfl rfl) (Nat.le_of_ble_eq_true rfl) (Nat.le_of_ble_eq_true rfl) (Nat.le_of_ble_eq_true rfl) (Nat.le_of_ble_eq_true rfl) hdb.2.1 dL_isVerdictRight_224 ?_
              refine lv_ldc2d (v := 4562254508917369340) hx hb hown (hAm.wd qw_793 rfl rfl) dL_isVerdictRight_227 ?_
              refine lv_dcmp hx hb dL_isVerdictRight_230 ?_
              refine lv_if_ge (tgt := 253) hx hb dL_isVerdictRight_231 (by decide) (fun c9 => absurd c9 hdb.2.2) (fun _ => ?_)
              refine lv_iload_n hx hb dL_isVerdictRight_234 rfl (lv_at hl 10 rfl) ?_
              refine lv_iload_n hx hb dL_isVerdictRight_235 rfl (lv_at hl 11 rfl) ?_
              refine lv_icmp_ne (tgt := 249) hx hb dL_isVerdictRight_236 (by decide) (fun c_41 => ?_) (fun c_41 => ?_)
              · have c_41 := mt (nI_eq (a := a0) (b := b0) (by omega) (by omega)).mpr c_41
                refine lv_iconst (v := 1) hx hb dL_isVerdictRight_249 (by decide) ?_
                refine lv_goto (tgt := 254) hx hb dL_isVerdictRight_250 (by decide) ?_
                exact tg_zret hx hb hr hlocks hw rfl (⟨rfl, hS, HO⟩) (Nat.le_of_ble_eq_true rfl) (Nat.le_of_ble_eq_true rfl) dL_isVerdictRight_254
              · have c_41 := (nI_eq (a := a0) (b := b0) (by omega) (by omega)).mp c_41
                have hss : crs A9 B9 = A9.length * A9.length := by rw [hB9, ← (show a0 = b0 by omega), ← hA9]; exact crs_self A9
                refine lv_iload hx hb dL_isVerdictRight_239 (lv_at hl 7 rfl) ?_
                refine lv_iload hx hb dL_isVerdictRight_241 (lv_at hl 3 rfl) ?_
                refine lv_iload hx hb dL_isVerdictRight_243 (lv_at hl 3 rfl) ?_
                refine lv_imul hx hb dL_isVerdictRight_245 ?_
                refine rc_topi (nI (A9.length * A9.length)) (pk_mul A9.length A9.length) ?_
                refine lv_icmp_ne (tgt := 253) hx hb dL_isVerdictRight_246 (by decide) (fun c9 => absurd ((nI_eq (a := crs A9 B9) (b := A9.length * A9.length) (by omega) (by omega)).mpr (by omega)) c9) (fun _ => ?_)
                refine lv_iconst (v := 1) hx hb dL_isVerdictRight_249 (by decide) ?_
                refine lv_goto (tgt := 254) hx hb dL_isVerdictRight_250 (by decide) ?_
                exact tg_zret hx hb hr hlocks hw rfl (⟨rfl, hS, HO⟩) (Nat.le_of_ble_eq_true rfl) (Nat.le_of_ble_eq_true rfl) dL_isVerdictRight_254
            · have c_34 := (nI_eq (a := B9.length) (b := 6) (by omega) (by omega)).mp c_34
              refine lv_iconst (v := 3) hx hb dL_isVerdictRight_139 (by decide) ?_
              refine lv_goto (tgt := 144) hx hb dL_isVerdictRight_140 (by decide) ?_
              have ho : outD v A9 B9 = 3 := by unfold outD outF; (repeat' split) <;> first | rfl | omega
              refine lv_istore (lv' := [(13, .int 3), (12, .int 0), (11, .int (nI B9.length)), (10, .int (nI A9.length)), (9, .int (nI (alN A9 B9))), (8, .int (nI (loN A9 B9))), (7, .int (nI (hiN A9 B9))), (6, .int (nI (crs A9 B9))), (5, .int (nI (outD v A9 B9))), (0, .ref (ad 8)), (1, .int (nI a0)), (2, .int (nI b0)), (3, .int (nI (vN v 0))), (4, .int (nI (vN v 1)))]) hx hb dL_isVerdictRight_144 hl (by decide) rfl (fun ls hl => ?_)
              refine lv_iload hx hb dL_isVerdictRight_146 (lv_at hl 8 rfl) ?_
              refine lv_iload hx hb dL_isVerdictRight_148 (lv_at hl 0 rfl) ?_
              refine lv_icmp_ne (tgt := 253) hx hb dL_isVerdictRight_150 (by decide) (fun c9 => absurd ((nI_eq (a := outD v A9 B9) (b := 3) (by omega) (by omega)).mpr (by omega)) c9) (fun _ => ?_)
              refine lv_iload hx hb dL_isVerdictRight_153 (lv_at hl 7 rfl) ?_
              refine lv_if_lt (tgt := 253) hx hb dL_isVerdictRight_155 (by decide) (fun c9 => absurd c9 (fun z9 => absurd ((nI_ltI (a := crs A9 B9) (b := 0) (by omega) (by omega)).mp z9) (by omega))) (fun _ => ?_)
              refine lv_iload hx hb dL_isVerdictRight_158 (lv_at hl 7 rfl) ?_
              refine lv_aload_n hx hb dL_isVerdictRight_160 rfl (lv_at hl 9 rfl) ?_
              refine lv_iload_n hx hb dL_isVerdictRight_161 rfl (lv_at hl 11 rfl) ?_
              refine lv_iload_n hx hb dL_isVerdictRight_162 rfl (lv_at hl 10 rfl) ?_
              refine lv_iconst (v := 1) hx hb dL_isVerdictRight_163 (by decide) ?_
              refine tg_calli (va_runV (As := [.int (nI b0), .int (nI a0), .int 1]) (rest := [.int (nI (crs A9 B9))]) (Ts := []) ⟨hx, hb, hml, hown, fun _ h9 => absurd h9 List.not_mem_nil⟩ (pu_verdict1 l E _ ad v G_13 hI hS b0 a0 (by omega) (by omega)) (rc_cwV hAm qw_771 qw_1 qw_774 qw_772 qw_773 rfl rfl hd_X6_verdict ⟨Nat.le_of_ble_eq_true rfl, Nat.le_of_ble_eq_true rfl⟩) (tg_preV hAm hA hw hco (q := vwCl[7]) rfl) rfl rfl hl.1 rfl (lv_room (Nat.le_of_ble_eq_true rfl)) dL_isVerdictRight_164 ⟨Nat.le_of_ble_eq_true rfl, Nat.le_of_ble_eq_true rfl⟩) hA hw (fun r_43 G_42 H locs hp hw => ?_)
              obtain ⟨hr9, hS, hu⟩ := hp
              rw [hr9]
              try rw [← hA9]
              try rw [← hB9]
              have hco := (hu 8 (by omega)).trans hco
              have hI := hI.scr (fun t9 h9 => hu t9 (by omega))
              have HO := fun (t9 : Nat) (h9 : t9 < 15 ∨ 31 ≤ t9) => (hu t9 (by omega)).trans (HO t9 h9)
              refine rc_topi (nI (crs B9 A9)) (scI_eq B9 A9) ?_
              refine lv_iadd hx hb dL_isVerdictRight_167 ?_
              refine rc_topi (nI (crs A9 B9 + crs B9 A9)) (nI_add (crs A9 B9) (crs B9 A9)) ?_
              refine lv_iconst (v := 2) hx hb dL_isVerdictRight_168 (by decide) ?_
              refine lv_iload hx hb dL_isVerdictRight_169 (lv_at hl 3 rfl) ?_
              refine lv_imul hx hb dL_isVerdictRight_171 ?_
              refine rc_topi (nI (2 * A9.length)) (pk_mul 2 A9.length) ?_
              refine lv_iload hx hb dL_isVerdictRight_172 (lv_at hl 2 rfl) ?_
              refine lv_imul hx hb dL_isVerdictRight_174 ?_
              refine rc_topi (nI ((2 * A9.length) * B9.length)) (pk_mul (2 * A9.length) B9.length) ?_
              refine lv_icmp_ne (tgt := 253) hx hb dL_isVerdictRight_175 (by decide) (fun c9 => absurd ((nI_eq (a := crs A9 B9 + crs B9 A9) (b := (2 * A9.length) * B9.length) (by omega) (by omega)).mpr (by omega)) c9) (fun _ => ?_)
              refine lv_iload hx hb dL_isVerdictRight_178 (lv_at hl 6 rfl) ?_
              refine lv_if_le (tgt := 253) hx hb dL_isVerdictRight_180 (by decide) (fun c9 => absurd c9 (fun z9 => absurd ((nI_leI (a := hiN A9 B9) (b := 0) (by omega) (by omega)).mp z9) (by omega))) (fun _ => ?_)
              refine lv_iload hx hb dL_isVerdictRight_183 (lv_at hl 5 rfl) ?_
              refine lv_if_le (tgt := 253) hx hb dL_isVerdictRight_185 (by decide) (fun c9 => absurd c9 (fun z9 => absurd ((nI_leI (a := loN A9 B9) (b := 0) (by omega) (by omega)).mp z9) (by omega))) (fun _ => ?_)
              refine lv_iload hx hb dL_isVerdictRight_188 (lv_at hl 6 rfl) ?_
              refine lv_iload hx hb dL_isVerdictRight_190 (lv_at hl 5 rfl) ?_
              refine lv_iadd hx hb dL_isVerdictRight_192 ?_
              refine rc_topi (nI (hiN A9 B9 + loN A9 B9)) (nI_add (hiN A9 B9) (loN A9 B9)) ?_
              refine lv_iload hx hb dL_isVerdictRight_193 (lv_at hl 4 rfl) ?_
              refine lv_icmp_le (tgt := 253) hx hb dL_isVerdictRight_195 (by decide) (fun c9 => absurd c9 (fun z9 => absurd ((nI_leI (a := hiN A9 B9 + loN A9 B9) (b := alN A9 B9) (by omega) (by omega)).mp z9) (by omega))) (fun _ => ?_)
              refine lv_iload hx hb dL_isVerdictRight_198 (lv_at hl 4 rfl) ?_
              refine lv_aload_n hx hb dL_isVerdictRight_200 rfl (lv_at hl 9 rfl) ?_
              refine lv_iload_n hx hb dL_isVerdictRight_201 rfl (lv_at hl 11 rfl) ?_
              refine lv_iload_n hx hb dL_isVerdictRight_202 rfl (lv_at hl 10 rfl) ?_
              refine lv_iconst (v := 4) hx hb dL_isVerdictRight_203 (by decide) ?_
              refine tg_calli (va_runV (As := [.int (nI b0), .int (nI a0), .int 4]) (rest := [.int (nI (alN A9 B9))]) (Ts := []) ⟨hx, hb, hml, hown, fun _ h9 => absurd h9 List.not_mem_nil⟩ (pu_verdict4 l E _ ad v G_42 hI hS b0 a0 (by omega) (by omega)) (rc_cwV hAm qw_771 qw_1 qw_774 qw_772 qw_773 rfl rfl hd_X6_verdict ⟨Nat.le_of_ble_eq_true rfl, Nat.le_of_ble_eq_true rfl⟩) (tg_preV hAm hA hw hco (q := vwCl[7]) rfl) rfl rfl hl.1 rfl (lv_room (Nat.le_of_ble_eq_true rfl)) dL_isVerdictRight_204 ⟨Nat.le_of_ble_eq_true rfl, Nat.le_of_ble_eq_true rfl⟩) hA hw (fun r_45 G_44 H locs hp hw => ?_)
              obtain ⟨hr9, hS, hu⟩ := hp
              rw [hr9]
              try rw [← hA9]
              try rw [← hB9]
              have hco := (hu 8 (by omega)).trans hco
              have hI := hI.scr (fun t9 h9 => hu t9 (by omega))
              have HO := fun (t9 : Nat) (h9 : t9 < 15 ∨ 31 ≤ t9) => (hu t9 (by omega)).trans (HO t9 h9)
              refine lv_icmp_ne (tgt := 253) hx hb dL_isVerdictRight_207 (by decide) (fun c9 => absurd ((nI_eq (a := alN A9 B9) (b := alN B9 A9) (by omega) (by omega)).mpr (by omega)) c9) (fun _ => ?_)
              refine lv_aload_n hx hb dL_isVerdictRight_210 rfl (lv_at hl 9 rfl) ?_
              refine lv_iload_n hx hb dL_isVerdictRight_211 rfl (lv_at hl 10 rfl) ?_
              refine lv_iload_n hx hb dL_isVerdictRight_212 rfl (lv_at hl 11 rfl) ?_
              refine tg_calld (va_runV (As := [.int (nI a0), .int (nI b0)]) (rest := []) (Ts := []) ⟨hx, hb, hml, hown, fun _ h9 => absurd h9 List.not_mem_nil⟩ (pu_doubt l E _ ad v G_44 hI hS a0 b0 (by omega) (by omega)) (rc_cwV hAm qw_775 qw_1 qw_778 qw_776 qw_777 rfl rfl hd_X6_doubt ⟨Nat.le_of_ble_eq_true rfl, Nat.le_of_ble_eq_true rfl⟩) (tg_preV hAm hA hw hco (q := vwCl[7]) rfl) rfl rfl hl.1 rfl (lv_room (Nat.le_of_ble_eq_true rfl)) dL_isVerdictRight_213 ⟨Nat.le_of_ble_eq_true rfl, Nat.le_of_ble_eq_true rfl⟩) hA hw (fun r_47 G_46 H locs hp hw => ?_)
              obtain ⟨hr9, hS, hu⟩ := hp
              rw [hr9]
              try rw [← hA9]
              try rw [← hB9]
              have hco := (hu 8 (by omega)).trans hco
              have hI := hI.scr (fun t9 h9 => hu t9 (by omega))
              have HO := fun (t9 : Nat) (h9 : t9 < 15 ∨ 31 ≤ t9) => (hu t9 (by omega)).trans (HO t9 h9)
              refine lv_iload hx hb dL_isVerdictRight_216 (lv_at hl 4 rfl) ?_
              refine lv_i2d hx hb dL_isVerdictRight_218 ?_
              refine lv_dmul hx hb dL_isVerdictRight_219 hdb.1 ?_
              refine rc_topd (dq (hiN A9 B9) (alN A9 B9)) rfl ?_
              refine lv_iload hx hb dL_isVerdictRight_220 (lv_at hl 6 rfl) ?_
              refine lv_i2d hx hb dL_isVerdictRight_222 ?_
              refine lv_dsub hx hb dL_isVerdictRight_223 hdb.2.1 ?_
              refine rc_topd (dr (hiN A9 B9) (alN A9 B9)) rfl ?_
              refine la_absD hx hb (by rw [hml]; exact hl.1.symm) hown (hAm.wd qw_783 rfl rfl) (hAm.wd qw_784 rfl rfl) (hAm.wd qw_10 rfl rfl) (hAm.wd qw_785 rfl rfl) (Nat.le_of_ble_eq_true rfl) (Nat.le_of_ble_eq_true rfl) (Nat.le_of_ble_eq_true rfl) (Nat.le_of_ble_eq_true rfl) hdb.2.1 dL_isVerdictRight_224 ?_
              refine lv_ldc2d (v := 4562254508917369340) hx hb hown (hAm.wd qw_793 rfl rfl) dL_isVerdictRight_227 ?_
              refine lv_dcmp hx hb dL_isVerdictRight_230 ?_
              refine lv_if_ge (tgt := 253) hx hb dL_isVerdictRight_231 (by decide) (fun c9 => absurd c9 hdb.2.2) (fun _ => ?_)
              refine lv_iload_n hx hb dL_isVerdictRight_234 rfl (lv_at hl 10 rfl) ?_
              refine lv_iload_n hx hb dL_isVerdictRight_235 rfl (lv_at hl 11 rfl) ?_
              refine lv_icmp_ne (tgt := 249) hx hb dL_isVerdictRight_236 (by decide) (fun c_48 => ?_) (fun c_48 => ?_)
              · have c_48 := mt (nI_eq (a := a0) (b := b0) (by omega) (by omega)).mpr c_48
                refine lv_iconst (v := 1) hx hb dL_isVerdictRight_249 (by decide) ?_
                refine lv_goto (tgt := 254) hx hb dL_isVerdictRight_250 (by decide) ?_
                exact tg_zret hx hb hr hlocks hw rfl (⟨rfl, hS, HO⟩) (Nat.le_of_ble_eq_true rfl) (Nat.le_of_ble_eq_true rfl) dL_isVerdictRight_254
              · have c_48 := (nI_eq (a := a0) (b := b0) (by omega) (by omega)).mp c_48
                have hss : crs A9 B9 = A9.length * A9.length := by rw [hB9, ← (show a0 = b0 by omega), ← hA9]; exact crs_self A9
                refine lv_iload hx hb dL_isVerdictRight_239 (lv_at hl 7 rfl) ?_
                refine lv_iload hx hb dL_isVerdictRight_241 (lv_at hl 3 rfl) ?_
                refine lv_iload hx hb dL_isVerdictRight_243 (lv_at hl 3 rfl) ?_
                refine lv_imul hx hb dL_isVerdictRight_245 ?_
                refine rc_topi (nI (A9.length * A9.length)) (pk_mul A9.length A9.length) ?_
                refine lv_icmp_ne (tgt := 253) hx hb dL_isVerdictRight_246 (by decide) (fun c9 => absurd ((nI_eq (a := crs A9 B9) (b := A9.length * A9.length) (by omega) (by omega)).mpr (by omega)) c9) (fun _ => ?_)
                refine lv_iconst (v := 1) hx hb dL_isVerdictRight_249 (by decide) ?_
                refine lv_goto (tgt := 254) hx hb dL_isVerdictRight_250 (by decide) ?_
                exact tg_zret hx hb hr hlocks hw rfl (⟨rfl, hS, HO⟩) (Nat.le_of_ble_eq_true rfl) (Nat.le_of_ble_eq_true rfl) dL_isVerdictRight_254
        · have c_25 := mt (nI_ltI (a := (vN v 1) * (alN A9 B9)) (b := (loN A9 B9) * 1000) (by omega) (by omega)).mpr c_25
          refine lv_iconst (v := 2) hx hb dL_isVerdictRight_121 (by decide) ?_
          refine lv_goto (tgt := 144) hx hb dL_isVerdictRight_122 (by decide) ?_
          have ho : outD v A9 B9 = 2 := by unfold outD outF; (repeat' split) <;> first | rfl | omega
          refine lv_istore (lv' := [(13, .int 2), (12, .int 0), (11, .int (nI B9.length)), (10, .int (nI A9.length)), (9, .int (nI (alN A9 B9))), (8, .int (nI (loN A9 B9))), (7, .int (nI (hiN A9 B9))), (6, .int (nI (crs A9 B9))), (5, .int (nI (outD v A9 B9))), (0, .ref (ad 8)), (1, .int (nI a0)), (2, .int (nI b0)), (3, .int (nI (vN v 0))), (4, .int (nI (vN v 1)))]) hx hb dL_isVerdictRight_144 hl (by decide) rfl (fun ls hl => ?_)
          refine lv_iload hx hb dL_isVerdictRight_146 (lv_at hl 8 rfl) ?_
          refine lv_iload hx hb dL_isVerdictRight_148 (lv_at hl 0 rfl) ?_
          refine lv_icmp_ne (tgt := 253) hx hb dL_isVerdictRight_150 (by decide) (fun c9 => absurd ((nI_eq (a := outD v A9 B9) (b := 2) (by omega) (by omega)).mpr (by omega)) c9) (fun _ => ?_)
          refine lv_iload hx hb dL_isVerdictRight_153 (lv_at hl 7 rfl) ?_
          refine lv_if_lt (tgt := 253) hx hb dL_isVerdictRight_155 (by decide) (fun c9 => absurd c9 (fun z9 => absurd ((nI_ltI (a := crs A9 B9) (b := 0) (by omega) (by omega)).mp z9) (by omega))) (fun _ => ?_)
          refine lv_iload hx hb dL_isVerdictRight_158 (lv_at hl 7 rfl) ?_
          refine lv_aload_n hx hb dL_isVerdictRight_160 rfl (lv_at hl 9 rfl) ?_
          refine lv_iload_n hx hb dL_isVerdictRight_161 rfl (lv_at hl 11 rfl) ?_
          refine lv_iload_n hx hb dL_isVerdictRight_162 rfl (lv_at hl 10 rfl) ?_
          refine lv_iconst (v := 1) hx hb dL_isVerdictRight_163 (by decide) ?_
          refine tg_calli (va_runV (As := [.int (nI b0), .int (nI a0), .int 1]) (rest := [.int (nI (crs A9 B9))]) (Ts := []) ⟨hx, hb, hml, hown, fun _ h9 => absurd h9 List.not_mem_nil⟩ (pu_verdict1 l E _ ad v G_13 hI hS b0 a0 (by omega) (by omega)) (rc_cwV hAm qw_771 qw_1 qw_774 qw_772 qw_773 rfl rfl hd_X6_verdict ⟨Nat.le_of_ble_eq_true rfl, Nat.le_of_ble_eq_true rfl⟩) (tg_preV hAm hA hw hco (q := vwCl[7]) rfl) rfl rfl hl.1 rfl (lv_room (Nat.le_of_ble_eq_true rfl)) dL_isVerdictRight_164 ⟨Nat.le_of_ble_eq_true rfl, Nat.le_of_ble_eq_true rfl⟩) hA hw (fun r_50 G_49 H locs hp hw => ?_)
          obtain ⟨hr9, hS, hu⟩ := hp
          rw [hr9]
          try rw [← hA9]
          try rw [← hB9]
          have hco := (hu 8 (by omega)).trans hco
          have hI := hI.scr (fun t9 h9 => hu t9 (by omega))
          have HO := fun (t9 : Nat) (h9 : t9 < 15 ∨ 31 ≤ t9) => (hu t9 (by omega)).trans (HO t9 h9)
          refine rc_topi (nI (crs B9 A9)) (scI_eq B9 A9) ?_
          refine lv_iadd hx hb dL_isVerdictRight_167 ?_
          refine rc_topi (nI (crs A9 B9 + crs B9 A9)) (nI_add (crs A9 B9) (crs B9 A9)) ?_
          refine lv_iconst (v := 2) hx hb dL_isVerdictRight_168 (by decide) ?_
          refine lv_iload hx hb dL_isVerdictRight_169 (lv_at hl 3 rfl) ?_
          refine lv_imul hx hb dL_isVerdictRight_171 ?_
          refine rc_topi (nI (2 * A9.length)) (pk_mul 2 A9.length) ?_
          refine lv_iload hx hb dL_isVerdictRight_172 (lv_at hl 2 rfl) ?_
          refine lv_imul hx hb dL_isVerdictRight_174 ?_
          refine rc_topi (nI ((2 * A9.length) * B9.length)) (pk_mul (2 * A9.length) B9.length) ?_
          refine lv_icmp_ne (tgt := 253) hx hb dL_isVerdictRight_175 (by decide) (fun c9 => absurd ((nI_eq (a := crs A9 B9 + crs B9 A9) (b := (2 * A9.length) * B9.length) (by omega) (by omega)).mpr (by omega)) c9) (fun _ => ?_)
          refine lv_iload hx hb dL_isVerdictRight_178 (lv_at hl 6 rfl) ?_
          refine lv_if_le (tgt := 253) hx hb dL_isVerdictRight_180 (by decide) (fun c9 => absurd c9 (fun z9 => absurd ((nI_leI (a := hiN A9 B9) (b := 0) (by omega) (by omega)).mp z9) (by omega))) (fun _ => ?_)
          refine lv_iload hx hb dL_isVerdictRight_183 (lv_at hl 5 rfl) ?_
          refine lv_if_le (tgt := 253) hx hb dL_isVerdictRight_185 (by decide) (fun c9 => absurd c9 (fun z9 => absurd ((nI_leI (a := loN A9 B9) (b := 0) (by omega) (by omega)).mp z9) (by omega))) (fun _ => ?_)
          refine lv_iload hx hb dL_isVerdictRight_188 (lv_at hl 6 rfl) ?_
          refine lv_iload hx hb dL_isVerdictRight_190 (lv_at hl 5 rfl) ?_
          refine lv_iadd hx hb dL_isVerdictRight_192 ?_
          refine rc_topi (nI (hiN A9 B9 + loN A9 B9)) (nI_add (hiN A9 B9) (loN A9 B9)) ?_
          refine lv_iload hx hb dL_isVerdictRight_193 (lv_at hl 4 rfl) ?_
          refine lv_icmp_le (tgt := 253) hx hb dL_isVerdictRight_195 (by decide) (fun c9 => absurd c9 (fun z9 => absurd ((nI_leI (a := hiN A9 B9 + loN A9 B9) (b := alN A9 B9) (by omega) (by omega)).mp z9) (by omega))) (fun _ => ?_)
          refine lv_iload hx hb dL_isVerdictRight_198 (lv_at hl 4 rfl) ?_
          refine lv_aload_n hx hb dL_isVerdictRight_200 rfl (lv_at hl 9 rfl) ?_
          refine lv_iload_n hx hb dL_isVerdictRight_201 rfl (lv_at hl 11 rfl) ?_
          refine lv_iload_n hx hb dL_isVerdictRight_202 rfl (lv_at hl 10 rfl) ?_
          refine lv_iconst (v := 4) hx hb dL_isVerdictRight_203 (by decide) ?_
          refine tg_calli (va_runV (As := [.int (nI b0), .int (nI a0), .int 4]) (rest := [.int (nI (alN A9 B9))]) (Ts := []) ⟨hx, hb, hml, hown, fun _ h9 => absurd h9 List.not_mem_nil⟩ (pu_verdict4 l E _ ad v G_49 hI hS b0 a0 (by omega) (by omega)) (rc_cwV hAm qw_771 qw_1 qw_774 qw_772 qw_773 rfl rfl hd_X6_verdict ⟨Nat.le_of_ble_eq_true rfl, Nat.le_of_ble_eq_true rfl⟩) (tg_preV hAm hA hw hco (q := vwCl[7]) rfl) rfl rfl hl.1 rfl (lv_room (Nat.le_of_ble_eq_true rfl)) dL_isVerdictRight_204 ⟨Nat.le_of_ble_eq_true rfl, Nat.le_of_ble_eq_true rfl⟩) hA hw (fun r_52 G_51 H locs hp hw => ?_)
          obtain ⟨hr9, hS, hu⟩ := hp
          rw [hr9]
          try rw [← hA9]
          try rw [← hB9]
          have hco := (hu 8 (by omega)).trans hco
          have hI := hI.scr (fun t9 h9 => hu t9 (by omega))
          have HO := fun (t9 : Nat) (h9 : t9 < 15 ∨ 31 ≤ t9) => (hu t9 (by omega)).trans (HO t9 h9)
          refine lv_icmp_ne (tgt := 253) hx hb dL_isVerdictRight_207 (by decide) (fun c9 => absurd ((nI_eq (a := alN A9 B9) (b := alN B9 A9) (by omega) (by omega)).mpr (by omega)) c9) (fun _ => ?_)
          refine lv_aload_n hx hb dL_isVerdictRight_210 rfl (lv_at hl 9 rfl) ?_
          refine lv_iload_n hx hb dL_isVerdictRight_211 rfl (lv_at hl 10 rfl) ?_
          refine lv_iload_n hx hb dL_isVerdictRight_212 rfl (lv_at hl 11 rfl) ?_
          refine tg_calld (va_runV (As := [.int (nI a0), .int (nI b0)]) (rest := []) (Ts := []) ⟨hx, hb, hml, hown, fun _ h9 => absurd h9 List.not_mem_nil⟩ (pu_doubt l E _ ad v G_51 hI hS a0 b0 (by omega) (by omega)) (rc_cwV hAm qw_775 qw_1 qw_778 qw_776 qw_777 rfl rfl hd_X6_doubt ⟨Nat.le_of_ble_eq_true rfl, Nat.le_of_ble_eq_true rfl⟩) (tg_preV hAm hA hw hco (q := vwCl[7]) rfl) rfl rfl hl.1 rfl (lv_room (Nat.le_of_ble_eq_true rfl)) dL_isVerdictRight_213 ⟨Nat.le_of_ble_eq_true rfl, Nat.le_of_ble_eq_true rfl⟩) hA hw (fun r_54 G_53 H locs hp hw => ?_)
          obtain ⟨hr9, hS, hu⟩ := hp
          rw [hr9]
          try rw [← hA9]
          try rw [← hB9]
          have hco := (hu 8 (by omega)).trans hco
          have hI := hI.scr (fun t9 h9 => hu t9 (by omega))
          have HO := fun (t9 : Nat) (h9 : t9 < 15 ∨ 31 ≤ t9) => (hu t9 (by omega)).trans (HO t9 h9)
          refine lv_iload hx hb dL_isVerdictRight_216 (lv_at hl 4 rfl) ?_
          refine lv_i2d hx hb dL_isVerdictRight_218 ?_
          refine lv_dmul hx hb dL_isVerdictRight_219 hdb.1 ?_
          refine rc_topd (dq (hiN A9 B9) (alN A9 B9)) rfl ?_
          refine lv_iload hx hb dL_isVerdictRight_220 (lv_at hl 6 rfl) ?_
          refine lv_i2d hx hb dL_isVerdictRight_222 ?_
          refine lv_dsub hx hb dL_isVerdictRight_223 hdb.2.1 ?_
          refine rc_topd (dr (hiN A9 B9) (alN A9 B9)) rfl ?_
          refine la_absD hx hb (by rw [hml]; exact hl.1.symm) hown (hAm.wd qw_783 rfl rfl) (hAm.wd qw_784 rfl rfl) (hAm.wd qw_10 rfl rfl) (hAm.wd qw_785 rfl rfl) (Nat.le_of_ble_eq_true rfl) (Nat.le_of_ble_eq_true rfl) (Nat.le_of_ble_eq_true rfl) (Nat.le_of_ble_eq_true rfl) hdb.2.1 dL_isVerdictRight_224 ?_
          refine lv_ldc2d (v := 4562254508917369340) hx hb hown (hAm.wd qw_793 rfl rfl) dL_isVerdictRight_227 ?_
          refine lv_dcmp hx hb dL_isVerdictRight_230 ?_
          refine lv_if_ge (tgt := 253) hx hb dL_isVerdictRight_231 (by decide) (fun c9 => absurd c9 hdb.2.2) (fun _ => ?_)
          refine lv_iload_n hx hb dL_isVerdictRight_234 rfl (lv_at hl 10 rfl) ?_
          refine lv_iload_n hx hb dL_isVerdictRight_235 rfl (lv_at hl 11 rfl) ?_
          refine lv_icmp_ne (tgt := 249) hx hb dL_isVerdictRight_236 (by decide) (fun c_55 => ?_) (fun c_55 => ?_)
          · have c_55 := mt (nI_eq (a := a0) (b := b0) (by omega) (by omega)).mpr c_55
            refine lv_iconst (v := 1) hx hb dL_isVerdictRight_249 (by decide) ?_
            refine lv_goto (tgt := 254) hx hb dL_isVerdictRight_250 (by decide) ?_
            exact tg_zret hx hb hr hlocks hw rfl (⟨rfl, hS, HO⟩) (Nat.le_of_ble_eq_true rfl) (Nat.le_of_ble_eq_true rfl) dL_isVerdictRight_254
          · have c_55 := (nI_eq (a := a0) (b := b0) (by omega) (by omega)).mp c_55
            have hss : crs A9 B9 = A9.length * A9.length := by rw [hB9, ← (show a0 = b0 by omega), ← hA9]; exact crs_self A9
            refine lv_iload hx hb dL_isVerdictRight_239 (lv_at hl 7 rfl) ?_
            refine lv_iload hx hb dL_isVerdictRight_241 (lv_at hl 3 rfl) ?_
            refine lv_iload hx hb dL_isVerdictRight_243 (lv_at hl 3 rfl) ?_
            refine lv_imul hx hb dL_isVerdictRight_245 ?_
            refine rc_topi (nI (A9.length * A9.length)) (pk_mul A9.length A9.length) ?_
            refine lv_icmp_ne (tgt := 253) hx hb dL_isVerdictRight_246 (by decide) (fun c9 => absurd ((nI_eq (a := crs A9 B9) (b := A9.length * A9.length) (by omega) (by omega)).mpr (by omega)) c9) (fun _ => ?_)
            refine lv_iconst (v := 1) hx hb dL_isVerdictRight_249 (by decide) ?_
            refine lv_goto (tgt := 254) hx hb dL_isVerdictRight_250 (by decide) ?_
            exact tg_zret hx hb hr hlocks hw rfl (⟨rfl, hS, HO⟩) (Nat.le_of_ble_eq_true rfl) (Nat.le_of_ble_eq_true rfl) dL_isVerdictRight_254
      · have c_24 := mt (nI_ltI (a := (vN v 1) * (alN A9 B9)) (b := (hiN A9 B9) * 1000) (by omega) (by omega)).mpr c_24
        refine lv_iconst (v := 1) hx hb dL_isVerdictRight_103 (by decide) ?_
        refine lv_goto (tgt := 144) hx hb dL_isVerdictRight_104 (by decide) ?_
        have ho : outD v A9 B9 = 1 := by unfold outD outF; (repeat' split) <;> first | rfl | omega
        refine lv_istore (lv' := [(13, .int 1), (12, .int 0), (11, .int (nI B9.length)), (10, .int (nI A9.length)), (9, .int (nI (alN A9 B9))), (8, .int (nI (loN A9 B9))), (7, .int (nI (hiN A9 B9))), (6, .int (nI (crs A9 B9))), (5, .int (nI (outD v A9 B9))), (0, .ref (ad 8)), (1, .int (nI a0)), (2, .int (nI b0)), (3, .int (nI (vN v 0))), (4, .int (nI (vN v 1)))]) hx hb dL_isVerdictRight_144 hl (by decide) rfl (fun ls hl => ?_)
        refine lv_iload hx hb dL_isVerdictRight_146 (lv_at hl 8 rfl) ?_
        refine lv_iload hx hb dL_isVerdictRight_148 (lv_at hl 0 rfl) ?_
        refine lv_icmp_ne (tgt := 253) hx hb dL_isVerdictRight_150 (by decide) (fun c9 => absurd ((nI_eq (a := outD v A9 B9) (b := 1) (by omega) (by omega)).mpr (by omega)) c9) (fun _ => ?_)
        refine lv_iload hx hb dL_isVerdictRight_153 (lv_at hl 7 rfl) ?_
        refine lv_if_lt (tgt := 253) hx hb dL_isVerdictRight_155 (by decide) (fun c9 => absurd c9 (fun z9 => absurd ((nI_ltI (a := crs A9 B9) (b := 0) (by omega) (by omega)).mp z9) (by omega))) (fun _ => ?_)
        refine lv_iload hx hb dL_isVerdictRight_158 (lv_at hl 7 rfl) ?_
        refine lv_aload_n hx hb dL_isVerdictRight_160 rfl (lv_at hl 9 rfl) ?_
        refine lv_iload_n hx hb dL_isVerdictRight_161 rfl (lv_at hl 11 rfl) ?_
        refine lv_iload_n hx hb dL_isVerdictRight_162 rfl (lv_at hl 10 rfl) ?_
        refine lv_iconst (v := 1) hx hb dL_isVerdictRight_163 (by decide) ?_
        refine tg_calli (va_runV (As := [.int (nI b0), .int (nI a0), .int 1]) (rest := [.int (nI (crs A9 B9))]) (Ts := []) ⟨hx, hb, hml, hown, fun _ h9 => absurd h9 List.not_mem_nil⟩ (pu_verdict1 l E _ ad v G_13 hI hS b0 a0 (by omega) (by omega)) (rc_cwV hAm qw_771 qw_1 qw_774 qw_772 qw_773 rfl rfl hd_X6_verdict ⟨Nat.le_of_ble_eq_true rfl, Nat.le_of_ble_eq_true rfl⟩) (tg_preV hAm hA hw hco (q := vwCl[7]) rfl) rfl rfl hl.1 rfl (lv_room (Nat.le_of_ble_eq_true rfl)) dL_isVerdictRight_164 ⟨Nat.le_of_ble_eq_true rfl, Nat.le_of_ble_eq_true rfl⟩) hA hw (fun r_57 G_56 H locs hp hw => ?_)
        obtain ⟨hr9, hS, hu⟩ := hp
        rw [hr9]
        try rw [← hA9]
        try rw [← hB9]
        have hco := (hu 8 (by omega)).trans hco
        have hI := hI.scr (fun t9 h9 => hu t9 (by omega))
        have HO := fun (t9 : Nat) (h9 : t9 < 15 ∨ 31 ≤ t9) => (hu t9 (by omega)).trans (HO t9 h9)
        refine rc_topi (nI (crs B9 A9)) (scI_eq B9 A9) ?_
        refine lv_iadd hx hb dL_isVerdictRight_167 ?_
        refine rc_topi (nI (crs A9 B9 + crs B9 A9)) (nI_add (crs A9 B9) (crs B9 A9)) ?_
        refine lv_iconst (v := 2) hx hb dL_isVerdictRight_168 (by decide) ?_
        refine lv_iload hx hb dL_isVerdictRight_169 (lv_at hl 3 rfl) ?_
        refine lv_imul hx hb dL_isVerdictRight_171 ?_
        refine rc_topi (nI (2 * A9.length)) (pk_mul 2 A9.length) ?_
        refine lv_iload hx hb dL_isVerdictRight_172 (lv_at hl 2 rfl) ?_
        refine lv_imul hx hb dL_isVerdictRight_174 ?_
        refine rc_topi (nI ((2 * A9.length) * B9.length)) (pk_mul (2 * A9.length) B9.length) ?_
        refine lv_icmp_ne (tgt := 253) hx hb dL_isVerdictRight_175 (by decide) (fun c9 => absurd ((nI_eq (a := crs A9 B9 + crs B9 A9) (b := (2 * A9.length) * B9.length) (by omega) (by omega)).mpr (by omega)) c9) (fun _ => ?_)
        refine lv_iload hx hb dL_isVerdictRight_178 (lv_at hl 6 rfl) ?_
        refine lv_if_le (tgt := 253) hx hb dL_isVerdictRight_180 (by decide) (fun c9 => absurd c9 (fun z9 => absurd ((nI_leI (a := hiN A9 B9) (b := 0) (by omega) (by omega)).mp z9) (by omega))) (fun _ => ?_)
        refine lv_iload hx hb dL_isVerdictRight_183 (lv_at hl 5 rfl) ?_
        refine lv_if_le (tgt := 253) hx hb dL_isVerdictRight_185 (by decide) (fun c9 => absurd c9 (fun z9 => absurd ((nI_leI (a := loN A9 B9) (b := 0) (by omega) (by omega)).mp z9) (by omega))) (fun _ => ?_)
        refine lv_iload hx hb dL_isVerdictRight_188 (lv_at hl 6 rfl) ?_
        refine lv_iload hx hb dL_isVerdictRight_190 (lv_at hl 5 rfl) ?_
        refine lv_iadd hx hb dL_isVerdictRight_192 ?_
        refine rc_topi (nI (hiN A9 B9 + loN A9 B9)) (nI_add (hiN A9 B9) (loN A9 B9)) ?_
        refine lv_iload hx hb dL_isVerdictRight_193 (lv_at hl 4 rfl) ?_
        refine lv_icmp_le (tgt := 253) hx hb dL_isVerdictRight_195 (by decide) (fun c9 => absurd c9 (fun z9 => absurd ((nI_leI (a := hiN A9 B9 + loN A9 B9) (b := alN A9 B9) (by omega) (by omega)).mp z9) (by omega))) (fun _ => ?_)
        refine lv_iload hx hb dL_isVerdictRight_198 (lv_at hl 4 rfl) ?_
        refine lv_aload_n hx hb dL_isVerdictRight_200 rfl (lv_at hl 9 rfl) ?_
        refine lv_iload_n hx hb dL_isVerdictRight_201 rfl (lv_at hl 11 rfl) ?_
        refine lv_iload_n hx hb dL_isVerdictRight_202 rfl (lv_at hl 10 rfl) ?_
        refine lv_iconst (v := 4) hx hb dL_isVerdictRight_203 (by decide) ?_
        refine tg_calli (va_runV (As := [.int (nI b0), .int (nI a0), .int 4]) (rest := [.int (nI (alN A9 B9))]) (Ts := []) ⟨hx, hb, hml, hown, fun _ h9 => absurd h9 List.not_mem_nil⟩ (pu_verdict4 l E _ ad v G_56 hI hS b0 a0 (by omega) (by omega)) (rc_cwV hAm qw_771 qw_1 qw_774 qw_772 qw_773 rfl rfl hd_X6_verdict ⟨Nat.le_of_ble_eq_true rfl, Nat.le_of_ble_eq_true rfl⟩) (tg_preV hAm hA hw hco (q := vwCl[7]) rfl) rfl rfl hl.1 rfl (lv_room (Nat.le_of_ble_eq_true rfl)) dL_isVerdictRight_204 ⟨Nat.le_of_ble_eq_true rfl, Nat.le_of_ble_eq_true rfl⟩) hA hw (fun r_59 G_58 H locs hp hw => ?_)
        obtain ⟨hr9, hS, hu⟩ := hp
        rw [hr9]
        try rw [← hA9]
        try rw [← hB9]
        have hco := (hu 8 (by omega)).trans hco
        have hI := hI.scr (fun t9 h9 => hu t9 (by omega))
        have HO := fun (t9 : Nat) (h9 : t9 < 15 ∨ 31 ≤ t9) => (hu t9 (by omega)).trans (HO t9 h9)
        refine lv_icmp_ne (tgt := 253) hx hb dL_isVerdictRight_207 (by decide) (fun c9 => absurd ((nI_eq (a := alN A9 B9) (b := alN B9 A9) (by omega) (by omega)).mpr (by omega)) c9) (fun _ => ?_)
        refine lv_aload_n hx hb dL_isVerdictRight_210 rfl (lv_at hl 9 rfl) ?_
        refine lv_iload_n hx hb dL_isVerdictRight_211 rfl (lv_at hl 10 rfl) ?_
        refine lv_iload_n hx hb dL_isVerdictRight_212 rfl (lv_at hl 11 rfl) ?_
        refine tg_calld (va_runV (As := [.int (nI a0), .int (nI b0)]) (rest := []) (Ts := []) ⟨hx, hb, hml, hown, fun _ h9 => absurd h9 List.not_mem_nil⟩ (pu_doubt l E _ ad v G_58 hI hS a0 b0 (by omega) (by omega)) (rc_cwV hAm qw_775 qw_1 qw_778 qw_776 qw_777 rfl rfl hd_X6_doubt ⟨Nat.le_of_ble_eq_true rfl, Nat.le_of_ble_eq_true rfl⟩) (tg_preV hAm hA hw hco (q := vwCl[7]) rfl) rfl rfl hl.1 rfl (lv_room (Nat.le_of_ble_eq_true rfl)) dL_isVerdictRight_213 ⟨Nat.le_of_ble_eq_true rfl, Nat.le_of_ble_eq_true rfl⟩) hA hw (fun r_61 G_60 H locs hp hw => ?_)
        obtain ⟨hr9, hS, hu⟩ := hp
        rw [hr9]
        try rw [← hA9]
        try rw [← hB9]
        have hco := (hu 8 (by omega)).trans hco
        have hI := hI.scr (fun t9 h9 => hu t9 (by omega))
        have HO := fun (t9 : Nat) (h9 : t9 < 15 ∨ 31 ≤ t9) => (hu t9 (by omega)).trans (HO t9 h9)
        refine lv_iload hx hb dL_isVerdictRight_216 (lv_at hl 4 rfl) ?_
        refine lv_i2d hx hb dL_isVerdictRight_218 ?_
        refine lv_dmul hx hb dL_isVerdictRight_219 hdb.1 ?_
        refine rc_topd (dq (hiN A9 B9) (alN A9 B9)) rfl ?_
        refine lv_iload hx hb dL_isVerdictRight_220 (lv_at hl 6 rfl) ?_
        refine lv_i2d hx hb dL_isVerdictRight_222 ?_
        refine lv_dsub hx hb dL_isVerdictRight_223 hdb.2.1 ?_
        refine rc_topd (dr (hiN A9 B9) (alN A9 B9)) rfl ?_
        refine la_absD hx hb (by rw [hml]; exact hl.1.symm) hown (hAm.wd qw_783 rfl rfl) (hAm.wd qw_784 rfl rfl) (hAm.wd qw_10 rfl rfl) (hAm.wd qw_785 rfl rfl) (Nat.le_of_ble_eq_true rfl) (Nat.le_of_ble_eq_true rfl) (Nat.le_of_ble_eq_true rfl) (Nat.le_of_ble_eq_true rfl) hdb.2.1 dL_isVerdictRight_224 ?_
        refine lv_ldc2d (v := 4562254508917369340) hx hb hown (hAm.wd qw_793 rfl rfl) dL_isVerdictRight_227 ?_
        refine lv_dcmp hx hb dL_isVerdictRight_230 ?_
        refine lv_if_ge (tgt := 253) hx hb dL_isVerdictRight_231 (by decide) (fun c9 => absurd c9 hdb.2.2) (fun _ => ?_)
        refine lv_iload_n hx hb dL_isVerdictRight_234 rfl (lv_at hl 10 rfl) ?_
        refine lv_iload_n hx hb dL_isVerdictRight_235 rfl (lv_at hl 11 rfl) ?_
        refine lv_icmp_ne (tgt := 249) hx hb dL_isVerdictRight_236 (by decide) (fun c_62 => ?_) (fun c_62 => ?_)
        · have c_62 := mt (nI_eq (a := a0) (b := b0) (by omega) (by omega)).mpr c_62
          refine lv_iconst (v := 1) hx hb dL_isVerdictRight_249 (by decide) ?_
          refine lv_goto (tgt := 254) hx hb dL_isVerdictRight_250 (by decide) ?_
          exact tg_zret hx hb hr hlocks hw rfl (⟨rfl, hS, HO⟩) (Nat.le_of_ble_eq_true rfl) (Nat.le_of_ble_eq_true rfl) dL_isVerdictRight_254
        · have c_62 := (nI_eq (a := a0) (b := b0) (by omega) (by omega)).mp c_62
          have hss : crs A9 B9 = A9.length * A9.length := by rw [hB9, ← (show a0 = b0 by omega), ← hA9]; exact crs_self A9
          refine lv_iload hx hb dL_isVerdictRight_239 (lv_at hl 7 rfl) ?_
          refine lv_iload hx hb dL_isVerdictRight_241 (lv_at hl 3 rfl) ?_
          refine lv_iload hx hb dL_isVerdictRight_243 (lv_at hl 3 rfl) ?_
          refine lv_imul hx hb dL_isVerdictRight_245 ?_
          refine rc_topi (nI (A9.length * A9.length)) (pk_mul A9.length A9.length) ?_
          refine lv_icmp_ne (tgt := 253) hx hb dL_isVerdictRight_246 (by decide) (fun c9 => absurd ((nI_eq (a := crs A9 B9) (b := A9.length * A9.length) (by omega) (by omega)).mpr (by omega)) c9) (fun _ => ?_)
          refine lv_iconst (v := 1) hx hb dL_isVerdictRight_249 (by decide) ?_
          refine lv_goto (tgt := 254) hx hb dL_isVerdictRight_250 (by decide) ?_
          exact tg_zret hx hb hr hlocks hw rfl (⟨rfl, hS, HO⟩) (Nat.le_of_ble_eq_true rfl) (Nat.le_of_ble_eq_true rfl) dL_isVerdictRight_254
    · have c_23 := mt (nI_leI (a := vN v 0) (b := B9.length) (by omega) (by omega)).mpr c_23
      refine lv_iconst (v := 1) hx hb dL_isVerdictRight_73 (by decide) ?_
      refine lv_goto (tgt := 78) hx hb dL_isVerdictRight_74 (by decide) ?_
      refine lv_istore (lv' := [(12, .int 1), (11, .int (nI B9.length)), (10, .int (nI A9.length)), (9, .int (nI (alN A9 B9))), (8, .int (nI (loN A9 B9))), (7, .int (nI (hiN A9 B9))), (6, .int (nI (crs A9 B9))), (5, .int (nI (outD v A9 B9))), (0, .ref (ad 8)), (1, .int (nI a0)), (2, .int (nI b0)), (3, .int (nI (vN v 0))), (4, .int (nI (vN v 1)))]) hx hb dL_isVerdictRight_78 hl (by decide) rfl (fun ls hl => ?_)
      refine lv_iload hx hb dL_isVerdictRight_80 (lv_at hl 0 rfl) ?_
      refine lv_if_eq (tgt := 89) hx hb dL_isVerdictRight_82 (by decide) (fun c9 => absurd c9 (by decide)) (fun _ => ?_)
      refine lv_iconst (v := 0) hx hb dL_isVerdictRight_85 (by decide) ?_
      refine lv_goto (tgt := 144) hx hb dL_isVerdictRight_86 (by decide) ?_
      have ho : outD v A9 B9 = 0 := by unfold outD outF; (repeat' split) <;> first | rfl | omega
      refine lv_istore (lv' := [(13, .int 0), (12, .int 1), (11, .int (nI B9.length)), (10, .int (nI A9.length)), (9, .int (nI (alN A9 B9))), (8, .int (nI (loN A9 B9))), (7, .int (nI (hiN A9 B9))), (6, .int (nI (crs A9 B9))), (5, .int (nI (outD v A9 B9))), (0, .ref (ad 8)), (1, .int (nI a0)), (2, .int (nI b0)), (3, .int (nI (vN v 0))), (4, .int (nI (vN v 1)))]) hx hb dL_isVerdictRight_144 hl (by decide) rfl (fun ls hl => ?_)
      refine lv_iload hx hb dL_isVerdictRight_146 (lv_at hl 8 rfl) ?_
      refine lv_iload hx hb dL_isVerdictRight_148 (lv_at hl 0 rfl) ?_
      refine lv_icmp_ne (tgt := 253) hx hb dL_isVerdictRight_150 (by decide) (fun c9 => absurd ((nI_eq (a := outD v A9 B9) (b := 0) (by omega) (by omega)).mpr (by omega)) c9) (fun _ => ?_)
      refine lv_iload hx hb dL_isVerdictRight_153 (lv_at hl 7 rfl) ?_
      refine lv_if_lt (tgt := 253) hx hb dL_isVerdictRight_155 (by decide) (fun c9 => absurd c9 (fun z9 => absurd ((nI_ltI (a := crs A9 B9) (b := 0) (by omega) (by omega)).mp z9) (by omega))) (fun _ => ?_)
      refine lv_iload hx hb dL_isVerdictRight_158 (lv_at hl 7 rfl) ?_
      refine lv_aload_n hx hb dL_isVerdictRight_160 rfl (lv_at hl 9 rfl) ?_
      refine lv_iload_n hx hb dL_isVerdictRight_161 rfl (lv_at hl 11 rfl) ?_
      refine lv_iload_n hx hb dL_isVerdictRight_162 rfl (lv_at hl 10 rfl) ?_
      refine lv_iconst (v := 1) hx hb dL_isVerdictRight_163 (by decide) ?_
      refine tg_calli (va_runV (As := [.int (nI b0), .int (nI a0), .int 1]) (rest := [.int (nI (crs A9 B9))]) (Ts := []) ⟨hx, hb, hml, hown, fun _ h9 => absurd h9 List.not_mem_nil⟩ (pu_verdict1 l E _ ad v G_13 hI hS b0 a0 (by omega) (by omega)) (rc_cwV hAm qw_771 qw_1 qw_774 qw_772 qw_773 rfl rfl hd_X6_verdict ⟨Nat.le_of_ble_eq_true rfl, Nat.le_of_ble_eq_true rfl⟩) (tg_preV hAm hA hw hco (q := vwCl[7]) rfl) rfl rfl hl.1 rfl (lv_room (Nat.le_of_ble_eq_true rfl)) dL_isVerdictRight_164 ⟨Nat.le_of_ble_eq_true rfl, Nat.le_of_ble_eq_true rfl⟩) hA hw (fun r_64 G_63 H locs hp hw => ?_)
      obtain ⟨hr9, hS, hu⟩ := hp
      rw [hr9]
      try rw [← hA9]
      try rw [← hB9]
      have hco := (hu 8 (by omega)).trans hco
      have hI := hI.scr (fun t9 h9 => hu t9 (by omega))
      have HO := fun (t9 : Nat) (h9 : t9 < 15 ∨ 31 ≤ t9) => (hu t9 (by omega)).trans (HO t9 h9)
      refine rc_topi (nI (crs B9 A9)) (scI_eq B9 A9) ?_
      refine lv_iadd hx hb dL_isVerdictRight_167 ?_
      refine rc_topi (nI (crs A9 B9 + crs B9 A9)) (nI_add (crs A9 B9) (crs B9 A9)) ?_
      refine lv_iconst (v := 2) hx hb dL_isVerdictRight_168 (by decide) ?_
      refine lv_iload hx hb dL_isVerdictRight_169 (lv_at hl 3 rfl) ?_
      refine lv_imul hx hb dL_isVerdictRight_171 ?_
      refine rc_topi (nI (2 * A9.length)) (pk_mul 2 A9.length) ?_
      refine lv_iload hx hb dL_isVerdictRight_172 (lv_at hl 2 rfl) ?_
      refine lv_imul hx hb dL_isVerdictRight_174 ?_
      refine rc_topi (nI ((2 * A9.length) * B9.length)) (pk_mul (2 * A9.length) B9.length) ?_
      refine lv_icmp_ne (tgt := 253) hx hb dL_isVerdictRight_175 (by decide) (fun c9 => absurd ((nI_eq (a := crs A9 B9 + crs B9 A9) (b := (2 * A9.length) * B9.length) (by omega) (by omega)).mpr (by omega)) c9) (fun _ => ?_)
      refine lv_iload hx hb dL_isVerdictRight_178 (lv_at hl 6 rfl) ?_
      refine lv_if_le (tgt := 253) hx hb dL_isVerdictRight_180 (by decide) (fun c9 => absurd c9 (fun z9 => absurd ((nI_leI (a := hiN A9 B9) (b := 0) (by omega) (by omega)).mp z9) (by omega))) (fun _ => ?_)
      refine lv_iload hx hb dL_isVerdictRight_183 (lv_at hl 5 rfl) ?_
      refine lv_if_le (tgt := 253) hx hb dL_isVerdictRight_185 (by decide) (fun c9 => absurd c9 (fun z9 => absurd ((nI_leI (a := loN A9 B9) (b := 0) (by omega) (by omega)).mp z9) (by omega))) (fun _ => ?_)
      refine lv_iload hx hb dL_isVerdictRight_188 (lv_at hl 6 rfl) ?_
      refine lv_iload hx hb dL_isVerdictRight_190 (lv_at hl 5 rfl) ?_
      refine lv_iadd hx hb dL_isVerdictRight_192 ?_
      refine rc_topi (nI (hiN A9 B9 + loN A9 B9)) (nI_add (hiN A9 B9) (loN A9 B9)) ?_
      refine lv_iload hx hb dL_isVerdictRight_193 (lv_at hl 4 rfl) ?_
      refine lv_icmp_le (tgt := 253) hx hb dL_isVerdictRight_195 (by decide) (fun c9 => absurd c9 (fun z9 => absurd ((nI_leI (a := hiN A9 B9 + loN A9 B9) (b := alN A9 B9) (by omega) (by omega)).mp z9) (by omega))) (fun _ => ?_)
      refine lv_iload hx hb dL_isVerdictRight_198 (lv_at hl 4 rfl) ?_
      refine lv_aload_n hx hb dL_isVerdictRight_200 rfl (lv_at hl 9 rfl) ?_
      refine lv_iload_n hx hb dL_isVerdictRight_201 rfl (lv_at hl 11 rfl) ?_
      refine lv_iload_n hx hb dL_isVerdictRight_202 rfl (lv_at hl 10 rfl) ?_
      refine lv_iconst (v := 4) hx hb dL_isVerdictRight_203 (by decide) ?_
      refine tg_calli (va_runV (As := [.int (nI b0), .int (nI a0), .int 4]) (rest := [.int (nI (alN A9 B9))]) (Ts := []) ⟨hx, hb, hml, hown, fun _ h9 => absurd h9 List.not_mem_nil⟩ (pu_verdict4 l E _ ad v G_63 hI hS b0 a0 (by omega) (by omega)) (rc_cwV hAm qw_771 qw_1 qw_774 qw_772 qw_773 rfl rfl hd_X6_verdict ⟨Nat.le_of_ble_eq_true rfl, Nat.le_of_ble_eq_true rfl⟩) (tg_preV hAm hA hw hco (q := vwCl[7]) rfl) rfl rfl hl.1 rfl (lv_room (Nat.le_of_ble_eq_true rfl)) dL_isVerdictRight_204 ⟨Nat.le_of_ble_eq_true rfl, Nat.le_of_ble_eq_true rfl⟩) hA hw (fun r_66 G_65 H locs hp hw => ?_)
      obtain ⟨hr9, hS, hu⟩ := hp
      rw [hr9]
      try rw [← hA9]
      try rw [← hB9]
      have hco := (hu 8 (by omega)).trans hco
      have hI := hI.scr (fun t9 h9 => hu t9 (by omega))
      have HO := fun (t9 : Nat) (h9 : t9 < 15 ∨ 31 ≤ t9) => (hu t9 (by omega)).trans (HO t9 h9)
      refine lv_icmp_ne (tgt := 253) hx hb dL_isVerdictRight_207 (by decide) (fun c9 => absurd ((nI_eq (a := alN A9 B9) (b := alN B9 A9) (by omega) (by omega)).mpr (by omega)) c9) (fun _ => ?_)
      refine lv_aload_n hx hb dL_isVerdictRight_210 rfl (lv_at hl 9 rfl) ?_
      refine lv_iload_n hx hb dL_isVerdictRight_211 rfl (lv_at hl 10 rfl) ?_
      refine lv_iload_n hx hb dL_isVerdictRight_212 rfl (lv_at hl 11 rfl) ?_
      refine tg_calld (va_runV (As := [.int (nI a0), .int (nI b0)]) (rest := []) (Ts := []) ⟨hx, hb, hml, hown, fun _ h9 => absurd h9 List.not_mem_nil⟩ (pu_doubt l E _ ad v G_65 hI hS a0 b0 (by omega) (by omega)) (rc_cwV hAm qw_775 qw_1 qw_778 qw_776 qw_777 rfl rfl hd_X6_doubt ⟨Nat.le_of_ble_eq_true rfl, Nat.le_of_ble_eq_true rfl⟩) (tg_preV hAm hA hw hco (q := vwCl[7]) rfl) rfl rfl hl.1 rfl (lv_room (Nat.le_of_ble_eq_true rfl)) dL_isVerdictRight_213 ⟨Nat.le_of_ble_eq_true rfl, Nat.le_of_ble_eq_true rfl⟩) hA hw (fun r_68 G_67 H locs hp hw => ?_)
      obtain ⟨hr9, hS, hu⟩ := hp
      rw [hr9]
      try rw [← hA9]
      try rw [← hB9]
      have hco := (hu 8 (by omega)).trans hco
      have hI := hI.scr (fun t9 h9 => hu t9 (by omega))
      have HO := fun (t9 : Nat) (h9 : t9 < 15 ∨ 31 ≤ t9) => (hu t9 (by omega)).trans (HO t9 h9)
      refine lv_iload hx hb dL_isVerdictRight_216 (lv_at hl 4 rfl) ?_
      refine lv_i2d hx hb dL_isVerdictRight_218 ?_
      refine lv_dmul hx hb dL_isVerdictRight_219 hdb.1 ?_
      refine rc_topd (dq (hiN A9 B9) (alN A9 B9)) rfl ?_
      refine lv_iload hx hb dL_isVerdictRight_220 (lv_at hl 6 rfl) ?_
      refine lv_i2d hx hb dL_isVerdictRight_222 ?_
      refine lv_dsub hx hb dL_isVerdictRight_223 hdb.2.1 ?_
      refine rc_topd (dr (hiN A9 B9) (alN A9 B9)) rfl ?_
      refine la_absD hx hb (by rw [hml]; exact hl.1.symm) hown (hAm.wd qw_783 rfl rfl) (hAm.wd qw_784 rfl rfl) (hAm.wd qw_10 rfl rfl) (hAm.wd qw_785 rfl rfl) (Nat.le_of_ble_eq_true rfl) (Nat.le_of_ble_eq_true rfl) (Nat.le_of_ble_eq_true rfl) (Nat.le_of_ble_eq_true rfl) hdb.2.1 dL_isVerdictRight_224 ?_
      refine lv_ldc2d (v := 4562254508917369340) hx hb hown (hAm.wd qw_793 rfl rfl) dL_isVerdictRight_227 ?_
      refine lv_dcmp hx hb dL_isVerdictRight_230 ?_
      refine lv_if_ge (tgt := 253) hx hb dL_isVerdictRight_231 (by decide) (fun c9 => absurd c9 hdb.2.2) (fun _ => ?_)
      refine lv_iload_n hx hb dL_isVerdictRight_234 rfl (lv_at hl 10 rfl) ?_
      refine lv_iload_n hx hb dL_isVerdictRight_235 rfl (lv_at hl 11 rfl) ?_
      refine lv_icmp_ne (tgt := 249) hx hb dL_isVerdictRight_236 (by decide) (fun c_69 => ?_) (fun c_69 => ?_)
      · have c_69 := mt (nI_eq (a := a0) (b := b0) (by omega) (by omega)).mpr c_69
        refine lv_iconst (v := 1) hx hb dL_isVerdictRight_249 (by decide) ?_
        refine lv_goto (tgt := 254) hx hb dL_isVerdictRight_250 (by decide) ?_
        exact tg_zret hx hb hr hlocks hw rfl (⟨rfl, hS, HO⟩) (Nat.le_of_ble_eq_true rfl) (Nat.le_of_ble_eq_true rfl) dL_isVerdictRight_254
      · have c_69 := (nI_eq (a := a0) (b := b0) (by omega) (by omega)).mp c_69
        have hss : crs A9 B9 = A9.length * A9.length := by rw [hB9, ← (show a0 = b0 by omega), ← hA9]; exact crs_self A9
        refine lv_iload hx hb dL_isVerdictRight_239 (lv_at hl 7 rfl) ?_
        refine lv_iload hx hb dL_isVerdictRight_241 (lv_at hl 3 rfl) ?_
        refine lv_iload hx hb dL_isVerdictRight_243 (lv_at hl 3 rfl) ?_
        refine lv_imul hx hb dL_isVerdictRight_245 ?_
        refine rc_topi (nI (A9.length * A9.length)) (pk_mul A9.length A9.length) ?_
        refine lv_icmp_ne (tgt := 253) hx hb dL_isVerdictRight_246 (by decide) (fun c9 => absurd ((nI_eq (a := crs A9 B9) (b := A9.length * A9.length) (by omega) (by omega)).mpr (by omega)) c9) (fun _ => ?_)
        refine lv_iconst (v := 1) hx hb dL_isVerdictRight_249 (by decide) ?_
        refine lv_goto (tgt := 254) hx hb dL_isVerdictRight_250 (by decide) ?_
        exact tg_zret hx hb hr hlocks hw rfl (⟨rfl, hS, HO⟩) (Nat.le_of_ble_eq_true rfl) (Nat.le_of_ble_eq_true rfl) dL_isVerdictRight_254
