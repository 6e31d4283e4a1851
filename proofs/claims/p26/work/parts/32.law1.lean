/-! the law's own methods: below, the checks of the case and of a verdict -/
def shr (x k : Int32) : Int32 := x >>> (k &&& 31)
theorem wait_lt6 {v : av_V} (h : okV v) {g b : Nat} (hW : caseW v g b) : (samp v (waitF v g b)).length < 6 := by
  have h1 : vN v 0 < 7 := h.2.2.2.2.2.1
  have hA : (samp v g).length ≤ 6 := by rw [samp_len]; exact szN_le _ _
  have hB : (samp v (prN g b)).length ≤ 6 := by rw [samp_len]; exact szN_le _ _
  obtain ⟨-, ho, -⟩ := hW
  unfold waitF
  unfold outD outF at ho
  by_cases e : (samp v g).length < (samp v (prN g b)).length
  · rw [if_pos e]; omega
  · rw [if_neg e]
    by_cases e1 : (samp v g).length < vN v 0 ∨ (samp v (prN g b)).length < vN v 0
    · omega
    · rw [if_neg e1] at ho
      by_cases e6 : (samp v (prN g b)).length = 6
      · exfalso
        have e7 : (samp v g).length = 6 := by omega
        by_cases q1 : hiN (samp v g) (samp v (prN g b)) * 1000 ≤ vN v 1 * alN (samp v g) (samp v (prN g b))
        · rw [if_pos q1] at ho; omega
        · rw [if_neg q1] at ho
          by_cases q2 : loN (samp v g) (samp v (prN g b)) * 1000 ≤ vN v 1 * alN (samp v g) (samp v (prN g b))
          · rw [if_pos q2] at ho; omega
          · rw [if_neg q2, if_pos ⟨e7, e6⟩] at ho; omega
      · omega
theorem nmN_0 {v : av_V} (h : ∀ c, c < 6 → (vC v c).1 = 0) : smR (fun c => bN (vC v c).1) 6 = 0 := by
  rw [smR_congr (g := fun _ => 0) (fun i hi => by rw [h i hi]; rfl), smR_zero]
theorem nmN_1 {v : av_V} {k : Nat} (hk : k < 6) (h : (vC v k).1 = 1) : 1 ≤ smR (fun c => bN (vC v c).1) 6 := by
  have h1 := smR_one (f := fun c => bN (vC v c).1) (n := 6) hk
  have h2 : bN (vC v k).1 = 1 := by rw [h]; rfl
  exact Nat.le_trans (Nat.le_of_eq h2.symm) h1
theorem smR_bN (v : av_V) : smR (fun c => bN (vC v c).1) 6 ≤ 6 := smR_le (g := fun c => bN (vC v c).1) (fun i => bN_le _) 6
set_option maxHeartbeats 4000000 in
set_option maxRecDepth 100000 in
theorem lw_below (l : Launch) (E : rc_E) (sz : Nat) (G : tg_G) (x : Int32) (n : Nat) (h0 : 0 < n) (hn : n < 2 ^ 31) : tg_M l yL_below [Cond.code yL_below cL_below 2 (some FieldType.int)] { frames := 0, cells := 0, slots := 0, locals := 0 } E [.int x, .int (nI n)] G sz (tg_Qi E (fun r u => r = nI (bl x n) ∧ u = G)) 0 0 := by
  refine tg_in (cc := cL_below) (maxL := 2) (ret := (some FieldType.int)) (tg_Qi E (fun r u => r = nI (bl x n) ∧ u = G)) (by decide) rfl (Nat.le_of_ble_eq_true rfl) ?_
  intro p e s m args below meth cd ls A hx hb hr hml hown hlocks hin hA hAm hw hl
  have hown : s.vm.findClass RL = some m.cls := hown
  have hl : lv_has ls 2 [(0, .int x), (1, .int (nI n))] := hl
  refine lv_iload_n hx hb dL_below_0 rfl (lv_at hl 0 rfl) ?_
  refine lv_ldc (v := 2147483647) hx hb hown (hAm.wd qw_621 rfl rfl) dL_below_1 ?_
  refine lv_iand hx hb dL_below_3 ?_
  refine rc_topi (nI (x.toBitVec.toNat % 2 ^ 31)) (bl_and x) ?_
  refine lv_iload_n hx hb dL_below_4 rfl (lv_at hl 1 rfl) ?_
  refine lv_irem hx hb dL_below_5 (nI_ne0 h0 hn) ?_
  refine rc_topi (nI (bl x n)) (bl_rem x h0 hn) ?_
  exact tg_iret hx hb hr hlocks hw (⟨rfl, rfl⟩) (Nat.le_of_ble_eq_true rfl) (Nat.le_of_ble_eq_true rfl) dL_below_6
theorem hd_X6_ofCase : yX6_ofCase.cls ≠ "java/lang/invoke/MethodHandle" ∧ yX6_ofCase.cls ≠ "java/lang/invoke/VarHandle" ∧ (parseMethodDescriptor yX6_ofCase.desc).map (fun d => d.parameters.length) = some 1 := by decide +kernel
theorem hd_X6_verdict : yX6_verdict.cls ≠ "java/lang/invoke/MethodHandle" ∧ yX6_verdict.cls ≠ "java/lang/invoke/VarHandle" ∧ (parseMethodDescriptor yX6_verdict.desc).map (fun d => d.parameters.length) = some 3 := by decide +kernel
theorem hd_X6_ofChange : yX6_ofChange.cls ≠ "java/lang/invoke/MethodHandle" ∧ yX6_ofChange.cls ≠ "java/lang/invoke/VarHandle" ∧ (parseMethodDescriptor yX6_ofChange.desc).map (fun d => d.parameters.length) = some 2 := by decide +kernel
theorem hd_X6_many : yX6_many.cls ≠ "java/lang/invoke/MethodHandle" ∧ yX6_many.cls ≠ "java/lang/invoke/VarHandle" ∧ (parseMethodDescriptor yX6_many.desc).map (fun d => d.parameters.length) = some 1 := by decide +kernel
set_option maxHeartbeats 4000000 in
set_option maxRecDepth 100000 in
theorem lw_case (l : Launch) (E : rc_E) (sz : Nat) (ad : Nat → Nat) (v : av_V) (G : tg_G) (hI : ssH E ad v G) (hS : scH E ad G) (hok : caseOK v) (hn : nmOK v) : tg_M l yL_isCaseRight [Cond.code yL_isCaseRight cL_isCaseRight 6 (some FieldType.boolean)] { frames := 6, cells := 0, slots := 0, locals := 132 } E [.ref (ad 8)] G sz (tg_Qi E (fun r u => r = 1 ∧ scH E ad u ∧ ∀ t9, t9 < 15 ∨ 31 ≤ t9 → u t9 = G t9)) 0 0 := by
  refine tg_in (cc := cL_isCaseRight) (maxL := 6) (ret := (some FieldType.boolean)) (tg_Qi E (fun r u => r = 1 ∧ scH E ad u ∧ ∀ t9, t9 < 15 ∨ 31 ≤ t9 → u t9 = G t9)) (by decide) rfl (Nat.le_of_ble_eq_true rfl) ?_
  intro p e s m args below meth cd ls A hx hb hr hml hown hlocks hin hA hAm hw hl
  have hown : s.vm.findClass RL = some m.cls := hown
  have hl : lv_has ls 6 [(0, .ref (ad 8))] := hl
  have h0 : okV v := hI.1
  have hco := hI.2.1
  have HO := fun (t9 : Nat) (_ : t9 < 15 ∨ 31 ≤ t9) => (rfl : G t9 = G t9)
  rcases hok with hoff | ⟨g, b, hW⟩
  · refine lv_aload_n hx hb dL_isCaseRight_0 rfl (lv_at hl 0 rfl) ?_
    refine lv_iconst (v := 0) hx hb dL_isCaseRight_1 (by decide) ?_
    refine tg_callRi (va_runV (As := [.int 0]) (rest := []) (Ts := []) ⟨hx, hb, hml, hown, fun _ h9 => absurd h9 List.not_mem_nil⟩ (pu_ofCase0 l E _ ad v G hI) (rc_cwV hAm qw_689 qw_1 qw_692 qw_690 qw_691 rfl rfl hd_X6_ofCase ⟨Nat.le_of_ble_eq_true rfl, Nat.le_of_ble_eq_true rfl⟩) (tg_preV hAm hA hw hco (q := vwCl[7]) rfl) rfl rfl hl.1 rfl (lv_room (Nat.le_of_ble_eq_true rfl)) dL_isCaseRight_2 ⟨Nat.le_of_ble_eq_true rfl, Nat.le_of_ble_eq_true rfl⟩) hA hw (fun H locs hw => ?_)
    refine rc_topi ((-1)) (hoff.2.1) ?_
    refine lv_istore_n (lv' := [(1, .int (-1)), (0, .ref (ad 8))]) hx hb dL_isCaseRight_5 rfl hl (by decide) rfl (fun ls hl => ?_)
    refine lv_aload_n hx hb dL_isCaseRight_6 rfl (lv_at hl 1 rfl) ?_
    refine lv_iconst (v := 1) hx hb dL_isCaseRight_7 (by decide) ?_
    refine tg_callRi (va_runV (As := [.int 1]) (rest := []) (Ts := []) ⟨hx, hb, hml, hown, fun _ h9 => absurd h9 List.not_mem_nil⟩ (pu_ofCase1 l E _ ad v G hI) (rc_cwV hAm qw_689 qw_1 qw_692 qw_690 qw_691 rfl rfl hd_X6_ofCase ⟨Nat.le_of_ble_eq_true rfl, Nat.le_of_ble_eq_true rfl⟩) (tg_preV hAm hA hw hco (q := vwCl[7]) rfl) rfl rfl hl.1 rfl (lv_room (Nat.le_of_ble_eq_true rfl)) dL_isCaseRight_8 ⟨Nat.le_of_ble_eq_true rfl, Nat.le_of_ble_eq_true rfl⟩) hA hw (fun H locs hw => ?_)
    refine rc_topi ((-1)) (hoff.2.2.1) ?_
    refine lv_istore_n (lv' := [(2, .int (-1)), (1, .int (-1)), (0, .ref (ad 8))]) hx hb dL_isCaseRight_11 rfl hl (by decide) rfl (fun ls hl => ?_)
    refine lv_aload_n hx hb dL_isCaseRight_12 rfl (lv_at hl 2 rfl) ?_
    refine lv_iconst (v := 2) hx hb dL_isCaseRight_13 (by decide) ?_
    refine tg_callRi (va_runV (As := [.int 2]) (rest := []) (Ts := []) ⟨hx, hb, hml, hown, fun _ h9 => absurd h9 List.not_mem_nil⟩ (pu_ofCase2 l E _ ad v G hI) (rc_cwV hAm qw_689 qw_1 qw_692 qw_690 qw_691 rfl rfl hd_X6_ofCase ⟨Nat.le_of_ble_eq_true rfl, Nat.le_of_ble_eq_true rfl⟩) (tg_preV hAm hA hw hco (q := vwCl[7]) rfl) rfl rfl hl.1 rfl (lv_room (Nat.le_of_ble_eq_true rfl)) dL_isCaseRight_14 ⟨Nat.le_of_ble_eq_true rfl, Nat.le_of_ble_eq_true rfl⟩) hA hw (fun H locs hw => ?_)
    refine rc_topi ((-1)) (hoff.2.2.2) ?_
    refine lv_istore_n (lv' := [(3, .int (-1)), (2, .int (-1)), (1, .int (-1)), (0, .ref (ad 8))]) hx hb dL_isCaseRight_17 rfl hl (by decide) rfl (fun ls hl => ?_)
    refine lv_iload_n hx hb dL_isCaseRight_18 rfl (lv_at hl 2 rfl) ?_
    refine lv_if_ge (tgt := 38) hx hb dL_isCaseRight_19 (by decide) (fun c9 => absurd c9 (by decide)) (fun _ => ?_)
    refine lv_iload_n hx hb dL_isCaseRight_22 rfl (lv_at hl 1 rfl) ?_
    refine lv_iconst (v := (-1)) hx hb dL_isCaseRight_23 (by decide) ?_
    refine lv_icmp_ne (tgt := 36) hx hb dL_isCaseRight_24 (by decide) (fun c9 => absurd (by decide) c9) (fun _ => ?_)
    refine lv_iload_n hx hb dL_isCaseRight_27 rfl (lv_at hl 0 rfl) ?_
    refine lv_iconst (v := (-1)) hx hb dL_isCaseRight_28 (by decide) ?_
    refine lv_icmp_ne (tgt := 36) hx hb dL_isCaseRight_29 (by decide) (fun c9 => absurd (by decide) c9) (fun _ => ?_)
    refine lv_iconst (v := 1) hx hb dL_isCaseRight_32 (by decide) ?_
    refine lv_goto (tgt := 37) hx hb dL_isCaseRight_33 (by decide) ?_
    exact tg_zret hx hb hr hlocks hw rfl (⟨rfl, hS, HO⟩) (Nat.le_of_ble_eq_true rfl) (Nat.le_of_ble_eq_true rfl) dL_isCaseRight_37
  · obtain ⟨hC, ho9, hwt⟩ := id hW
    obtain ⟨ce1, ce2, ce3, hgb, hb6⟩ := id hC
    obtain ⟨hpg, hpb⟩ := prN_in hgb
    have hl6 := wait_lt6 h0 hW
    have hn6 := smR_bN v
    have hA6 : (samp v g).length ≤ 6 := by rw [samp_len]; exact szN_le _ _
    have hB6 : (samp v (prN g b)).length ≤ 6 := by rw [samp_len]; exact szN_le _ _
    refine lv_aload_n hx hb dL_isCaseRight_0 rfl (lv_at hl 0 rfl) ?_
    refine lv_iconst (v := 0) hx hb dL_isCaseRight_1 (by decide) ?_
    refine tg_callRi (va_runV (As := [.int 0]) (rest := []) (Ts := []) ⟨hx, hb, hml, hown, fun _ h9 => absurd h9 List.not_mem_nil⟩ (pu_ofCase0 l E _ ad v G hI) (rc_cwV hAm qw_689 qw_1 qw_692 qw_690 qw_691 rfl rfl hd_X6_ofCase ⟨Nat.le_of_ble_eq_true rfl, Nat.le_of_ble_eq_true rfl⟩) (tg_preV hAm hA hw hco (q := vwCl[7]) rfl) rfl rfl hl.1 rfl (lv_room (Nat.le_of_ble_eq_true rfl)) dL_isCaseRight_2 ⟨Nat.le_of_ble_eq_true rfl, Nat.le_of_ble_eq_true rfl⟩) hA hw (fun H locs hw => ?_)
    refine rc_topi (nI g) (ce2) ?_
    refine lv_istore_n (lv' := [(1, .int (nI g)), (0, .ref (ad 8))]) hx hb dL_isCaseRight_5 rfl hl (by decide) rfl (fun ls hl => ?_)
    refine lv_aload_n hx hb dL_isCaseRight_6 rfl (lv_at hl 1 rfl) ?_
    refine lv_iconst (v := 1) hx hb dL_isCaseRight_7 (by decide) ?_
    refine tg_callRi (va_runV (As := [.int 1]) (rest := []) (Ts := []) ⟨hx, hb, hml, hown, fun _ h9 => absurd h9 List.not_mem_nil⟩ (pu_ofCase1 l E _ ad v G hI) (rc_cwV hAm qw_689 qw_1 qw_692 qw_690 qw_691 rfl rfl hd_X6_ofCase ⟨Nat.le_of_ble_eq_true rfl, Nat.le_of_ble_eq_true rfl⟩) (tg_preV hAm hA hw hco (q := vwCl[7]) rfl) rfl rfl hl.1 rfl (lv_room (Nat.le_of_ble_eq_true rfl)) dL_isCaseRight_8 ⟨Nat.le_of_ble_eq_true rfl, Nat.le_of_ble_eq_true rfl⟩) hA hw (fun H locs hw => ?_)
    refine rc_topi (nI b) (ce3) ?_
    refine lv_istore_n (lv' := [(2, .int (nI b)), (1, .int (nI g)), (0, .ref (ad 8))]) hx hb dL_isCaseRight_11 rfl hl (by decide) rfl (fun ls hl => ?_)
    refine lv_aload_n hx hb dL_isCaseRight_12 rfl (lv_at hl 2 rfl) ?_
    refine lv_iconst (v := 2) hx hb dL_isCaseRight_13 (by decide) ?_
    refine tg_callRi (va_runV (As := [.int 2]) (rest := []) (Ts := []) ⟨hx, hb, hml, hown, fun _ h9 => absurd h9 List.not_mem_nil⟩ (pu_ofCase2 l E _ ad v G hI) (rc_cwV hAm qw_689 qw_1 qw_692 qw_690 qw_691 rfl rfl hd_X6_ofCase ⟨Nat.le_of_ble_eq_true rfl, Nat.le_of_ble_eq_true rfl⟩) (tg_preV hAm hA hw hco (q := vwCl[7]) rfl) rfl rfl hl.1 rfl (lv_room (Nat.le_of_ble_eq_true rfl)) dL_isCaseRight_14 ⟨Nat.le_of_ble_eq_true rfl, Nat.le_of_ble_eq_true rfl⟩) hA hw (fun H locs hw => ?_)
    refine rc_topi (nI (waitF v g b)) (hwt) ?_
    refine lv_istore_n (lv' := [(3, .int (nI (waitF v g b))), (2, .int (nI b)), (1, .int (nI g)), (0, .ref (ad 8))]) hx hb dL_isCaseRight_17 rfl hl (by decide) rfl (fun ls hl => ?_)
    refine lv_iload_n hx hb dL_isCaseRight_18 rfl (lv_at hl 2 rfl) ?_
    refine lv_if_ge (tgt := 38) hx hb dL_isCaseRight_19 (by decide) (fun _ => ?_) (fun c9 => absurd ((nI_leI (a := 0) (b := g) (by omega) (by omega)).mpr (by omega)) c9)
    refine lv_iload_n hx hb dL_isCaseRight_38 rfl (lv_at hl 1 rfl) ?_
    refine lv_iload_n hx hb dL_isCaseRight_39 rfl (lv_at hl 2 rfl) ?_
    refine lv_isub hx hb dL_isCaseRight_40 ?_
    refine rc_topi (nI (b - g)) (pk_sub (a := b) (b := g) (by omega)) ?_
    refine lv_iconst (v := 1) hx hb dL_isCaseRight_41 (by decide) ?_
    refine lv_icmp_ne (tgt := 49) hx hb dL_isCaseRight_42 (by decide) (fun c_1 => ?_) (fun c_1 => ?_)
    · have c_1 := mt (nI_eq (a := b - g) (b := 1) (by omega) (by omega)).mpr c_1
      refine lv_iload_n hx hb dL_isCaseRight_49 rfl (lv_at hl 2 rfl) ?_
      refine lv_iload_n hx hb dL_isCaseRight_50 rfl (lv_at hl 1 rfl) ?_
      refine lv_iadd hx hb dL_isCaseRight_51 ?_
      refine rc_topi (nI (g + b)) (nI_add g b) ?_
      refine lv_iconst (v := 2) hx hb dL_isCaseRight_52 (by decide) ?_
      refine lv_idiv hx hb dL_isCaseRight_53 (by decide) ?_
      refine rc_topi (nI ((g + b) / 2)) (pk_div (a := g + b) (d := 2) (by omega) (by omega) (by omega)) ?_
      refine rc_topi (nI (prN g b)) (congrArg nI (if_neg (by omega)).symm) ?_
      refine lv_istore (lv' := [(4, .int (nI (prN g b))), (3, .int (nI (waitF v g b))), (2, .int (nI b)), (1, .int (nI g)), (0, .ref (ad 8))]) hx hb dL_isCaseRight_54 hl (by decide) rfl (fun ls hl => ?_)
      refine lv_aload_n hx hb dL_isCaseRight_56 rfl (lv_at hl 4 rfl) ?_
      refine lv_iload_n hx hb dL_isCaseRight_57 rfl (lv_at hl 3 rfl) ?_
      refine lv_iload hx hb dL_isCaseRight_58 (lv_at hl 0 rfl) ?_
      refine lv_iconst (v := 0) hx hb dL_isCaseRight_60 (by decide) ?_
      refine tg_calli (va_runV (As := [.int (nI g), .int (nI (prN g b)), .int 0]) (rest := []) (Ts := []) ⟨hx, hb, hml, hown, fun _ h9 => absurd h9 List.not_mem_nil⟩ (pu_verdict0 l E _ ad v G hI hS g (prN g b) (by omega) (by omega)) (rc_cwV hAm qw_771 qw_1 qw_774 qw_772 qw_773 rfl rfl hd_X6_verdict ⟨Nat.le_of_ble_eq_true rfl, Nat.le_of_ble_eq_true rfl⟩) (tg_preV hAm hA hw hco (q := vwCl[7]) rfl) rfl rfl hl.1 rfl (lv_room (Nat.le_of_ble_eq_true rfl)) dL_isCaseRight_61 ⟨Nat.le_of_ble_eq_true rfl, Nat.le_of_ble_eq_true rfl⟩) hA hw (fun r_3 G_2 H locs hp hw => ?_)
      obtain ⟨hr9, hS, hu⟩ := hp
      rw [hr9]
      have hco := (hu 8 (by omega)).trans hco
      have hI := hI.scr (fun t9 h9 => hu t9 (by omega))
      have HO := fun (t9 : Nat) (h9 : t9 < 15 ∨ 31 ≤ t9) => (hu t9 (by omega)).trans (HO t9 h9)
      rcases ho9 with ho | ho
      · refine rc_topi 0 (show nI (outD v (samp v g) (samp v (prN g b))) = 0 by rw [ho]; rfl) ?_
        refine lv_istore (lv' := [(5, .int 0), (4, .int (nI (prN g b))), (3, .int (nI (waitF v g b))), (2, .int (nI b)), (1, .int (nI g)), (0, .ref (ad 8))]) hx hb dL_isCaseRight_64 hl (by decide) rfl (fun ls hl => ?_)
        refine lv_iload_n hx hb dL_isCaseRight_66 rfl (lv_at hl 4 rfl) ?_
        refine lv_iload_n hx hb dL_isCaseRight_67 rfl (lv_at hl 3 rfl) ?_
        refine lv_icmp_ge (tgt := 108) hx hb dL_isCaseRight_68 (by decide) (fun c9 => absurd c9 (fun z9 => absurd ((nI_leI (a := b) (b := g) (by omega) (by omega)).mp z9) (by omega))) (fun _ => ?_)
        refine lv_iload hx hb dL_isCaseRight_71 (lv_at hl 0 rfl) ?_
        refine lv_if_eq (tgt := 82) hx hb dL_isCaseRight_73 (by decide) (fun _ => ?_) (fun c9 => absurd (by decide) c9)
        refine lv_iload_n hx hb dL_isCaseRight_82 rfl (lv_at hl 2 rfl) ?_
        refine lv_aload_n hx hb dL_isCaseRight_83 rfl (lv_at hl 5 rfl) ?_
        refine lv_iload_n hx hb dL_isCaseRight_84 rfl (lv_at hl 4 rfl) ?_
        refine lv_iconst (v := 1) hx hb dL_isCaseRight_85 (by decide) ?_
        refine tg_calli (va_runV (As := [.int (nI g), .int 1]) (rest := [.int (nI (waitF v g b))]) (Ts := []) ⟨hx, hb, hml, hown, fun _ h9 => absurd h9 List.not_mem_nil⟩ (pu_ofChange1 l E _ ad v G_2 hI hS g (by omega)) (rc_cwV hAm qw_709 qw_1 qw_712 qw_710 qw_711 rfl rfl hd_X6_ofChange ⟨Nat.le_of_ble_eq_true rfl, Nat.le_of_ble_eq_true rfl⟩) (tg_preV hAm hA hw hco (q := vwCl[7]) rfl) rfl rfl hl.1 rfl (lv_room (Nat.le_of_ble_eq_true rfl)) dL_isCaseRight_86 ⟨Nat.le_of_ble_eq_true rfl, Nat.le_of_ble_eq_true rfl⟩) hA hw (fun r_5 G_4 H locs hp hw => ?_)
        obtain ⟨hr9, hS, hu⟩ := hp
        rw [hr9]
        have hco := (hu 8 (by omega)).trans hco
        have hI := hI.scr (fun t9 h9 => hu t9 (by omega))
        have HO := fun (t9 : Nat) (h9 : t9 < 15 ∨ 31 ≤ t9) => (hu t9 (by omega)).trans (HO t9 h9)
        refine lv_aload_n hx hb dL_isCaseRight_89 rfl (lv_at hl 5 rfl) ?_
        refine lv_iload hx hb dL_isCaseRight_90 (lv_at hl 1 rfl) ?_
        refine lv_iconst (v := 1) hx hb dL_isCaseRight_92 (by decide) ?_
        refine tg_calli (va_runV (As := [.int (nI (prN g b)), .int 1]) (rest := [.int (nI ((samp v g).length)), .int (nI (waitF v g b))]) (Ts := []) ⟨hx, hb, hml, hown, fun _ h9 => absurd h9 List.not_mem_nil⟩ (pu_ofChange1 l E _ ad v G_4 hI hS (prN g b) (by omega)) (rc_cwV hAm qw_709 qw_1 qw_712 qw_710 qw_711 rfl rfl hd_X6_ofChange ⟨Nat.le_of_ble_eq_true rfl, Nat.le_of_ble_eq_true rfl⟩) (tg_preV hAm hA hw hco (q := vwCl[7]) rfl) rfl rfl hl.1 rfl (lv_room (Nat.le_of_ble_eq_true rfl)) dL_isCaseRight_93 ⟨Nat.le_of_ble_eq_true rfl, Nat.le_of_ble_eq_true rfl⟩) hA hw (fun r_7 G_6 H locs hp hw => ?_)
        obtain ⟨hr9, hS, hu⟩ := hp
        rw [hr9]
        have hco := (hu 8 (by omega)).trans hco
        have hI := hI.scr (fun t9 h9 => hu t9 (by omega))
        have HO := fun (t9 : Nat) (h9 : t9 < 15 ∨ 31 ≤ t9) => (hu t9 (by omega)).trans (HO t9 h9)
        refine lv_icmp_ge (tgt := 103) hx hb dL_isCaseRight_96 (by decide) (fun c_8 => ?_) (fun c_8 => ?_)
        · have c_8 := (nI_leI (a := (samp v (prN g b)).length) (b := (samp v g).length) (by omega) (by omega)).mp c_8
          refine lv_iload hx hb dL_isCaseRight_103 (lv_at hl 1 rfl) ?_
          have hw9 : waitF v g b = prN g b := by unfold waitF; first | exact if_pos (by omega) | exact if_neg (by omega)
          refine lv_icmp_eq (tgt := 110) hx hb dL_isCaseRight_105 (by decide) (fun _ => ?_) (fun c9 => absurd ((nI_eq (a := waitF v g b) (b := prN g b) (by omega) (by omega)).mpr (by omega)) c9)
          refine lv_aload_n hx hb dL_isCaseRight_110 rfl (lv_at hl 5 rfl) ?_
          refine lv_iload_n hx hb dL_isCaseRight_111 rfl (lv_at hl 2 rfl) ?_
          refine lv_iconst (v := 1) hx hb dL_isCaseRight_112 (by decide) ?_
          refine tg_calli (va_runV (As := [.int (nI (waitF v g b)), .int 1]) (rest := []) (Ts := []) ⟨hx, hb, hml, hown, fun _ h9 => absurd h9 List.not_mem_nil⟩ (pu_ofChange1 l E _ ad v G_6 hI hS (waitF v g b) (by omega)) (rc_cwV hAm qw_709 qw_1 qw_712 qw_710 qw_711 rfl rfl hd_X6_ofChange ⟨Nat.le_of_ble_eq_true rfl, Nat.le_of_ble_eq_true rfl⟩) (tg_preV hAm hA hw hco (q := vwCl[7]) rfl) rfl rfl hl.1 rfl (lv_room (Nat.le_of_ble_eq_true rfl)) dL_isCaseRight_113 ⟨Nat.le_of_ble_eq_true rfl, Nat.le_of_ble_eq_true rfl⟩) hA hw (fun r_10 G_9 H locs hp hw => ?_)
          obtain ⟨hr9, hS, hu⟩ := hp
          rw [hr9]
          have hco := (hu 8 (by omega)).trans hco
          have hI := hI.scr (fun t9 h9 => hu t9 (by omega))
          have HO := fun (t9 : Nat) (h9 : t9 < 15 ∨ 31 ≤ t9) => (hu t9 (by omega)).trans (HO t9 h9)
          refine lv_bipush (v := 6) hx hb dL_isCaseRight_116 (by decide) ?_
          refine lv_icmp_ge (tgt := 156) hx hb dL_isCaseRight_118 (by decide) (fun c9 => absurd c9 (fun z9 => absurd ((nI_leI (a := 6) (b := (samp v (waitF v g b)).length) (by omega) (by omega)).mp z9) (by omega))) (fun _ => ?_)
          refine lv_aload_n hx hb dL_isCaseRight_121 rfl (lv_at hl 5 rfl) ?_
          refine lv_iconst (v := 3) hx hb dL_isCaseRight_122 (by decide) ?_
          refine tg_callRi (va_runV (As := [.int 3]) (rest := []) (Ts := []) ⟨hx, hb, hml, hown, fun _ h9 => absurd h9 List.not_mem_nil⟩ (pu_ofCase3 l E _ ad v G_9 hI) (rc_cwV hAm qw_689 qw_1 qw_692 qw_690 qw_691 rfl rfl hd_X6_ofCase ⟨Nat.le_of_ble_eq_true rfl, Nat.le_of_ble_eq_true rfl⟩) (tg_preV hAm hA hw hco (q := vwCl[7]) rfl) rfl rfl hl.1 rfl (lv_room (Nat.le_of_ble_eq_true rfl)) dL_isCaseRight_123 ⟨Nat.le_of_ble_eq_true rfl, Nat.le_of_ble_eq_true rfl⟩) hA hw (fun H locs hw => ?_)
          rcases hn with ⟨hn1, hn2⟩ | ⟨k9, hk9, hn1, hn2⟩
          · refine rc_topi (-1) hn1 ?_
            refine lv_iconst (v := (-1)) hx hb dL_isCaseRight_126 (by decide) ?_
            refine lv_icmp_ne (tgt := 134) hx hb dL_isCaseRight_127 (by decide) (fun c9 => absurd (by decide) c9) (fun _ => ?_)
            refine lv_iconst (v := 1) hx hb dL_isCaseRight_130 (by decide) ?_
            refine lv_goto (tgt := 135) hx hb dL_isCaseRight_131 (by decide) ?_
            refine lv_aload_n hx hb dL_isCaseRight_135 rfl (lv_at hl 5 rfl) ?_
            refine lv_bipush (v := 7) hx hb dL_isCaseRight_136 (by decide) ?_
            refine tg_callRi (va_runV (As := [.int 7]) (rest := [.int 1]) (Ts := []) ⟨hx, hb, hml, hown, fun _ h9 => absurd h9 List.not_mem_nil⟩ (pu_many7 l E _ ad v G_9 hI) (rc_cwV hAm qw_511 qw_1 qw_514 qw_512 qw_513 rfl rfl hd_X6_many ⟨Nat.le_of_ble_eq_true rfl, Nat.le_of_ble_eq_true rfl⟩) (tg_preV hAm hA hw hco (q := vwCl[7]) rfl) rfl rfl hl.1 rfl (lv_room (Nat.le_of_ble_eq_true rfl)) dL_isCaseRight_138 ⟨Nat.le_of_ble_eq_true rfl, Nat.le_of_ble_eq_true rfl⟩) hA hw (fun H locs hw => ?_)
            refine rc_topi 0 (congrArg nI (nmN_0 hn2)) ?_
            refine lv_if_ne (tgt := 148) hx hb dL_isCaseRight_141 (by decide) (fun c9 => absurd (by decide) c9) (fun _ => ?_)
            refine lv_iconst (v := 1) hx hb dL_isCaseRight_144 (by decide) ?_
            refine lv_goto (tgt := 149) hx hb dL_isCaseRight_145 (by decide) ?_
            refine lv_icmp_ne (tgt := 156) hx hb dL_isCaseRight_149 (by decide) (fun c9 => absurd (by decide) c9) (fun _ => ?_)
            refine lv_iconst (v := 1) hx hb dL_isCaseRight_152 (by decide) ?_
            refine lv_goto (tgt := 157) hx hb dL_isCaseRight_153 (by decide) ?_
            exact tg_zret hx hb hr hlocks hw rfl (⟨rfl, hS, HO⟩) (Nat.le_of_ble_eq_true rfl) (Nat.le_of_ble_eq_true rfl) dL_isCaseRight_157
          · refine rc_topi (nI k9) hn1 ?_
            refine lv_iconst (v := (-1)) hx hb dL_isCaseRight_126 (by decide) ?_
            refine lv_icmp_ne (tgt := 134) hx hb dL_isCaseRight_127 (by decide) (fun _ => ?_) (fun c9 => absurd c9 ((fun z9 => absurd (show nI k9 < 0 by rw [z9]; decide) (nI_pos (by omega)))))
            refine lv_iconst (v := 0) hx hb dL_isCaseRight_134 (by decide) ?_
            refine lv_aload_n hx hb dL_isCaseRight_135 rfl (lv_at hl 5 rfl) ?_
            refine lv_bipush (v := 7) hx hb dL_isCaseRight_136 (by decide) ?_
            refine tg_callRi (va_runV (As := [.int 7]) (rest := [.int 0]) (Ts := []) ⟨hx, hb, hml, hown, fun _ h9 => absurd h9 List.not_mem_nil⟩ (pu_many7 l E _ ad v G_9 hI) (rc_cwV hAm qw_511 qw_1 qw_514 qw_512 qw_513 rfl rfl hd_X6_many ⟨Nat.le_of_ble_eq_true rfl, Nat.le_of_ble_eq_true rfl⟩) (tg_preV hAm hA hw hco (q := vwCl[7]) rfl) rfl rfl hl.1 rfl (lv_room (Nat.le_of_ble_eq_true rfl)) dL_isCaseRight_138 ⟨Nat.le_of_ble_eq_true rfl, Nat.le_of_ble_eq_true rfl⟩) hA hw (fun H locs hw => ?_)
            have hn7 := nmN_1 hk9 hn2
            refine lv_if_ne (tgt := 148) hx hb dL_isCaseRight_141 (by decide) (fun _ => ?_) (fun c9 => absurd c9 (fun z9 => absurd ((nI_eq (a := smR (fun c => bN (vC v c).1) 6) (b := 0) (by omega) (by omega)).mp z9) (by omega)))
            refine lv_iconst (v := 0) hx hb dL_isCaseRight_148 (by decide) ?_
            refine lv_icmp_ne (tgt := 156) hx hb dL_isCaseRight_149 (by decide) (fun c9 => absurd (by decide) c9) (fun _ => ?_)
            refine lv_iconst (v := 1) hx hb dL_isCaseRight_152 (by decide) ?_
            refine lv_goto (tgt := 157) hx hb dL_isCaseRight_153 (by decide) ?_
            exact tg_zret hx hb hr hlocks hw rfl (⟨rfl, hS, HO⟩) (Nat.le_of_ble_eq_true rfl) (Nat.le_of_ble_eq_true rfl) dL_isCaseRight_157
        · have c_8 := mt (nI_leI (a := (samp v (prN g b)).length) (b := (samp v g).length) (by omega) (by omega)).mpr c_8
          refine lv_iload_n hx hb dL_isCaseRight_99 rfl (lv_at hl 4 rfl) ?_
          refine lv_goto (tgt := 105) hx hb dL_isCaseRight_100 (by decide) ?_
          have hw9 : waitF v g b = g := by unfold waitF; first | exact if_pos (by omega) | exact if_neg (by omega)
          refine lv_icmp_eq (tgt := 110) hx hb dL_isCaseRight_105 (by decide) (fun _ => ?_) (fun c9 => absurd ((nI_eq (a := waitF v g b) (b := g) (by omega) (by omega)).mpr (by omega)) c9)
          refine lv_aload_n hx hb dL_isCaseRight_110 rfl (lv_at hl 5 rfl) ?_
          refine lv_iload_n hx hb dL_isCaseRight_111 rfl (lv_at hl 2 rfl) ?_
          refine lv_iconst (v := 1) hx hb dL_isCaseRight_112 (by decide) ?_
          refine tg_calli (va_runV (As := [.int (nI (waitF v g b)), .int 1]) (rest := []) (Ts := []) ⟨hx, hb, hml, hown, fun _ h9 => absurd h9 List.not_mem_nil⟩ (pu_ofChange1 l E _ ad v G_6 hI hS (waitF v g b) (by omega)) (rc_cwV hAm qw_709 qw_1 qw_712 qw_710 qw_711 rfl rfl hd_X6_ofChange ⟨Nat.le_of_ble_eq_true rfl, Nat.le_of_ble_eq_true rfl⟩) (tg_preV hAm hA hw hco (q := vwCl[7]) rfl) rfl rfl hl.1 rfl (lv_room (Nat.le_of_ble_eq_true rfl)) dL_isCaseRight_113 ⟨Nat.le_of_ble_eq_true rfl, Nat.le_of_ble_eq_true rfl⟩) hA hw (fun r_12 G_11 H locs hp hw => ?_)
          obtain ⟨hr9, hS, hu⟩ := hp
          rw [hr9]
          have hco := (hu 8 (by omega)).trans hco
          have hI := hI.scr (fun t9 h9 => hu t9 (by omega))
          have HO := fun (t9 : Nat) (h9 : t9 < 15 ∨ 31 ≤ t9) => (hu t9 (by omega)).trans (HO t9 h9)
          refine lv_bipush (v := 6) hx hb dL_isCaseRight_116 (by decide) ?_
          refine lv_icmp_ge (tgt := 156) hx hb dL_isCaseRight_118 (by decide) (fun c9 => absurd c9 (fun z9 => absurd ((nI_leI (a := 6) (b := (samp v (waitF v g b)).length) (by omega) (by omega)).mp z9) (by omega))) (fun _ => ?_)
          refine lv_aload_n hx hb dL_isCaseRight_121 rfl (lv_at hl 5 rfl) ?_
          refine lv_iconst (v := 3) hx hb dL_isCaseRight_122 (by decide) ?_
          refine tg_callRi (va_runV (As := [.int 3]) (rest := []) (Ts := []) ⟨hx, hb, hml, hown, fun _ h9 => absurd h9 List.not_mem_nil⟩ (pu_ofCase3 l E _ ad v G_11 hI) (rc_cwV hAm qw_689 qw_1 qw_692 qw_690 qw_691 rfl rfl hd_X6_ofCase ⟨Nat.le_of_ble_eq_true rfl, Nat.le_of_ble_eq_true rfl⟩) (tg_preV hAm hA hw hco (q := vwCl[7]) rfl) rfl rfl hl.1 rfl (lv_room (Nat.le_of_ble_eq_true rfl)) dL_isCaseRight_123 ⟨Nat.le_of_ble_eq_true rfl, Nat.le_of_ble_eq_true rfl⟩) hA hw (fun H locs hw => ?_)
          rcases hn with ⟨hn1, hn2⟩ | ⟨k9, hk9, hn1, hn2⟩
          · refine rc_topi (-1) hn1 ?_
            refine lv_iconst (v := (-1)) hx hb dL_isCaseRight_126 (by decide) ?_
            refine lv_icmp_ne (tgt := 134) hx hb dL_isCaseRight_127 (by decide) (fun c9 => absurd (by decide) c9) (fun _ => ?_)
            refine lv_iconst (v := 1) hx hb dL_isCaseRight_130 (by decide) ?_
            refine lv_goto (tgt := 135) hx hb dL_isCaseRight_131 (by decide) ?_
            refine lv_aload_n hx hb dL_isCaseRight_135 rfl (lv_at hl 5 rfl) ?_
            refine lv_bipush (v := 7) hx hb dL_isCaseRight_136 (by decide) ?_
            refine tg_callRi (va_runV (As := [.int 7]) (rest := [.int 1]) (Ts := []) ⟨hx, hb, hml, hown, fun _ h9 => absurd h9 List.not_mem_nil⟩ (pu_many7 l E _ ad v G_11 hI) (rc_cwV hAm qw_511 qw_1 qw_514 qw_512 qw_513 rfl rfl hd_X6_many ⟨Nat.le_of_ble_eq_true rfl, Nat.le_of_ble_eq_true rfl⟩) (tg_preV hAm hA hw hco (q := vwCl[7]) rfl) rfl rfl hl.1 rfl (lv_room (Nat.le_of_ble_eq_true rfl)) dL_isCaseRight_138 ⟨Nat.le_of_ble_eq_true rfl, Nat.le_of_ble_eq_true rfl⟩) hA hw (fun H locs hw => ?_)
            refine rc_topi 0 (congrArg nI (nmN_0 hn2)) ?_
            refine lv_if_ne (tgt := 148) hx hb dL_isCaseRight_141 (by decide) (fun c9 => absurd (by decide) c9) (fun _ => ?_)
            refine lv_iconst (v := 1) hx hb dL_isCaseRight_144 (by decide) ?_
            refine lv_goto (tgt := 149) hx hb dL_isCaseRight_145 (by decide) ?_
            refine lv_icmp_ne (tgt := 156) hx hb dL_isCaseRight_149 (by decide) (fun c9 => absurd (by decide) c9) (fun _ => ?_)
            refine lv_iconst (v := 1) hx hb dL_isCaseRight_152 (by decide) ?_
            refine lv_goto (tgt := 157) hx hb dL_isCaseRight_153 (by decide) ?_
            exact tg_zret hx hb hr hlocks hw rfl (⟨rfl, hS, HO⟩) (Nat.le_of_ble_eq_true rfl) (Nat.le_of_ble_eq_true rfl) dL_isCaseRight_157
          · refine rc_topi (nI k9) hn1 ?_
            refine lv_iconst (v := (-1)) hx hb dL_isCaseRight_126 (by decide) ?_
            refine lv_icmp_ne (tgt := 134) hx hb dL_isCaseRight_127 (by decide) (fun _ => ?_) (fun c9 => absurd c9 ((fun z9 => absurd (show nI k9 < 0 by rw [z9]; decide) (nI_pos (by omega)))))
            refine lv_iconst (v := 0) hx hb dL_isCaseRight_134 (by decide) ?_
            refine lv_aload_n hx hb dL_isCaseRight_135 rfl (lv_at hl 5 rfl) ?_
            refine lv_bipush (v := 7) hx hb dL_isCaseRight_136 (by decide) ?_
            refine tg_callRi (va_runV (As := [.int 7]) (rest := [.int 0]) (Ts := []) ⟨hx, hb, hml, hown, fun _ h9 => absurd h9 List.not_mem_nil⟩ (pu_many7 l E _ ad v G_11 hI) (rc_cwV hAm qw_511 qw_1 qw_514 qw_512 qw_513 rfl rfl hd_X6_many ⟨Nat.le_of_ble_eq_true rfl, Nat.le_of_ble_eq_true rfl⟩) (tg_preV hAm hA hw hco (q := vwCl[7]) rfl) rfl rfl hl.1 rfl (lv_room (Nat.le_of_ble_eq_true rfl)) dL_isCaseRight_138 ⟨Nat.le_of_ble_eq_true rfl, Nat.le_of_ble_eq_true rfl⟩) hA hw (fun H locs hw => ?_)
            have hn7 := nmN_1 hk9 hn2
            refine lv_if_ne (tgt := 148) hx hb dL_isCaseRight_141 (by decide) (fun _ => ?_) (fun c9 => absurd c9 (fun z9 => absurd ((nI_eq (a := smR (fun c => bN (vC v c).1) 6) (b := 0) (by omega) (by omega)).mp z9) (by omega)))
            refine lv_iconst (v := 0) hx hb dL_isCaseRight_148 (by decide) ?_
            refine lv_icmp_ne (tgt := 156) hx hb dL_isCaseRight_149 (by decide) (fun c9 => absurd (by decide) c9) (fun _ => ?_)
            refine lv_iconst (v := 1) hx hb dL_isCaseRight_152 (by decide) ?_
            refine lv_goto (tgt := 157) hx hb dL_isCaseRight_153 (by decide) ?_
            exact tg_zret hx hb hr hlocks hw rfl (⟨rfl, hS, HO⟩) (Nat.le_of_ble_eq_true rfl) (Nat.le_of_ble_eq_true rfl) dL_isCaseRight_157
      · refine rc_topi 4 (show nI (outD v (samp v g) (samp v (prN g b))) = 4 by rw [ho]; rfl) ?_
        refine lv_istore (lv' := [(5, .int 4), (4, .int (nI (prN g b))), (3, .int (nI (waitF v g b))), (2, .int (nI b)), (1, .int (nI g)), (0, .ref (ad 8))]) hx hb dL_isCaseRight_64 hl (by decide) rfl (fun ls hl => ?_)
        refine lv_iload_n hx hb dL_isCaseRight_66 rfl (lv_at hl 4 rfl) ?_
        refine lv_iload_n hx hb dL_isCaseRight_67 rfl (lv_at hl 3 rfl) ?_
        refine lv_icmp_ge (tgt := 108) hx hb dL_isCaseRight_68 (by decide) (fun c9 => absurd c9 (fun z9 => absurd ((nI_leI (a := b) (b := g) (by omega) (by omega)).mp z9) (by omega))) (fun _ => ?_)
        refine lv_iload hx hb dL_isCaseRight_71 (lv_at hl 0 rfl) ?_
        refine lv_if_eq (tgt := 82) hx hb dL_isCaseRight_73 (by decide) (fun c9 => absurd c9 (by decide)) (fun _ => ?_)
        refine lv_iload hx hb dL_isCaseRight_76 (lv_at hl 0 rfl) ?_
        refine lv_iconst (v := 4) hx hb dL_isCaseRight_78 (by decide) ?_
        refine lv_icmp_ne (tgt := 108) hx hb dL_isCaseRight_79 (by decide) (fun c9 => absurd (by decide) c9) (fun _ => ?_)
        refine lv_iload_n hx hb dL_isCaseRight_82 rfl (lv_at hl 2 rfl) ?_
        refine lv_aload_n hx hb dL_isCaseRight_83 rfl (lv_at hl 5 rfl) ?_
        refine lv_iload_n hx hb dL_isCaseRight_84 rfl (lv_at hl 4 rfl) ?_
        refine lv_iconst (v := 1) hx hb dL_isCaseRight_85 (by decide) ?_
        refine tg_calli (va_runV (As := [.int (nI g), .int 1]) (rest := [.int (nI (waitF v g b))]) (Ts := []) ⟨hx, hb, hml, hown, fun _ h9 => absurd h9 List.not_mem_nil⟩ (pu_ofChange1 l E _ ad v G_2 hI hS g (by omega)) (rc_cwV hAm qw_709 qw_1 qw_712 qw_710 qw_711 rfl rfl hd_X6_ofChange ⟨Nat.le_of_ble_eq_true rfl, Nat.le_of_ble_eq_true rfl⟩) (tg_preV hAm hA hw hco (q := vwCl[7]) rfl) rfl rfl hl.1 rfl (lv_room (Nat.le_of_ble_eq_true rfl)) dL_isCaseRight_86 ⟨Nat.le_of_ble_eq_true rfl, Nat.le_of_ble_eq_true rfl⟩) hA hw (fun r_14 G_13 H locs hp hw => ?_)
        obtain ⟨hr9, hS, hu⟩ := hp
        rw [hr9]
        have hco := (hu 8 (by omega)).trans hco
        have hI := hI.scr (fun t9 h9 => hu t9 (by omega))
        have HO := fun (t9 : Nat) (h9 : t9 < 15 ∨ 31 ≤ t9) => (hu t9 (by omega)).trans (HO t9 h9)
        refine lv_aload_n hx hb dL_isCaseRight_89 rfl (lv_at hl 5 rfl) ?_
        refine lv_iload hx hb dL_isCaseRight_90 (lv_at hl 1 rfl) ?_
        refine lv_iconst (v := 1) hx hb dL_isCaseRight_92 (by decide) ?_
        refine tg_calli (va_runV (As := [.int (nI (prN g b)), .int 1]) (rest := [.int (nI ((samp v g).length)), .int (nI (waitF v g b))]) (Ts := []) ⟨hx, hb, hml, hown, fun _ h9 => absurd h9 List.not_mem_nil⟩ (pu_ofChange1 l E _ ad v G_13 hI hS (prN g b) (by omega)) (rc_cwV hAm qw_709 qw_1 qw_712 qw_710 qw_711 rfl rfl hd_X6_ofChange ⟨Nat.le_of_ble_eq_true rfl, Nat.le_of_ble_eq_true rfl⟩) (tg_preV hAm hA hw hco (q := vwCl[7]) rfl) rfl rfl hl.1 rfl (lv_room (Nat.le_of_ble_eq_true rfl)) dL_isCaseRight_93 ⟨Nat.le_of_ble_eq_true rfl, Nat.le_of_ble_eq_true rfl⟩) hA hw (fun r_16 G_15 H locs hp hw => ?_)
        obtain ⟨hr9, hS, hu⟩ := hp
        rw [hr9]
        have hco := (hu 8 (by omega)).trans hco
        have hI := hI.scr (fun t9 h9 => hu t9 (by omega))
        have HO := fun (t9 : Nat) (h9 : t9 < 15 ∨ 31 ≤ t9) => (hu t9 (by omega)).trans (HO t9 h9)
        refine lv_icmp_ge (tgt := 103) hx hb dL_isCaseRight_96 (by decide) (fun c_17 => ?_) (fun c_17 => ?_)
        · have c_17 := (nI_leI (a := (samp v (prN g b)).length) (b := (samp v g).length) (by omega) (by omega)).mp c_17
          refine lv_iload hx hb dL_isCaseRight_103 (lv_at hl 1 rfl) ?_
          have hw9 : waitF v g b = prN g b := by unfold waitF; first | exact if_pos (by omega) | exact if_neg (by omega)
          refine lv_icmp_eq (tgt := 110) hx hb dL_isCaseRight_105 (by decide) (fun _ => ?_) (fun c9 => absurd ((nI_eq (a := waitF v g b) (b := prN g b) (by omega) (by omega)).mpr (by omega)) c9)
          refine lv_aload_n hx hb dL_isCaseRight_110 rfl (lv_at hl 5 rfl) ?_
          refine lv_iload_n hx hb dL_isCaseRight_111 rfl (lv_at hl 2 rfl) ?_
          refine lv_iconst (v := 1) hx hb dL_isCaseRight_112 (by decide) ?_
          refine tg_calli (va_runV (As := [.int (nI (waitF v g b)), .int 1]) (rest := []) (Ts := []) ⟨hx, hb, hml, hown, fun _ h9 => absurd h9 List.not_mem_nil⟩ (pu_ofChange1 l E _ ad v G_15 hI hS (waitF v g b) (by omega)) (rc_cwV hAm qw_709 qw_1 qw_712 qw_710 qw_711 rfl rfl hd_X6_ofChange ⟨Nat.le_of_ble_eq_true rfl, Nat.le_of_ble_eq_true rfl⟩) (tg_preV hAm hA hw hco (q := vwCl[7]) rfl) rfl rfl hl.1 rfl (lv_room (Nat.le_of_ble_eq_true rfl)) dL_isCaseRight_113 ⟨Nat.le_of_ble_eq_true rfl, Nat.le_of_ble_eq_true rfl⟩) hA hw (fun r_19 G_18 H locs hp hw => ?_)
          obtain ⟨hr9, hS, hu⟩ := hp
          rw [hr9]
          have hco := (hu 8 (by omega)).trans hco
          have hI := hI.scr (fun t9 h9 => hu t9 (by omega))
          have HO := fun (t9 : Nat) (h9 : t9 < 15 ∨ 31 ≤ t9) => (hu t9 (by omega)).trans (HO t9 h9)
          refine lv_bipush (v := 6) hx hb dL_isCaseRight_116 (by decide) ?_
          refine lv_icmp_ge (tgt := 156) hx hb dL_isCaseRight_118 (by decide) (fun c9 => absurd c9 (fun z9 => absurd ((nI_leI (a := 6) (b := (samp v (waitF v g b)).length) (by omega) (by omega)).mp z9) (by omega))) (fun _ => ?_)
          refine lv_aload_n hx hb dL_isCaseRight_121 rfl (lv_at hl 5 rfl) ?_
          refine lv_iconst (v := 3) hx hb dL_isCaseRight_122 (by decide) ?_
          refine tg_callRi (va_runV (As := [.int 3]) (rest := []) (Ts := []) ⟨hx, hb, hml, hown, fun _ h9 => absurd h9 List.not_mem_nil⟩ (pu_ofCase3 l E _ ad v G_18 hI) (rc_cwV hAm qw_689 qw_1 qw_692 qw_690 qw_691 rfl rfl hd_X6_ofCase ⟨Nat.le_of_ble_eq_true rfl, Nat.le_of_ble_eq_true rfl⟩) (tg_preV hAm hA hw hco (q := vwCl[7]) rfl) rfl rfl hl.1 rfl (lv_room (Nat.le_of_ble_eq_true rfl)) dL_isCaseRight_123 ⟨Nat.le_of_ble_eq_true rfl, Nat.le_of_ble_eq_true rfl⟩) hA hw (fun H locs hw => ?_)
          rcases hn with ⟨hn1, hn2⟩ | ⟨k9, hk9, hn1, hn2⟩
          · refine rc_topi (-1) hn1 ?_
            refine lv_iconst (v := (-1)) hx hb dL_isCaseRight_126 (by decide) ?_
            refine lv_icmp_ne (tgt := 134) hx hb dL_isCaseRight_127 (by decide) (fun c9 => absurd (by decide) c9) (fun _ => ?_)
            refine lv_iconst (v := 1) hx hb dL_isCaseRight_130 (by decide) ?_
            refine lv_goto (tgt := 135) hx hb dL_isCaseRight_131 (by decide) ?_
            refine lv_aload_n hx hb dL_isCaseRight_135 rfl (lv_at hl 5 rfl) ?_
            refine lv_bipush (v := 7) hx hb dL_isCaseRight_136 (by decide) ?_
            refine tg_callRi (va_runV (As := [.int 7]) (rest := [.int 1]) (Ts := []) ⟨hx, hb, hml, hown, fun _ h9 => absurd h9 List.not_mem_nil⟩ (pu_many7 l E _ ad v G_18 hI) (rc_cwV hAm qw_511 qw_1 qw_514 qw_512 qw_513 rfl rfl hd_X6_many ⟨Nat.le_of_ble_eq_true rfl, Nat.le_of_ble_eq_true rfl⟩) (tg_preV hAm hA hw hco (q := vwCl[7]) rfl) rfl rfl hl.1 rfl (lv_room (Nat.le_of_ble_eq_true rfl)) dL_isCaseRight_138 ⟨Nat.le_of_ble_eq_true rfl, Nat.le_of_ble_eq_true rfl⟩) hA hw (fun H locs hw => ?_)
            refine rc_topi 0 (congrArg nI (nmN_0 hn2)) ?_
            refine lv_if_ne (tgt := 148) hx hb dL_isCaseRight_141 (by decide) (fun c9 => absurd (by decide) c9) (fun _ => ?_)
            refine lv_iconst (v := 1) hx hb dL_isCaseRight_144 (by decide) ?_
            refine lv_goto (tgt := 149) hx hb dL_isCaseRight_145 (by decide) ?_
            refine lv_icmp_ne (tgt := 156) hx hb dL_isCaseRight_149 (by decide) (fun c9 => absurd (by decide) c9) (fun _ => ?_)
            refine lv_iconst (v := 1) hx hb dL_isCaseRight_152 (by decide) ?_
            refine lv_goto (tgt := 157) hx hb dL_isCaseRight_153 (by decide) ?_
            exact tg_zret hx hb hr hlocks hw rfl (⟨rfl, hS, HO⟩) (Nat.le_of_ble_eq_true rfl) (Nat.le_of_ble_eq_true rfl) dL_isCaseRight_157
          · refine rc_topi (nI k9) hn1 ?_
            refine lv_iconst (v := (-1)) hx hb dL_isCaseRight_126 (by decide) ?_
            refine lv_icmp_ne (tgt := 134) hx hb dL_isCaseRight_127 (by decide) (fun _ => ?_) (fun c9 => absurd c9 ((fun z9 => absurd (show nI k9 < 0 by rw [z9]; decide) (nI_pos (by omega)))))
            refine lv_iconst (v := 0) hx hb dL_isCaseRight_134 (by decide) ?_
            refine lv_aload_n hx hb dL_isCaseRight_135 rfl (lv_at hl 5 rfl) ?_
            refine lv_bipush (v := 7) hx hb dL_isCaseRight_136 (by decide) ?_
            refine tg_callRi (va_runV (As := [.int 7]) (rest := [.int 0]) (Ts := []) ⟨hx, hb, hml, hown, fun _ h9 => absurd h9 List.not_mem_nil⟩ (pu_many7 l E _ ad v G_18 hI) (rc_cwV hAm qw_511 qw_1 qw_514 qw_512 qw_513 rfl rfl hd_X6_many ⟨Nat.le_of_ble_eq_true rfl, Nat.le_of_ble_eq_true rfl⟩) (tg_preV hAm hA hw hco (q := vwCl[7]) rfl) rfl rfl hl.1 rfl (lv_room (Nat.le_of_ble_eq_true rfl)) dL_isCaseRight_138 ⟨Nat.le_of_ble_eq_true rfl, Nat.le_of_ble_eq_true rfl⟩) hA hw (fun H locs hw => ?_)
            have hn7 := nmN_1 hk9 hn2
            refine lv_if_ne (tgt := 148) hx hb dL_isCaseRight_141 (by decide) (fun _ => ?_) (fun c9 => absurd c9 (fun z9 => absurd ((nI_eq (a := smR (fun c => bN (vC v c).1) 6) (b := 0) (by omega) (by omega)).mp z9) (by omega)))
            refine lv_iconst (v := 0) hx hb dL_isCaseRight_148 (by decide) ?_
            refine lv_icmp_ne (tgt := 156) hx hb dL_isCaseRight_149 (by decide) (fun c9 => absurd (by decide) c9) (fun _ => ?_)
            refine lv_iconst (v := 1) hx hb dL_isCaseRight_152 (by decide) ?_
            refine lv_goto (tgt := 157) hx hb dL_isCaseRight_153 (by decide) ?_
            exact tg_zret hx hb hr hlocks hw rfl (⟨rfl, hS, HO⟩) (Nat.le_of_ble_eq_true rfl) (Nat.le_of_ble_eq_true rfl) dL_isCaseRight_157
        · have c_17 := mt (nI_leI (a := (samp v (prN g b)).length) (b := (samp v g).length) (by omega) (by omega)).mpr c_17
          refine lv_iload_n hx hb dL_isCaseRight_99 rfl (lv_at hl 4 rfl) ?_
          refine lv_goto (tgt := 105) hx hb dL_isCaseRight_100 (by decide) ?_
          have hw9 : waitF v g b = g := by unfold waitF; first | exact if_pos (by omega) | exact if_neg (by omega)
          refine lv_icmp_eq (tgt := 110) hx hb dL_isCaseRight_105 (by decide) (fun _ => ?_) (fun c9 => absurd ((nI_eq (a := waitF v g b) (b := g) (by omega) (by omega)).mpr (by omega)) c9)
          refine lv_aload_n hx hb dL_isCaseRight_110 rfl (lv_at hl 5 rfl) ?_
          refine lv_iload_n hx hb dL_isCaseRight_111 rfl (lv_at hl 2 rfl) ?_
          refine lv_iconst (v := 1) hx hb dL_isCaseRight_112 (by decide) ?_
          refine tg_calli (va_runV (As := [.int (nI (waitF v g b)), .int 1]) (rest := []) (Ts := []) ⟨hx, hb, hml, hown, fun _ h9 => absurd h9 List.not_mem_nil⟩ (pu_ofChange1 l E _ ad v G_15 hI hS (waitF v g b) (by omega)) (rc_cwV hAm qw_709 qw_1 qw_712 qw_710 qw_711 rfl rfl hd_X6_ofChange ⟨Nat.le_of_ble_eq_true rfl, Nat.le_of_ble_eq_true rfl⟩) (tg_preV hAm hA hw hco (q := vwCl[7]) rfl) rfl rfl hl.1 rfl (lv_room (Nat.le_of_ble_eq_true rfl)) dL_isCaseRight_113 ⟨Nat.le_of_ble_eq_true rfl, Nat.le_of_ble_eq_true rfl⟩) hA hw (fun r_21 G_20 H locs hp hw => ?_)
          obtain ⟨hr9, hS, hu⟩ := hp
          rw [hr9]
          have hco := (hu 8 (by omega)).trans hco
          have hI := hI.scr (fun t9 h9 => hu t9 (by omega))
          have HO := fun (t9 : Nat) (h9 : t9 < 15 ∨ 31 ≤ t9) => (hu t9 (by omega)).trans (HO t9 h9)
          refine lv_bipush (v := 6) hx hb dL_isCaseRight_116 (by decide) ?_
          refine lv_icmp_ge (tgt := 156) hx hb dL_isCaseRight_118 (by decide) (fun c9 => absurd c9 (fun z9 => absurd ((nI_leI (a := 6) (b := (samp v (waitF v g b)).length) (by omega) (by omega)).mp z9) (by omega))) (fun _ => ?_)
          refine lv_aload_n hx hb dL_isCaseRight_121 rfl (lv_at hl 5 rfl) ?_
          refine lv_iconst (v := 3) hx hb dL_isCaseRight_122 (by decide) ?_
          refine tg_callRi (va_runV (As := [.int 3]) (rest := []) (Ts := []) ⟨hx, hb, hml, hown, fun _ h9 => absurd h9 List.not_mem_nil⟩ (pu_ofCase3 l E _ ad v G_20 hI) (rc_cwV hAm qw_689 qw_1 qw_692 qw_690 qw_691 rfl rfl hd_X6_ofCase ⟨Nat.le_of_ble_eq_true rfl, Nat.le_of_ble_eq_true rfl⟩) (tg_preV hAm hA hw hco (q := vwCl[7]) rfl) rfl rfl hl.1 rfl (lv_room (Nat.le_of_ble_eq_true rfl)) dL_isCaseRight_123 ⟨Nat.le_of_ble_eq_true rfl, Nat.le_of_ble_eq_true rfl⟩) hA hw (fun H locs hw => ?_)
          rcases hn with ⟨hn1, hn2⟩ | ⟨k9, hk9, hn1, hn2⟩
          · refine rc_topi (-1) hn1 ?_
            refine lv_iconst (v := (-1)) hx hb dL_isCaseRight_126 (by decide) ?_
            refine lv_icmp_ne (tgt := 134) hx hb dL_isCaseRight_127 (by decide) (fun c9 => absurd (by decide) c9) (fun _ => ?_)
            refine lv_iconst (v := 1) hx hb dL_isCaseRight_130 (by decide) ?_
            refine lv_goto (tgt := 135) hx hb dL_isCaseRight_131 (by decide) ?_
            refine lv_aload_n hx hb dL_isCaseRight_135 rfl (lv_at hl 5 rfl) ?_
            refine lv_bipush (v := 7) hx hb dL_isCaseRight_136 (by decide) ?_
            refine tg_callRi (va_runV (As := [.int 7]) (rest := [.int 1]) (Ts := []) ⟨hx, hb, hml, hown, fun _ h9 => absurd h9 List.not_mem_nil⟩ (pu_many7 l E _ ad v G_20 hI) (rc_cwV hAm qw_511 qw_1 qw_514 qw_512 qw_513 rfl rfl hd_X6_many ⟨Nat.le_of_ble_eq_true rfl, Nat.le_of_ble_eq_true rfl⟩) (tg_preV hAm hA hw hco (q := vwCl[7]) rfl) rfl rfl hl.1 rfl (lv_room (Nat.le_of_ble_eq_true rfl)) dL_isCaseRight_138 ⟨Nat.le_of_ble_eq_true rfl, Nat.le_of_ble_eq_true rfl⟩) hA hw (fun H locs hw => ?_)
            refine rc_topi 0 (congrArg nI (nmN_0 hn2)) ?_
            refine lv_if_ne (tgt := 148) hx hb dL_isCaseRight_141 (by decide) (fun c9 => absurd (by decide) c9) (fun _ => ?_)
            refine lv_iconst (v := 1) hx hb dL_isCaseRight_144 (by decide) ?_
            refine lv_goto (tgt := 149) hx hb dL_isCaseRight_145 (by decide) ?_
            refine lv_icmp_ne (tgt := 156) hx hb dL_isCaseRight_149 (by decide) (fun c9 => absurd (by decide) c9) (fun _ => ?_)
            refine lv_iconst (v := 1) hx hb dL_isCaseRight_152 (by decide) ?_
            refine lv_goto (tgt := 157) hx hb dL_isCaseRight_153 (by decide) ?_
            exact tg_zret hx hb hr hlocks hw rfl (⟨rfl, hS, HO⟩) (Nat.le_of_ble_eq_true rfl) (Nat.le_of_ble_eq_true rfl) dL_isCaseRight_157
          · refine rc_topi (nI k9) hn1 ?_
            refine lv_iconst (v := (-1)) hx hb dL_isCaseRight_126 (by decide) ?_
            refine lv_icmp_ne (tgt := 134) hx hb dL_isCaseRight_127 (by decide) (fun _ => ?_) (fun c9 => absurd c9 ((fun z9 => absurd (show nI k9 < 0 by rw [z9]; decide) (nI_pos (by omega)))))
            refine lv_iconst (v := 0) hx hb dL_isCaseRight_134 (by decide) ?_
            refine lv_aload_n hx hb dL_isCaseRight_135 rfl (lv_at hl 5 rfl) ?_
            refine lv_bipush (v := 7) hx hb dL_isCaseRight_136 (by decide) ?_
            refine tg_callRi (va_runV (As := [.int 7]) (rest := [.int 0]) (Ts := []) ⟨hx, hb, hml, hown, fun _ h9 => absurd h9 List.not_mem_nil⟩ (pu_many7 l E _ ad v G_20 hI) (rc_cwV hAm qw_511 qw_1 qw_514 qw_512 qw_513 rfl rfl hd_X6_many ⟨Nat.le_of_ble_eq_true rfl, Nat.le_of_ble_eq_true rfl⟩) (tg_preV hAm hA hw hco (q := vwCl[7]) rfl) rfl rfl hl.1 rfl (lv_room (Nat.le_of_ble_eq_true rfl)) dL_isCaseRight_138 ⟨Nat.le_of_ble_eq_true rfl, Nat.le_of_ble_eq_true rfl⟩) hA hw (fun H locs hw => ?_)
            have hn7 := nmN_1 hk9 hn2
            refine lv_if_ne (tgt := 148) hx hb dL_isCaseRight_141 (by decide) (fun _ => ?_) (fun c9 => absurd c9 (fun z9 => absurd ((nI_eq (a := smR (fun c => bN (vC v c).1) 6) (b := 0) (by omega) (by omega)).mp z9) (by omega)))
            refine lv_iconst (v := 0) hx hb dL_isCaseRight_148 (by decide) ?_
            refine lv_icmp_ne (tgt := 156) hx hb dL_isCaseRight_149 (by decide) (fun c9 => absurd (by decide) c9) (fun _ => ?_)
            refine lv_iconst (v := 1) hx hb dL_isCaseRight_152 (by decide) ?_
            refine lv_goto (tgt := 157) hx hb dL_isCaseRight_153 (by decide) ?_
            exact tg_zret hx hb hr hlocks hw rfl (⟨rfl, hS, HO⟩) (Nat.le_of_ble_eq_true rfl) (Nat.le_of_ble_eq_true rfl) dL_isCaseRight_157
    · have c_1 := (nI_eq (a := b - g) (b := 1) (by omega) (by omega)).mp c_1
      refine lv_iload_n hx hb dL_isCaseRight_45 rfl (lv_at hl 1 rfl) ?_
      refine lv_goto (tgt := 54) hx hb dL_isCaseRight_46 (by decide) ?_
      refine rc_topi (nI (prN g b)) (congrArg nI (if_pos (by omega)).symm) ?_
      refine lv_istore (lv' := [(4, .int (nI (prN g b))), (3, .int (nI (waitF v g b))), (2, .int (nI b)), (1, .int (nI g)), (0, .ref (ad 8))]) hx hb dL_isCaseRight_54 hl (by decide) rfl (fun ls hl => ?_)
      refine lv_aload_n hx hb dL_isCaseRight_56 rfl (lv_at hl 4 rfl) ?_
      refine lv_iload_n hx hb dL_isCaseRight_57 rfl (lv_at hl 3 rfl) ?_
      refine lv_iload hx hb dL_isCaseRight_58 (lv_at hl 0 rfl) ?_
      refine lv_iconst (v := 0) hx hb dL_isCaseRight_60 (by decide) ?_
      refine tg_calli (va_runV (As := [.int (nI g), .int (nI (prN g b)), .int 0]) (rest := []) (Ts := []) ⟨hx, hb, hml, hown, fun _ h9 => absurd h9 List.not_mem_nil⟩ (pu_verdict0 l E _ ad v G hI hS g (prN g b) (by omega) (by omega)) (rc_cwV hAm qw_771 qw_1 qw_774 qw_772 qw_773 rfl rfl hd_X6_verdict ⟨Nat.le_of_ble_eq_true rfl, Nat.le_of_ble_eq_true rfl⟩) (tg_preV hAm hA hw hco (q := vwCl[7]) rfl) rfl rfl hl.1 rfl (lv_room (Nat.le_of_ble_eq_true rfl)) dL_isCaseRight_61 ⟨Nat.le_of_ble_eq_true rfl, Nat.le_of_ble_eq_true rfl⟩) hA hw (fun r_23 G_22 H locs hp hw => ?_)
      obtain ⟨hr9, hS, hu⟩ := hp
      rw [hr9]
      have hco := (hu 8 (by omega)).trans hco
      have hI := hI.scr (fun t9 h9 => hu t9 (by omega))
      have HO := fun (t9 : Nat) (h9 : t9 < 15 ∨ 31 ≤ t9) => (hu t9 (by omega)).trans (HO t9 h9)
      rcases ho9 with ho | ho
      · refine rc_topi 0 (show nI (outD v (samp v g) (samp v (prN g b))) = 0 by rw [ho]; rfl) ?_
        refine lv_istore (lv' := [(5, .int 0), (4, .int (nI (prN g b))), (3, .int (nI (waitF v g b))), (2, .int (nI b)), (1, .int (nI g)), (0, .ref (ad 8))]) hx hb dL_isCaseRight_64 hl (by decide) rfl (fun ls hl => ?_)
        refine lv_iload_n hx hb dL_isCaseRight_66 rfl (lv_at hl 4 rfl) ?_
        refine lv_iload_n hx hb dL_isCaseRight_67 rfl (lv_at hl 3 rfl) ?_
        refine lv_icmp_ge (tgt := 108) hx hb dL_isCaseRight_68 (by decide) (fun c9 => absurd c9 (fun z9 => absurd ((nI_leI (a := b) (b := g) (by omega) (by omega)).mp z9) (by omega))) (fun _ => ?_)
        refine lv_iload hx hb dL_isCaseRight_71 (lv_at hl 0 rfl) ?_
        refine lv_if_eq (tgt := 82) hx hb dL_isCaseRight_73 (by decide) (fun _ => ?_) (fun c9 => absurd (by decide) c9)
        refine lv_iload_n hx hb dL_isCaseRight_82 rfl (lv_at hl 2 rfl) ?_
        refine lv_aload_n hx hb dL_isCaseRight_83 rfl (lv_at hl 5 rfl) ?_
        refine lv_iload_n hx hb dL_isCaseRight_84 rfl (lv_at hl 4 rfl) ?_
        refine lv_iconst (v := 1) hx hb dL_isCaseRight_85 (by decide) ?_
        refine tg_calli (va_runV (As := [.int (nI g), .int 1]) (rest := [.int (nI (waitF v g b))]) (Ts := []) ⟨hx, hb, hml, hown, fun _ h9 => absurd h9 List.not_mem_nil⟩ (pu_ofChange1 l E _ ad v G_22 hI hS g (by omega)) (rc_cwV hAm qw_709 qw_1 qw_712 qw_710 qw_711 rfl rfl hd_X6_ofChange ⟨Nat.le_of_ble_eq_true rfl, Nat.le_of_ble_eq_true rfl⟩) (tg_preV hAm hA hw hco (q := vwCl[7]) rfl) rfl rfl hl.1 rfl (lv_room (Nat.le_of_ble_eq_true rfl)) dL_isCaseRight_86 ⟨Nat.le_of_ble_eq_true rfl, Nat.le_of_ble_eq_true rfl⟩) hA hw (fun r_25 G_24 H locs hp hw => ?_)
        obtain ⟨hr9, hS, hu⟩ := hp
        rw [hr9]
        have hco := (hu 8 (by omega)).trans hco
        have hI := hI.scr (fun t9 h9 => hu t9 (by omega))
        have HO := fun (t9 : Nat) (h9 : t9 < 15 ∨ 31 ≤ t9) => (hu t9 (by omega)).trans (HO t9 h9)
        refine lv_aload_n hx hb dL_isCaseRight_89 rfl (lv_at hl 5 rfl) ?_
        refine lv_iload hx hb dL_isCaseRight_90 (lv_at hl 1 rfl) ?_
        refine lv_iconst (v := 1) hx hb dL_isCaseRight_92 (by decide) ?_
        refine tg_calli (va_runV (As := [.int (nI (prN g b)), .int 1]) (rest := [.int (nI ((samp v g).length)), .int (nI (waitF v g b))]) (Ts := []) ⟨hx, hb, hml, hown, fun _ h9 => absurd h9 List.not_mem_nil⟩ (pu_ofChange1 l E _ ad v G_24 hI hS (prN g b) (by omega)) (rc_cwV hAm qw_709 qw_1 qw_712 qw_710 qw_711 rfl rfl hd_X6_ofChange ⟨Nat.le_of_ble_eq_true rfl, Nat.le_of_ble_eq_true rfl⟩) (tg_preV hAm hA hw hco (q := vwCl[7]) rfl) rfl rfl hl.1 rfl (lv_room (Nat.le_of_ble_eq_true rfl)) dL_isCaseRight_93 ⟨Nat.le_of_ble_eq_true rfl, Nat.le_of_ble_eq_true rfl⟩) hA hw (fun r_27 G_26 H locs hp hw => ?_)
        obtain ⟨hr9, hS, hu⟩ := hp
        rw [hr9]
        have hco := (hu 8 (by omega)).trans hco
        have hI := hI.scr (fun t9 h9 => hu t9 (by omega))
        have HO := fun (t9 : Nat) (h9 : t9 < 15 ∨ 31 ≤ t9) => (hu t9 (by omega)).trans (HO t9 h9)
        refine lv_icmp_ge (tgt := 103) hx hb dL_isCaseRight_96 (by decide) (fun c_28 => ?_) (fun c_28 => ?_)
        · have c_28 := (nI_leI (a := (samp v (prN g b)).length) (b := (samp v g).length) (by omega) (by omega)).mp c_28
          refine lv_iload hx hb dL_isCaseRight_103 (lv_at hl 1 rfl) ?_
          have hw9 : waitF v g b = prN g b := by unfold waitF; first | exact if_pos (by omega) | exact if_neg (by omega)
          refine lv_icmp_eq (tgt := 110) hx hb dL_isCaseRight_105 (by decide) (fun _ => ?_) (fun c9 => absurd ((nI_eq (a := waitF v g b) (b := prN g b) (by omega) (by omega)).mpr (by omega)) c9)
          refine lv_aload_n hx hb dL_isCaseRight_110 rfl (lv_at hl 5 rfl) ?_
          refine lv_iload_n hx hb dL_isCaseRight_111 rfl (lv_at hl 2 rfl) ?_
          refine lv_iconst (v := 1) hx hb dL_isCaseRight_112 (by decide) ?_
          refine tg_calli (va_runV (As := [.int (nI (waitF v g b)), .int 1]) (rest := []) (Ts := []) ⟨hx, hb, hml, hown, fun _ h9 => absurd h9 List.not_mem_nil⟩ (pu_ofChange1 l E _ ad v G_26 hI hS (waitF v g b) (by omega)) (rc_cwV hAm qw_709 qw_1 qw_712 qw_710 qw_711 rfl rfl hd_X6_ofChange ⟨Nat.le_of_ble_eq_true rfl, Nat.le_of_ble_eq_true rfl⟩) (tg_preV hAm hA hw hco (q := vwCl[7]) rfl) rfl rfl hl.1 rfl (lv_room (Nat.le_of_ble_eq_true rfl)) dL_isCaseRight_113 ⟨Nat.le_of_ble_eq_true rfl, Nat.le_of_ble_eq_true rfl⟩) hA hw (fun r_30 G_29 H locs hp hw => ?_)
          obtain ⟨hr9, hS, hu⟩ := hp
          rw [hr9]
          have hco := (hu 8 (by omega)).trans hco
          have hI := hI.scr (fun t9 h9 => hu t9 (by omega))
          have HO := fun (t9 : Nat) (h9 : t9 < 15 ∨ 31 ≤ t9) => (hu t9 (by omega)).trans (HO t9 h9)
          refine lv_bipush (v := 6) hx hb dL_isCaseRight_116 (by decide) ?_
          refine lv_icmp_ge (tgt := 156) hx hb dL_isCaseRight_118 (by decide) (fun c9 => absurd c9 (fun z9 => absurd ((nI_leI (a := 6) (b := (samp v (waitF v g b)).length) (by omega) (by omega)).mp z9) (by omega))) (fun _ => ?_)
          refine lv_aload_n hx hb dL_isCaseRight_121 rfl (lv_at hl 5 rfl) ?_
          refine lv_iconst (v := 3) hx hb dL_isCaseRight_122 (by decide) ?_
          refine tg_callRi (va_runV (As := [.int 3]) (rest := []) (Ts := []) ⟨hx, hb, hml, hown, fun _ h9 => absurd h9 List.not_mem_nil⟩ (pu_ofCase3 l E _ ad v G_29 hI) (rc_cwV hAm qw_689 qw_1 qw_692 qw_690 qw_691 rfl rfl hd_X6_ofCase ⟨Nat.le_of_ble_eq_true rfl, Nat.le_of_ble_eq_true rfl⟩) (tg_preV hAm hA hw hco (q := vwCl[7]) rfl) rfl rfl hl.1 rfl (lv_room (Nat.le_of_ble_eq_true rfl)) dL_isCaseRight_123 ⟨Nat.le_of_ble_eq_true rfl, Nat.le_of_ble_eq_true rfl⟩) hA hw (fun H locs hw => ?_)
          rcases hn with ⟨hn1, hn2⟩ | ⟨k9, hk9, hn1, hn2⟩
          · refine rc_topi (-1) hn1 ?_
            refine lv_iconst (v := (-1)) hx hb dL_isCaseRight_126 (by decide) ?_
            refine lv_icmp_ne (tgt := 134) hx hb dL_isCaseRight_127 (by decide) (fun c9 => absurd (by decide) c9) (fun _ => ?_)
            refine lv_iconst (v := 1) hx hb dL_isCaseRight_130 (by decide) ?_
            refine lv_goto (tgt := 135) hx hb dL_isCaseRight_131 (by decide) ?_
            refine lv_aload_n hx hb dL_isCaseRight_135 rfl (lv_at hl 5 rfl) ?_
            refine lv_bipush (v := 7) hx hb dL_isCaseRight_136 (by decide) ?_
            refine tg_callRi (va_runV (As := [.int 7]) (rest := [.int 1]) (Ts := []) ⟨hx, hb, hml, hown, fun _ h9 => absurd h9 List.not_mem_nil⟩ (pu_many7 l E _ ad v G_29 hI) (rc_cwV hAm qw_511 qw_1 qw_514 qw_512 qw_513 rfl rfl hd_X6_many ⟨Nat.le_of_ble_eq_true rfl, Nat.le_of_ble_eq_true rfl⟩) (tg_preV hAm hA hw hco (q := vwCl[7]) rfl) rfl rfl hl.1 rfl (lv_room (Nat.le_of_ble_eq_true rfl)) dL_isCaseRight_138 ⟨Nat.le_of_ble_eq_true rfl, Nat.le_of_ble_eq_true rfl⟩) hA hw (fun H locs hw => ?_)
            refine rc_topi 0 (congrArg nI (nmN_0 hn2)) ?_
            refine lv_if_ne (tgt := 148) hx hb dL_isCaseRight_141 (by decide) (fun c9 => absurd (by decide) c9) (fun _ => ?_)
            refine lv_iconst (v := 1) hx hb dL_isCaseRight_144 (by decide) ?_
            refine lv_goto (tgt := 149) hx hb dL_isCaseRight_145 (by decide) ?_
            refine lv_icmp_ne (tgt := 156) hx hb dL_isCaseRight_149 (by decide) (fun c9 => absurd (by decide) c9) (fun _ => ?_)
            refine lv_iconst (v := 1) hx hb dL_isCaseRight_152 (by decide) ?_
            refine lv_goto (tgt := 157) hx hb dL_isCaseRight_153 (by decide) ?_
            exact tg_zret hx hb hr hlocks hw rfl (⟨rfl, hS, HO⟩) (Nat.le_of_ble_eq_true rfl) (Nat.le_of_ble_eq_true rfl) dL_isCaseRight_157
          · refine rc_topi (nI k9) hn1 ?_
            refine lv_iconst (v := (-1)) hx hb dL_isCaseRight_126 (by decide) ?_
            refine lv_icmp_ne (tgt := 134) hx hb dL_isCaseRight_127 (by decide) (fun _ => ?_) (fun c9 => absurd c9 ((fun z9 => absurd (show nI k9 < 0 by rw [z9]; decide) (nI_pos (by omega)))))
            refine lv_iconst (v := 0) hx hb dL_isCaseRight_134 (by decide) ?_
            refine lv_aload_n hx hb dL_isCaseRight_135 rfl (lv_at hl 5 rfl) ?_
            refine lv_bipush (v := 7) hx hb dL_isCaseRight_136 (by decide) ?_
            refine tg_callRi (va_runV (As := [.int 7]) (rest := [.int 0]) (Ts := []) ⟨hx, hb, hml, hown, fun _ h9 => absurd h9 List.not_mem_nil⟩ (pu_many7 l E _ ad v G_29 hI) (rc_cwV hAm qw_511 qw_1 qw_514 qw_512 qw_513 rfl rfl hd_X6_many ⟨Nat.le_of_ble_eq_true rfl, Nat.le_of_ble_eq_true rfl⟩) (tg_preV hAm hA hw hco (q := vwCl[7]) rfl) rfl rfl hl.1 rfl (lv_room (Nat.le_of_ble_eq_true rfl)) dL_isCaseRight_138 ⟨Nat.le_of_ble_eq_true rfl, Nat.le_of_ble_eq_true rfl⟩) hA hw (fun H locs hw => ?_)
            have hn7 := nmN_1 hk9 hn2
            refine lv_if_ne (tgt := 148) hx hb dL_isCaseRight_141 (by decide) (fun _ => ?_) (fun c9 => absurd c9 (fun z9 => absurd ((nI_eq (a := smR (fun c => bN (vC v c).1) 6) (b := 0) (by omega) (by omega)).mp z9) (by omega)))
            refine lv_iconst (v := 0) hx hb dL_isCaseRight_148 (by decide) ?_
            refine lv_icmp_ne (tgt := 156) hx hb dL_isCaseRight_149 (by decide) (fun c9 => absurd (by decide) c9) (fun _ => ?_)
            refine lv_iconst (v := 1) hx hb dL_isCaseRight_152 (by decide) ?_
            refine lv_goto (tgt := 157) hx hb dL_isCaseRight_153 (by decide) ?_
            exact tg_zret hx hb hr hlocks hw rfl (⟨rfl, hS, HO⟩) (Nat.le_of_ble_eq_true rfl) (Nat.le_of_ble_eq_true rfl) dL_isCaseRight_157
        · have c_28 := mt (nI_leI (a := (samp v (prN g b)).length) (b := (samp v g).length) (by omega) (by omega)).mpr c_28
          refine lv_iload_n hx hb dL_isCaseRight_99 rfl (lv_at hl 4 rfl) ?_
          refine lv_goto (tgt := 105) hx hb dL_isCaseRight_100 (by decide) ?_
          have hw9 : waitF v g b = g := by unfold waitF; first | exact if_pos (by omega) | exact if_neg (by omega)
          refine lv_icmp_eq (tgt := 110) hx hb dL_isCaseRight_105 (by decide) (fun _ => ?_) (fun c9 => absurd ((nI_eq (a := waitF v g b) (b := g) (by omega) (by omega)).mpr (by omega)) c9)
          refine lv_aload_n hx hb dL_isCaseRight_110 rfl (lv_at hl 5 rfl) ?_
          refine lv_iload_n hx hb dL_isCaseRight_111 rfl (lv_at hl 2 rfl) ?_
          refine lv_iconst (v := 1) hx hb dL_isCaseRight_112 (by decide) ?_
          refine tg_calli (va_runV (As := [.int (nI (waitF v g b)), .int 1]) (rest := []) (Ts := []) ⟨hx, hb, hml, hown, fun _ h9 => absurd h9 List.not_mem_nil⟩ (pu_ofChange1 l E _ ad v G_26 hI hS (waitF v g b) (by omega)) (rc_cwV hAm qw_709 qw_1 qw_712 qw_710 qw_711 rfl rfl hd_X6_ofChange ⟨Nat.le_of_ble_eq_true rfl, Nat.le_of_ble_eq_true rfl⟩) (tg_preV hAm hA hw hco (q := vwCl[7]) rfl) rfl rfl hl.1 rfl (lv_room (Nat.le_of_ble_eq_true rfl)) dL_isCaseRight_113 ⟨Nat.le_of_ble_eq_true rfl, Nat.le_of_ble_eq_true rfl⟩) hA hw (fun r_32 G_31 H locs hp hw => ?_)
          obtain ⟨hr9, hS, hu⟩ := hp
          rw [hr9]
          have hco := (hu 8 (by omega)).trans hco
          have hI := hI.scr (fun t9 h9 => hu t9 (by omega))
          have HO := fun (t9 : Nat) (h9 : t9 < 15 ∨ 31 ≤ t9) => (hu t9 (by omega)).trans (HO t9 h9)
          refine lv_bipush (v := 6) hx hb dL_isCaseRight_116 (by decide) ?_
          refine lv_icmp_ge (tgt := 156) hx hb dL_isCaseRight_118 (by decide) (fun c9 => absurd c9 (fun z9 => absurd ((nI_leI (a := 6) (b := (samp v (waitF v g b)).length) (by omega) (by omega)).mp z9) (by omega))) (fun _ => ?_)
          refine lv_aload_n hx hb dL_isCaseRight_121 rfl (lv_at hl 5 rfl) ?_
          refine lv_iconst (v := 3) hx hb dL_isCaseRight_122 (by decide) ?_
          refine tg_callRi (va_runV (As := [.int 3]) (rest := []) (Ts := []) ⟨hx, hb, hml, hown, fun _ h9 => absurd h9 List.not_mem_nil⟩ (pu_ofCase3 l E _ ad v G_31 hI) (rc_cwV hAm qw_689 qw_1 qw_692 qw_690 qw_691 rfl rfl hd_X6_ofCase ⟨Nat.le_of_ble_eq_true rfl, Nat.le_of_ble_eq_true rfl⟩) (tg_preV hAm hA hw hco (q := vwCl[7]) rfl) rfl rfl hl.1 rfl (lv_room (Nat.le_of_ble_eq_true rfl)) dL_isCaseRight_123 ⟨Nat.le_of_ble_eq_true rfl, Nat.le_of_ble_eq_true rfl⟩) hA hw (fun H locs hw => ?_)
          rcases hn with ⟨hn1, hn2⟩ | ⟨k9, hk9, hn1, hn2⟩
          · refine rc_topi (-1) hn1 ?_
            refine lv_iconst (v := (-1)) hx hb dL_isCaseRight_126 (by decide) ?_
            refine lv_icmp_ne (tgt := 134) hx hb dL_isCaseRight_127 (by decide) (fun c9 => absurd (by decide) c9) (fun _ => ?_)
            refine lv_iconst (v := 1) hx hb dL_isCaseRight_130 (by decide) ?_
            refine lv_goto (tgt := 135) hx hb dL_isCaseRight_131 (by decide) ?_
            refine lv_aload_n hx hb dL_isCaseRight_135 rfl (lv_at hl 5 rfl) ?_
            refine lv_bipush (v := 7) hx hb dL_isCaseRight_136 (by decide) ?_
            refine tg_callRi (va_runV (As := [.int 7]) (rest := [.int 1]) (Ts := []) ⟨hx, hb, hml, hown, fun _ h9 => absurd h9 List.not_mem_nil⟩ (pu_many7 l E _ ad v G_31 hI) (rc_cwV hAm qw_511 qw_1 qw_514 qw_512 qw_513 rfl rfl hd_X6_many ⟨Nat.le_of_ble_eq_true rfl, Nat.le_of_ble_eq_true rfl⟩) (tg_preV hAm hA hw hco (q := vwCl[7]) rfl) rfl rfl hl.1 rfl (lv_room (Nat.le_of_ble_eq_true rfl)) dL_isCaseRight_138 ⟨Nat.le_of_ble_eq_true rfl, Nat.le_of_ble_eq_true rfl⟩) hA hw (fun H locs hw => ?_)
            refine rc_topi 0 (congrArg nI (nmN_0 hn2)) ?_
            refine lv_if_ne (tgt := 148) hx hb dL_isCaseRight_141 (by decide) (fun c9 => absurd (by decide) c9) (fun _ => ?_)
            refine lv_iconst (v := 1) hx hb dL_isCaseRight_144 (by decide) ?_
            refine lv_goto (tgt := 149) hx hb dL_isCaseRight_145 (by decide) ?_
            refine lv_icmp_ne (tgt := 156) hx hb dL_isCaseRight_149 (by decide) (fun c9 => absurd (by decide) c9) (fun _ => ?_)
            refine lv_iconst (v := 1) hx hb dL_isCaseRight_152 (by decide) ?_
            refine lv_goto (tgt := 157) hx hb dL_isCaseRight_153 (by decide) ?_
            exact tg_zret hx hb hr hlocks hw rfl (⟨rfl, hS, HO⟩) (Nat.le_of_ble_eq_true rfl) (Nat.le_of_ble_eq_true rfl) dL_isCaseRight_157
          · refine rc_topi (nI k9) hn1 ?_
            refine lv_iconst (v := (-1)) hx hb dL_isCaseRight_126 (by decide) ?_
            refine lv_icmp_ne (tgt := 134) hx hb dL_isCaseRight_127 (by decide) (fun _ => ?_) (fun c9 => absurd c9 ((fun z9 => absurd (show nI k9 < 0 by rw [z9]; decide) (nI_pos (by omega)))))
            refine lv_iconst (v := 0) hx hb dL_isCaseRight_134 (by decide) ?_
            refine lv_aload_n hx hb dL_isCaseRight_135 rfl (lv_at hl 5 rfl) ?_
            refine lv_bipush (v := 7) hx hb dL_isCaseRight_136 (by decide) ?_
            refine tg_callRi (va_runV (As := [.int 7]) (rest := [.int 0]) (Ts := []) ⟨hx, hb, hml, hown, fun _ h9 => absurd h9 List.not_mem_nil⟩ (pu_many7 l E _ ad v G_31 hI) (rc_cwV hAm qw_511 qw_1 qw_514 qw_512 qw_513 rfl rfl hd_X6_many ⟨Nat.le_of_ble_eq_true rfl, Nat.le_of_ble_eq_true rfl⟩) (tg_preV hAm hA hw hco (q := vwCl[7]) rfl) rfl rfl hl.1 rfl (lv_room (Nat.le_of_ble_eq_true rfl)) dL_isCaseRight_138 ⟨Nat.le_of_ble_eq_true rfl, Nat.le_of_ble_eq_true rfl⟩) hA hw (fun H locs hw => ?_)
            have hn7 := nmN_1 hk9 hn2
            refine lv_if_ne (tgt := 148) hx hb dL_isCaseRight_141 (by decide) (fun _ => ?_) (fun c9 => absurd c9 (fun z9 => absurd ((nI_eq (a := smR (fun c => bN (vC v c).1) 6) (b := 0) (by omega) (by omega)).mp z9) (by omega)))
            refine lv_iconst (v := 0) hx hb dL_isCaseRight_148 (by decide) ?_
            refine lv_icmp_ne (tgt := 156) hx hb dL_isCaseRight_149 (by decide) (fun c9 => absurd (by decide) c9) (fun _ => ?_)
            refine lv_iconst (v := 1) hx hb dL_isCaseRight_152 (by decide) ?_
            refine lv_goto (tgt := 157) hx hb dL_isCaseRight_153 (by decide) ?_
            exact tg_zret hx hb hr hlocks hw rfl (⟨rfl, hS, HO⟩) (Nat.le_of_ble_eq_true rfl) (Nat.le_of_ble_eq_true rfl) dL_isCaseRight_157
      · refine rc_topi 4 (show nI (outD v (samp v g) (samp v (prN g b))) = 4 by rw [ho]; rfl) ?_
        refine lv_istore (lv' := [(5, .int 4), (4, .int (nI (prN g b))), (3, .int (nI (waitF v g b))), (2, .int (nI b)), (1, .int (nI g)), (0, .ref (ad 8))]) hx hb dL_isCaseRight_64 hl (by decide) rfl (fun ls hl => ?_)
        refine lv_iload_n hx hb dL_isCaseRight_66 rfl (lv_at hl 4 rfl) ?_
        refine lv_iload_n hx hb dL_isCaseRight_67 rfl (lv_at hl 3 rfl) ?_
        refine lv_icmp_ge (tgt := 108) hx hb dL_isCaseRight_68 (by decide) (fun c9 => absurd c9 (fun z9 => absurd ((nI_leI (a := b) (b := g) (by omega) (by omega)).mp z9) (by omega))) (fun _ => ?_)
        refine lv_iload hx hb dL_isCaseRight_71 (lv_at hl 0 rfl) ?_
        refine lv_if_eq (tgt := 82) hx hb dL_isCaseRight_73 (by decide) (fun c9 => absurd c9 (by decide)) (fun _ => ?_)
        refine lv_iload hx hb dL_isCaseRight_76 (lv_at hl 0 rfl) ?_
        refine lv_iconst (v := 4) hx hb dL_isCaseRight_78 (by decide) ?_
        refine lv_icmp_ne (tgt := 108) hx hb dL_isCaseRight_79 (by decide) (fun c9 => absurd (by decide) c9) (fun _ => ?_)
        refine lv_iload_n hx hb dL_isCaseRight_82 rfl (lv_at hl 2 rfl) ?_
        refine lv_aload_n hx hb dL_isCaseRight_83 rfl (lv_at hl 5 rfl) ?_
        refine lv_iload_n hx hb dL_isCaseRight_84 rfl (lv_at hl 4 rfl) ?_
        refine lv_iconst (v := 1) hx hb dL_isCaseRight_85 (by decide) ?_
        refine tg_calli (va_runV (As := [.int (nI g), .int 1]) (rest := [.int (nI (waitF v g b))]) (Ts := []) ⟨hx, hb, hml, hown, fun _ h9 => absurd h9 List.not_mem_nil⟩ (pu_ofChange1 l E _ ad v G_22 hI hS g (by omega)) (rc_cwV hAm qw_709 qw_1 qw_712 qw_710 qw_711 rfl rfl hd_X6_ofChange ⟨Nat.le_of_ble_eq_true rfl, Nat.le_of_ble_eq_true rfl⟩) (tg_preV hAm hA hw hco (q := vwCl[7]) rfl) rfl rfl hl.1 rfl (lv_room (Nat.le_of_ble_eq_true rfl)) dL_isCaseRight_86 ⟨Nat.le_of_ble_eq_true rfl, Nat.le_of_ble_eq_true rfl⟩) hA hw (fun r_34 G_33 H locs hp hw => ?_)
        obtain ⟨hr9, hS, hu⟩ := hp
        rw [hr9]
        have hco := (hu 8 (by omega)).trans hco
        have hI := hI.scr (fun t9 h9 => hu t9 (by omega))
        have HO := fun (t9 : Nat) (h9 : t9 < 15 ∨ 31 ≤ t9) => (hu t9 (by omega)).trans (HO t9 h9)
        refine lv_aload_n hx hb dL_isCaseRight_89 rfl (lv_at hl 5 rfl) ?_
        refine lv_iload hx hb dL_isCaseRight_90 (lv_at hl 1 rfl) ?_
        refine lv_iconst (v := 1) hx hb dL_isCaseRight_92 (by decide) ?_
        refine tg_calli (va_runV (As := [.int (nI (prN g b)), .int 1]) (rest := [.int (nI ((samp v g).length)), .int (nI (waitF v g b))]) (Ts := []) ⟨hx, hb, hml, hown, fun _ h9 => absurd h9 List.not_mem_nil⟩ (pu_ofChange1 l E _ ad v G_33 hI hS (prN g b) (by omega)) (rc_cwV hAm qw_709 qw_1 qw_712 qw_710 qw_711 rfl rfl hd_X6_ofChange ⟨Nat.le_of_ble_eq_true rfl, Nat.le_of_ble_eq_true rfl⟩) (tg_preV hAm hA hw hco (q := vwCl[7]) rfl) rfl rfl hl.1 rfl (lv_room (Nat.le_of_ble_eq_true rfl)) dL_isCaseRight_93 ⟨Nat.le_of_ble_eq_true rfl, Nat.le_of_ble_eq_true rfl⟩) hA hw (fun r_36 G_35 H locs hp hw => ?_)
        obtain ⟨hr9, hS, hu⟩ := hp
        rw [hr9]
        have hco := (hu 8 (by omega)).trans hco
        have hI := hI.scr (fun t9 h9 => hu t9 (by omega))
        have HO := fun (t9 : Nat) (h9 : t9 < 15 ∨ 31 ≤ t9) => (hu t9 (by omega)).trans (HO t9 h9)
        refine lv_icmp_ge (tgt := 103) hx hb dL_isCaseRight_96 (by decide) (fun c_37 => ?_) (fun c_37 => ?_)
        · have c_37 := (nI_leI (a := (samp v (prN g b)).length) (b := (samp v g).length) (by omega) (by omega)).mp c_37
          refine lv_iload hx hb dL_isCaseRight_103 (lv_at hl 1 rfl) ?_
          have hw9 : waitF v g b = prN g b := by unfold waitF; first | exact if_pos (by omega) | exact if_neg (by omega)
          refine lv_icmp_eq (tgt := 110) hx hb dL_isCaseRight_105 (by decide) (fun _ => ?_) (fun c9 => absurd ((nI_eq (a := waitF v g b) (b := prN g b) (by omega) (by omega)).mpr (by omega)) c9)
          refine lv_aload_n hx hb dL_isCaseRight_110 rfl (lv_at hl 5 rfl) ?_
          refine lv_iload_n hx hb dL_isCaseRight_111 rfl (lv_at hl 2 rfl) ?_
          refine lv_iconst (v := 1) hx hb dL_isCaseRight_112 (by decide) ?_
          refine tg_calli (va_runV (As := [.int (nI (waitF v g b)), .int 1]) (rest := []) (Ts := []) ⟨hx, hb, hml, hown, fun _ h9 => absurd h9 List.not_mem_nil⟩ (pu_ofChange1 l E _ ad v G_35 hI hS (waitF v g b) (by omega)) (rc_cwV hAm qw_709 qw_1 qw_712 qw_710 qw_711 rfl rfl hd_X6_ofChange ⟨Nat.le_of_ble_eq_true rfl, Nat.le_of_ble_eq_true rfl⟩) (tg_preV hAm hA hw hco (q := vwCl[7]) rfl) rfl rfl hl.1 rfl (lv_room (Nat.le_of_ble_eq_true rfl)) dL_isCaseRight_113 ⟨Nat.le_of_ble_eq_true rfl, Nat.le_of_ble_eq_true rfl⟩) hA hw (fun r_39 G_38 H locs hp hw => ?_)
          obtain ⟨hr9, hS, hu⟩ := hp
          rw [hr9]
          have hco := (hu 8 (by omega)).trans hco
          have hI := hI.scr (fun t9 h9 => hu t9 (by omega))
          have HO := fun (t9 : Nat) (h9 : t9 < 15 ∨ 31 ≤ t9) => (hu t9 (by omega)).trans (HO t9 h9)
          refine lv_bipush (v := 6) hx hb dL_isCaseRight_116 (by decide) ?_
          refine lv_icmp_ge (tgt := 156) hx hb dL_isCaseRight_118 (by decide) (fun c9 => absurd c9 (fun z9 => absurd ((nI_leI (a := 6) (b := (samp v (waitF v g b)).length) (by omega) (by omega)).mp z9) (by omega))) (fun _ => ?_)
          refine lv_aload_n hx hb dL_isCaseRight_121 rfl (lv_at hl 5 rfl) ?_
          refine lv_iconst (v := 3) hx hb dL_isCaseRight_122 (by decide) ?_
          refine tg_callRi (va_runV (As := [.int 3]) (rest := []) (Ts := []) ⟨hx, hb, hml, hown, fun _ h9 => absurd h9 List.not_mem_nil⟩ (pu_ofCase3 l E _ ad v G_38 hI) (rc_cwV hAm qw_689 qw_1 qw_692 qw_690 qw_691 rfl rfl hd_X6_ofCase ⟨Nat.le_of_ble_eq_true rfl, Nat.le_of_ble_eq_true rfl⟩) (tg_preV hAm hA hw hco (q := vwCl[7]) rfl) rfl rfl hl.1 rfl (lv_room (Nat.le_of_ble_eq_true rfl)) dL_isCaseRight_123 ⟨Nat.le_of_ble_eq_true rfl, Nat.le_of_ble_eq_true rfl⟩) hA hw (fun H locs hw => ?_)
          rcases hn with ⟨hn1, hn2⟩ | ⟨k9, hk9, hn1, hn2⟩
          · refine rc_topi (-1) hn1 ?_
            refine lv_iconst (v := (-1)) hx hb dL_isCaseRight_126 (by decide) ?_
            refine lv_icmp_ne (tgt := 134) hx hb dL_isCaseRight_127 (by decide) (fun c9 => absurd (by decide) c9) (fun _ => ?_)
            refine lv_iconst (v := 1) hx hb dL_isCaseRight_130 (by decide) ?_
            refine lv_goto (tgt := 135) hx hb dL_isCaseRight_131 (by decide) ?_
            refine lv_aload_n hx hb dL_isCaseRight_135 rfl (lv_at hl 5 rfl) ?_
            refine lv_bipush (v := 7) hx hb dL_isCaseRight_136 (by decide) ?_
            refine tg_callRi (va_runV (As := [.int 7]) (rest := [.int 1]) (Ts := []) ⟨hx, hb, hml, hown, fun _ h9 => absurd h9 List.not_mem_nil⟩ (pu_many7 l E _ ad v G_38 hI) (rc_cwV hAm qw_511 qw_1 qw_514 qw_512 qw_513 rfl rfl hd_X6_many ⟨Nat.le_of_ble_eq_true rfl, Nat.le_of_ble_eq_true rfl⟩) (tg_preV hAm hA hw hco (q := vwCl[7]) rfl) rfl rfl hl.1 rfl (lv_room (Nat.le_of_ble_eq_true rfl)) dL_isCaseRight_138 ⟨Nat.le_of_ble_eq_true rfl, Nat.le_of_ble_eq_true rfl⟩) hA hw (fun H locs hw => ?_)
            refine rc_topi 0 (congrArg nI (nmN_0 hn2)) ?_
            refine lv_if_ne (tgt := 148) hx hb dL_isCaseRight_141 (by decide) (fun c9 => absurd (by decide) c9) (fun _ => ?_)
            refine lv_iconst (v := 1) hx hb dL_isCaseRight_144 (by decide) ?_
            refine lv_goto (tgt := 149) hx hb dL_isCaseRight_145 (by decide) ?_
            refine lv_icmp_ne (tgt := 156) hx hb dL_isCaseRight_149 (by decide) (fun c9 => absurd (by decide) c9) (fun _ => ?_)
            refine lv_iconst (v := 1) hx hb dL_isCaseRight_152 (by decide) ?_
            refine lv_goto (tgt := 157) hx hb dL_isCaseRight_153 (by decide) ?_
            exact tg_zret hx hb hr hlocks hw rfl (⟨rfl, hS, HO⟩) (Nat.le_of_ble_eq_true rfl) (Nat.le_of_ble_eq_true rfl) dL_isCaseRight_157
          · refine rc_topi (nI k9) hn1 ?_
            refine lv_iconst (v := (-1)) hx hb dL_isCaseRight_126 (by decide) ?_
            refine lv_icmp_ne (tgt := 134) hx hb dL_isCaseRight_127 (by decide) (fun _ => ?_) (fun c9 => absurd c9 ((fun z9 => absurd (show nI k9 < 0 by rw [z9]; decide) (nI_pos (by omega)))))
            refine lv_iconst (v := 0) hx hb dL_isCaseRight_134 (by decide) ?_
            refine lv_aload_n hx hb dL_isCaseRight_135 rfl (lv_at hl 5 rfl) ?_
            refine lv_bipush (v := 7) hx hb dL_isCaseRight_136 (by decide) ?_
            refine tg_callRi (va_runV (As := [.int 7]) (rest := [.int 0]) (Ts := []) ⟨hx, hb, hml, hown, fun _ h9 => absurd h9 List.not_mem_nil⟩ (pu_many7 l E _ ad v G_38 hI) (rc_cwV hAm qw_511 qw_1 qw_514 qw_512 qw_513 rfl rfl hd_X6_many ⟨Nat.le_of_ble_eq_true rfl, Nat.le_of_ble_eq_true rfl⟩) (tg_preV hAm hA hw hco (q := vwCl[7]) rfl) rfl rfl hl.1 rfl (lv_room (Nat.le_of_ble_eq_true rfl)) dL_isCaseRight_138 ⟨Nat.le_of_ble_eq_true rfl, Nat.le_of_ble_eq_true rfl⟩) hA hw (fun H locs hw => ?_)
            have hn7 := nmN_1 hk9 hn2
            refine lv_if_ne (tgt := 148) hx hb dL_isCaseRight_141 (by decide) (fun _ => ?_) (fun c9 => absurd c9 (fun z9 => absurd ((nI_eq (a := smR (fun c => bN (vC v c).1) 6) (b := 0) (by omega) (by omega)).mp z9) (by omega)))
            refine lv_iconst (v := 0) hx hb dL_isCaseRight_148 (by decide) ?_
            refine lv_icmp_ne (tgt := 156) hx hb dL_isCaseRight_149 (by decide) (fun c9 => absurd (by decide) c9) (fun _ => ?_)
            refine lv_iconst (v := 1) hx hb dL_isCaseRight_152 (by decide) ?_
            refine lv_goto (tgt := 157) hx hb dL_isCaseRight_153 (by decide) ?_
            exact tg_zret hx hb hr hlocks hw rfl (⟨rfl, hS, HO⟩) (Nat.le_of_ble_eq_true rfl) (Nat.le_of_ble_eq_true rfl) dL_isCaseRight_157
        · have c_37 := mt (nI_leI (a := (samp v (prN g b)).length) (b := (samp v g).length) (by omega) (by omega)).mpr c_37
          refine lv_iload_n hx hb dL_isCaseRight_99 rfl (lv_at hl 4 rfl) ?_
          refine lv_goto (tgt := 105) hx hb dL_isCaseRight_100 (by decide) ?_
          have hw9 : waitF v g b = g := by unfold waitF; first | exact if_pos (by omega) | exact if_neg (by omega)
          refine lv_icmp_eq (tgt := 110) hx hb dL_isCaseRight_105 (by decide) (fun _ => ?_) (fun c9 => absurd ((nI_eq (a := waitF v g b) (b := g) (by omega) (by omega)).mpr (by omega)) c9)
          refine lv_aload_n hx hb dL_isCaseRight_110 rfl (lv_at hl 5 rfl) ?_
          refine lv_iload_n hx hb dL_isCaseRight_111 rfl (lv_at hl 2 rfl) ?_
          refine lv_iconst (v := 1) hx hb dL_isCaseRight_112 (by decide) ?_
          refine tg_calli (va_runV (As := [.int (nI (waitF v g b)), .int 1]) (rest := []) (Ts := []) ⟨hx, hb, hml, hown, fun _ h9 => absurd h9 List.not_mem_nil⟩ (pu_ofChange1 l E _ ad v G_35 hI hS (waitF v g b) (by omega)) (rc_cwV hAm qw_709 qw_1 qw_712 qw_710 qw_711 rfl rfl hd_X6_ofChange ⟨Nat.le_of_ble_eq_true rfl, Nat.le_of_ble_eq_true rfl⟩) (tg_preV hAm hA hw hco (q := vwCl[7]) rfl) rfl rfl hl.1 rfl (lv_room (Nat.le_of_ble_eq_true rfl)) dL_isCaseRight_113 ⟨Nat.le_of_ble_eq_true rfl, Nat.le_of_ble_eq_true rfl⟩) hA hw (fun r_41 G_40 H locs hp hw => ?_)
          obtain ⟨hr9, hS, hu⟩ := hp
          rw [hr9]
          have hco := (hu 8 (by omega)).trans hco
          have hI := hI.scr (fun t9 h9 => hu t9 (by omega))
          have HO := fun (t9 : Nat) (h9 : t9 < 15 ∨ 31 ≤ t9) => (hu t9 (by omega)).trans (HO t9 h9)
          refine lv_bipush (v := 6) hx hb dL_isCaseRight_116 (by decide) ?_
          refine lv_icmp_ge (tgt := 156) hx hb dL_isCaseRight_118 (by decide) (fun c9 => absurd c9 (fun z9 => absurd ((nI_leI (a := 6) (b := (samp v (waitF v g b)).length) (by omega) (by omega)).mp z9) (by omega))) (fun _ => ?_)
          refine lv_aload_n hx hb dL_isCaseRight_121 rfl (lv_at hl 5 rfl) ?_
          refine lv_iconst (v := 3) hx hb dL_isCaseRight_122 (by decide) ?_
          refine tg_callRi (va_runV (As := [.int 3]) (rest := []) (Ts := []) ⟨hx, hb, hml, hown, fun _ h9 => absurd h9 List.not_mem_nil⟩ (pu_ofCase3 l E _ ad v G_40 hI) (rc_cwV hAm qw_689 qw_1 qw_692 qw_690 qw_691 rfl rfl hd_X6_ofCase ⟨Nat.le_of_ble_eq_true rfl, Nat.le_of_ble_eq_true rfl⟩) (tg_preV hAm hA hw hco (q := vwCl[7]) rfl) rfl rfl hl.1 rfl (lv_room (Nat.le_of_ble_eq_true rfl)) dL_isCaseRight_123 ⟨Nat.le_of_ble_eq_true rfl, Nat.le_of_ble_eq_true rfl⟩) hA hw (fun H locs hw => ?_)
          rcases hn with ⟨hn1, hn2⟩ | ⟨k9, hk9, hn1, hn2⟩
          · refine rc_topi (-1) hn1 ?_
            refine lv_iconst (v := (-1)) hx hb dL_isCaseRight_126 (by decide) ?_
            refine lv_icmp_ne (tgt := 134) hx hb dL_isCaseRight_127 (by decide) (fun c9 => absurd (by decide) c9) (fun _ => ?_)
            refine lv_iconst (v := 1) hx hb dL_isCaseRight_130 (by decide) ?_
            refine lv_goto (tgt := 135) hx hb dL_isCaseRight_131 (by decide) ?_
            refine lv_aload_n hx hb dL_isCaseRight_135 rfl (lv_at hl 5 rfl) ?_
            refine lv_bipush (v := 7) hx hb dL_isCaseRight_136 (by decide) ?_
            refine tg_callRi (va_runV (As := [.int 7]) (rest := [.int 1]) (Ts := []) ⟨hx, hb, hml, hown, fun _ h9 => absurd h9 List.not_mem_nil⟩ (pu_many7 l E _ ad v G_40 hI) (rc_cwV hAm qw_511 qw_1 qw_514 qw_512 qw_513 rfl rfl hd_X6_many ⟨Nat.le_of_ble_eq_true rfl, Nat.le_of_ble_eq_true rfl⟩) (tg_preV hAm hA hw hco (q := vwCl[7]) rfl) rfl rfl hl.1 rfl (lv_room (Nat.le_of_ble_eq_true rfl)) dL_isCaseRight_138 ⟨Nat.le_of_ble_eq_true rfl, Nat.le_of_ble_eq_true rfl⟩) hA hw (fun H locs hw => ?_)
            refine rc_topi 0 (congrArg nI (nmN_0 hn2)) ?_
            refine lv_if_ne (tgt := 148) hx hb dL_isCaseRight_141 (by decide) (fun c9 => absurd (by decide) c9) (fun _ => ?_)
            refine lv_iconst (v := 1) hx hb dL_isCaseRight_144 (by decide) ?_
            refine lv_goto (tgt := 149) hx hb dL_isCaseRight_145 (by decide) ?_
            refine lv_icmp_ne (tgt := 156) hx hb dL_isCaseRight_149 (by decide) (fun c9 => absurd (by decide) c9) (fun _ => ?_)
            refine lv_iconst (v := 1) hx hb dL_isCaseRight_152 (by decide) ?_
            refine lv_goto (tgt := 157) hx hb dL_isCaseRight_153 (by decide) ?_
            exact tg_zret hx hb hr hlocks hw rfl (⟨rfl, hS, HO⟩) (Nat.le_of_ble_eq_true rfl) (Nat.le_of_ble_eq_true rfl) dL_isCaseRight_157
          · refine rc_topi (nI k9) hn1 ?_
            refine lv_iconst (v := (-1)) hx hb dL_isCaseRight_126 (by decide) ?_
            refine lv_icmp_ne (tgt := 134) hx hb dL_isCaseRight_127 (by decide) (fun _ => ?_) (fun c9 => absurd c9 ((fun z9 => absurd (show nI k9 < 0 by rw [z9]; decide) (nI_pos (by omega)))))
            refine lv_iconst (v := 0) hx hb dL_isCaseRight_134 (by decide) ?_
            refine lv_aload_n hx hb dL_isCaseRight_135 rfl (lv_at hl 5 rfl) ?_
            refine lv_bipush (v := 7) hx hb dL_isCaseRight_136 (by decide) ?_
            refine tg_callRi (va_runV (As := [.int 7]) (rest := [.int 0]) (Ts := []) ⟨hx, hb, hml, hown, fun _ h9 => absurd h9 List.not_mem_nil⟩ (pu_many7 l E _ ad v G_40 hI) (rc_cwV hAm qw_511 qw_1 qw_514 qw_512 qw_513 rfl rfl hd_X6_many ⟨Nat.le_of_ble_eq_true rfl, Nat.le_of_ble_eq_true rfl⟩) (tg_preV hAm hA hw hco (q := vwCl[7]) rfl) rfl rfl hl.1 rfl (lv_room (Nat.le_of_ble_eq_true rfl)) dL_isCaseRight_138 ⟨Nat.le_of_ble_eq_true rfl, Nat.le_of_ble_eq_true rfl⟩) hA hw (fun H locs hw => ?_)
            have hn7 := nmN_1 hk9 hn2
            refine lv_if_ne (tgt := 148) hx hb dL_isCaseRight_141 (by decide) (fun _ => ?_) (fun c9 => absurd c9 (fun z9 => absurd ((nI_eq (a := smR (fun c => bN (vC v c).1) 6) (b := 0) (by omega) (by omega)).mp z9) (by omega)))
            refine lv_iconst (v := 0) hx hb dL_isCaseRight_148 (by decide) ?_
            refine lv_icmp_ne (tgt := 156) hx hb dL_isCaseRight_149 (by decide) (fun c9 => absurd (by decide) c9) (fun _ => ?_)
            refine lv_iconst (v := 1) hx hb dL_isCaseRight_152 (by decide) ?_
            refine lv_goto (tgt := 157) hx hb dL_isCaseRight_153 (by decide) ?_
            exact tg_zret hx hb hr hlocks hw rfl (⟨rfl, hS, HO⟩) (Nat.le_of_ble_eq_true rfl) (Nat.le_of_ble_eq_true rfl) dL_isCaseRight_157
