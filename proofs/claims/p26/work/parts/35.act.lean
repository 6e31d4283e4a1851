/-! one act of the law -/
theorem waitF_lt {v : av_V} {g b : Nat} (h : caseS v g b) : waitF v g b < 6 := by
  have h1 := prN_in h.2.2.2.1
  have h2 := h.2.2.2.2
  have h3 := h.2.2.2.1
  unfold waitF
  split <;> omega
theorem chE_setX {v : av_V} {c q : Nat} : chE (setX v c q) c = 1 := by
  have e : (vC (setX v c q) c).2 = 1 := by
    show (if c = c then ((vC v c).1, (1 : Int32)) else vC v c).2 = 1
    rw [if_pos rfl]
  unfold chE
  rw [e]
  rfl
theorem nmN_le (v : av_V) : nmN v ≤ 6 := smR_bN v
def AC (E : rc_E) (ad : Nat → Nat) (v : av_V) (u : tg_G) (x : Int32) : Prop := ∃ (ad' : Nat → Nat) (v' : av_V), ad' 8 = ad 8 ∧ stH E ad' v' u ∧ nmOK v' ∧ caseOK v' ∧ mcOK v' ∧ vN v' 0 = vN v 0 ∧ vN v' 1 = vN v 1 ∧ vn v' ≤ vn v + 1 ∧ nmN v ≤ nmN v' ∧ vN v 4 ≤ vN v' 4 ∧ (bl x 14 ≠ 6 → vN v' 2 ≤ vN v 2)
section ACS
variable {E : rc_E} {ad ad' : Nat → Nat} {v v1 v2 : av_V} {u : tg_G} {x : Int32}
theorem AC.same (h : stH E ad v u) (hn : nmOK v) (hok : caseOK v) (hm : mcOK v) : AC E ad v u x := ⟨ad, v, rfl, h, hn, hok, hm, rfl, rfl, by omega, Nat.le_refl _, Nat.le_refl _, fun _ => Nat.le_refl _⟩
theorem AC.of (h8 : ad' 8 = ad 8) (hv : okV v) (hst : stH E ad' v2 u) (hs : sameV v1 v2) (hn : nmOK v2) (hok : caseOK v2) (hm : mcOK v1) (hC : vC v1 = vC v) (e0 : vN v1 0 = vN v 0) (e1 : vN v1 1 = vN v 1) (en : vn v1 ≤ vn v + 1) (e4 : vN v 4 ≤ vN v1 4) (e2 : vN v1 2 ≤ vN v 2) : AC E ad v u x := by
  refine ⟨ad', v2, h8, hst, hn, hok, mcOK_same hm hs, by rw [hs.vN]; exact e0, by rw [hs.vN]; exact e1, by rw [hs.vn]; exact en, ?_, by rw [hs.vN]; exact e4, fun _ => by rw [hs.vN]; exact e2⟩
  have h1 : nmN v = nmN v1 := by unfold nmN; rw [hC]
  rw [h1]
  exact hs.nm (by rw [hC]; exact fun c hc => (hv.2.2.2.2.1 c hc).1)
theorem AC.move {cr : Nat} (hst : stH E ad (setN v cr (wm v 6 (vN v 4))) u) (hn : nmOK v) (hok : caseOK v) (hm : mcOK v) : AC E ad v u x := ⟨ad, _, rfl, hst, hn, caseOK_setN hok, hm, rfl, rfl, Nat.le_succ _, Nat.le_refl _, wm_ge v 6 (vN v 4), fun _ => Nat.le_refl _⟩
theorem AC.exc {c q : Nat} (hst : stH E ad (setX v c q) u) (hn : nmOK v) (hok : caseOK v) (hm : mcOK v) : AC E ad v u x := ⟨ad, _, rfl, hst, nmOK_setX hn, caseOK_setX hok, hm, rfl, rfl, Nat.le_succ _, Nat.le_of_eq nmN_setX.symm, Nat.le_refl _, fun _ => Nat.le_refl _⟩
theorem AC.bud {n : Nat} (hst : stH E ad (setB v n) u) (hn : nmOK v) (hok : caseOK v) (hm : mcOK v) (hx : bl x 14 = 6) : AC E ad v u x := ⟨ad, _, rfl, hst, hn, caseOK_setB hok, hm, rfl, rfl, Nat.le_succ _, Nat.le_refl _, Nat.le_refl _, fun z => absurd hx z⟩
end ACS
theorem run_in {v v2 : av_V} {c j ti w : Nat} (hj : vMI v j 7 = 0) (hs : sameV (setR v c j ti w) v2) : vn v2 = vn v + 1 ∧ (vR v2 (vn v)).1 = c ∧ (vR v2 (vn v)).2.2 = w ∧ isR v2 (ixs v2 (vR v2 (vn v)).1) (vn v) (ixs v2 (vR v2 (vn v)).1).length 0 = 1 ∧ vMN v2 j 1 = vMN v j 1 ∧ vN v2 2 = vN v 2 - vMN v j 1 := by
  have e1 : vR v2 (vn v) = (c, j, w) := by rw [hs.vR]; exact setR_vR_at
  refine ⟨hs.vn, by rw [e1], by rw [e1], ?_, ?_, by rw [hs.vN]; rfl⟩
  · have e2 : ixs v2 c = ixs v c ++ [vn v] := by rw [hs.ixs, ixs_run, if_pos rfl]
    rw [e1]
    show isR v2 (ixs v2 c) (vn v) (ixs v2 c).length 0 = 1
    rw [e2, List.length_append]
    show isR v2 (ixs v c ++ [vn v]) (vn v) ((ixs v c).length + 1) 0 = 1
    rw [isR_last]
    unfold cK
    rw [e1, hs.vT, setR_vT_at, hs.vMI]
    exact cN_1 rfl hj
  · rw [hs.vMN]
    show (if j = j then (if 1 = 6 then vMN v j 6 + 1 else vMN v j 1) else vMN v j 1) = vMN v j 1
    rw [if_pos rfl]
    rfl
theorem hd_L_below : yL_below.cls ≠ "java/lang/invoke/MethodHandle" ∧ yL_below.cls ≠ "java/lang/invoke/VarHandle" ∧ (parseMethodDescriptor yL_below.desc).map (fun d => d.parameters.length) = some 2 := by decide +kernel
theorem hd_X6_measure : yX6_measure.cls ≠ "java/lang/invoke/MethodHandle" ∧ yX6_measure.cls ≠ "java/lang/invoke/VarHandle" ∧ (parseMethodDescriptor yX6_measure.desc).map (fun d => d.parameters.length) = some 2 := by decide +kernel
theorem hd_X6_strike : yX6_strike.cls ≠ "java/lang/invoke/MethodHandle" ∧ yX6_strike.cls ≠ "java/lang/invoke/VarHandle" ∧ (parseMethodDescriptor yX6_strike.desc).map (fun d => d.parameters.length) = some 1 := by decide +kernel
theorem hd_X6_begin : yX6_begin.cls ≠ "java/lang/invoke/MethodHandle" ∧ yX6_begin.cls ≠ "java/lang/invoke/VarHandle" ∧ (parseMethodDescriptor yX6_begin.desc).map (fun d => d.parameters.length) = some 2 := by decide +kernel
theorem hd_X6_drop : yX6_drop.cls ≠ "java/lang/invoke/MethodHandle" ∧ yX6_drop.cls ≠ "java/lang/invoke/VarHandle" ∧ (parseMethodDescriptor yX6_drop.desc).map (fun d => d.parameters.length) = some 0 := by decide +kernel
theorem hd_X6_move : yX6_move.cls ≠ "java/lang/invoke/MethodHandle" ∧ yX6_move.cls ≠ "java/lang/invoke/VarHandle" ∧ (parseMethodDescriptor yX6_move.desc).map (fun d => d.parameters.length) = some 0 := by decide +kernel
theorem hd_X6_excuse : yX6_excuse.cls ≠ "java/lang/invoke/MethodHandle" ∧ yX6_excuse.cls ≠ "java/lang/invoke/VarHandle" ∧ (parseMethodDescriptor yX6_excuse.desc).map (fun d => d.parameters.length) = some 2 := by decide +kernel
theorem hd_X6_budget : yX6_budget.cls ≠ "java/lang/invoke/MethodHandle" ∧ yX6_budget.cls ≠ "java/lang/invoke/VarHandle" ∧ (parseMethodDescriptor yX6_budget.desc).map (fun d => d.parameters.length) = some 1 := by decide +kernel
theorem hd_X6_run : yX6_run.cls ≠ "java/lang/invoke/MethodHandle" ∧ yX6_run.cls ≠ "java/lang/invoke/VarHandle" ∧ (parseMethodDescriptor yX6_run.desc).map (fun d => d.parameters.length) = some 3 := by decide +kernel
set_option maxHeartbeats 40000000 in
set_option maxRecDepth 100000 in
theorem lw_act (l : Launch) (hst : l.stackTraces = false) (E : rc_E) (sz : Nat) (ad : Nat → Nat) (v : av_V) (G : tg_G) (hI : ssH E ad v G) (hS : scH E ad G) (hn : nmOK v) (hok : caseOK v) (hmc : mcOK v) (hnv : vn v < 60) (x : Int32) : tg_M l yL_act [Cond.codeWith yL_act cL_act 12 (some FieldType.boolean) [(24, 156, 512, 101), (157, 184, 512, 101), (185, 242, 512, 101), (243, 264, 512, 101), (265, 320, 512, 101), (321, 369, 512, 101), (370, 397, 512, 101), (398, 511, 512, 101), (24, 156, 528, 103), (157, 184, 528, 103), (185, 242, 528, 103), (243, 264, 528, 103), (265, 320, 528, 103), (321, 369, 528, 103), (370, 397, 528, 103), (398, 511, 528, 103), (24, 156, 546, 105), (157, 184, 546, 105), (185, 242, 546, 105), (243, 264, 546, 105), (265, 320, 546, 105), (321, 369, 546, 105), (370, 397, 546, 105), (398, 511, 546, 105)]] { frames := 8, cells := 3, slots := 405, locals := 196 } E [.ref (ad 8), .int x] G sz (tg_Qi E (fun r u => r = 1 ∧ AC E ad v u x)) 3 405 := by
  refine tg_inW (hh := [(24, 156, 512, 101), (157, 184, 512, 101), (185, 242, 512, 101), (243, 264, 512, 101), (265, 320, 512, 101), (321, 369, 512, 101), (370, 397, 512, 101), (398, 511, 512, 101), (24, 156, 528, 103), (157, 184, 528, 103), (185, 242, 528, 103), (243, 264, 528, 103), (265, 320, 528, 103), (321, 369, 528, 103), (370, 397, 528, 103), (398, 511, 528, 103), (24, 156, 546, 105), (157, 184, 546, 105), (185, 242, 546, 105), (243, 264, 546, 105), (265, 320, 546, 105), (321, 369, 546, 105), (370, 397, 546, 105), (398, 511, 546, 105)]) (cc := cL_act) (maxL := 12) (ret := (some FieldType.boolean)) (tg_Qi E (fun r u => r = 1 ∧ AC E ad v u x)) (by decide) rfl (Nat.le_of_ble_eq_true rfl) ?_
  intro p e s m args below meth cd ls A htb hx hb hr hml hown hlocks hin hA hAm hw hl
  have hown : s.vm.findClass RL = some m.cls := hown
  have hl : lv_has ls 12 [(0, .ref (ad 8)), (1, .int x)] := hl
  have h0 : okV v := hI.1
  have hco := hI.2.1
  have hn60 := h0.1
  have hb2 : vN v 2 ≤ 5000 := h0.2.2.2.2.2.2.2.1
  have hb3 : vN v 3 ≤ 100 + 10 * vN v 4 := h0.2.2.2.2.2.2.2.2.1
  have hb4 : vN v 4 < 6 := h0.2.2.2.2.2.2.2.2.2
  refine lv_iload_n hx hb dL_act_0 rfl (lv_at hl 1 rfl) ?_
  refine lv_iconst (v := 4) hx hb dL_act_1 (by decide) ?_
  refine lv_ishr hx hb dL_act_2 ?_
  refine rc_topi (shr x 4) rfl ?_
  refine lv_bipush (v := 6) hx hb dL_act_3 (by decide) ?_
  have hbl := bl_lt (shr x 4) (n := 6) (by omega)
  refine tg_callRi (va_runS (As := [.int (shr x 4), .int 6]) (rest := []) (Ts := []) ⟨hx, hb, hml, hown, fun _ h9 => absurd h9 List.not_mem_nil⟩ (lw_below l E _ G (shr x 4) 6 (by omega) (by omega)) (rc_cwS hAm qw_618 qw_0 qw_620 qw_619 rfl rfl hd_L_below ⟨Nat.le_of_ble_eq_true rfl, Nat.le_of_ble_eq_true rfl⟩) (tg_preS hAm hA hw) rfl rfl hl.1 rfl (lv_room (Nat.le_of_ble_eq_true rfl)) dL_act_5 ⟨Nat.le_of_ble_eq_true rfl, Nat.le_of_ble_eq_true rfl⟩) hA hw (fun H locs hw => ?_)
  refine lv_istore_n (lv' := [(2, .int (nI (bl (shr x 4) 6))), (0, .ref (ad 8)), (1, .int x)]) hx hb dL_act_8 rfl hl (by decide) rfl (fun ls hl => ?_)
  refine lv_iload_n hx hb dL_act_9 rfl (lv_at hl 2 rfl) ?_
  refine lv_iconst (v := 3) hx hb dL_act_10 (by decide) ?_
  refine lv_ishr hx hb dL_act_11 ?_
  refine rc_topi (shr x 3) rfl ?_
  refine lv_iconst (v := 2) hx hb dL_act_12 (by decide) ?_
  have hbl := bl_lt (shr x 3) (n := 2) (by omega)
  refine tg_callRi (va_runS (As := [.int (shr x 3), .int 2]) (rest := []) (Ts := []) ⟨hx, hb, hml, hown, fun _ h9 => absurd h9 List.not_mem_nil⟩ (lw_below l E _ G (shr x 3) 2 (by omega) (by omega)) (rc_cwS hAm qw_618 qw_0 qw_620 qw_619 rfl rfl hd_L_below ⟨Nat.le_of_ble_eq_true rfl, Nat.le_of_ble_eq_true rfl⟩) (tg_preS hAm hA hw) rfl rfl hl.1 rfl (lv_room (Nat.le_of_ble_eq_true rfl)) dL_act_13 ⟨Nat.le_of_ble_eq_true rfl, Nat.le_of_ble_eq_true rfl⟩) hA hw (fun H locs hw => ?_)
  refine lv_istore_n (lv' := [(3, .int (nI (bl (shr x 3) 2))), (2, .int (nI (bl (shr x 4) 6))), (0, .ref (ad 8)), (1, .int x)]) hx hb dL_act_16 rfl hl (by decide) rfl (fun ls hl => ?_)
  refine lv_aload_n hx hb dL_act_17 rfl (lv_at hl 2 rfl) ?_
  refine lv_iconst (v := 5) hx hb dL_act_18 (by decide) ?_
  refine tg_callRi (va_runV (As := [.int 5]) (rest := []) (Ts := []) ⟨hx, hb, hml, hown, fun _ h9 => absurd h9 List.not_mem_nil⟩ (pu_many5 l E _ ad v G hI) (rc_cwV hAm qw_511 qw_1 qw_514 qw_512 qw_513 rfl rfl hd_X6_many ⟨Nat.le_of_ble_eq_true rfl, Nat.le_of_ble_eq_true rfl⟩) (tg_preV hAm hA hw hco (q := vwCl[7]) rfl) rfl rfl hl.1 rfl (lv_room (Nat.le_of_ble_eq_true rfl)) dL_act_19 ⟨Nat.le_of_ble_eq_true rfl, Nat.le_of_ble_eq_true rfl⟩) hA hw (fun H locs hw => ?_)
  refine lv_istore (lv' := [(4, .int (nI (vN v 3))), (3, .int (nI (bl (shr x 3) 2))), (2, .int (nI (bl (shr x 4) 6))), (0, .ref (ad 8)), (1, .int x)]) hx hb dL_act_22 hl (by decide) rfl (fun ls hl => ?_)
  refine lv_iload_n hx hb dL_act_24 rfl (lv_at hl 4 rfl) ?_
  refine lv_bipush (v := 14) hx hb dL_act_25 (by decide) ?_
  have hbl := bl_lt x (n := 14) (by omega)
  refine tg_callRi (va_runS (As := [.int x, .int 14]) (rest := []) (Ts := []) ⟨hx, hb, hml, hown, fun _ h9 => absurd h9 List.not_mem_nil⟩ (lw_below l E _ G x 14 (by omega) (by omega)) (rc_cwS hAm qw_618 qw_0 qw_620 qw_619 rfl rfl hd_L_below ⟨Nat.le_of_ble_eq_true rfl, Nat.le_of_ble_eq_true rfl⟩) (tg_preS hAm hA hw) rfl rfl hl.1 rfl (lv_room (Nat.le_of_ble_eq_true rfl)) dL_act_27 ⟨Nat.le_of_ble_eq_true rfl, Nat.le_of_ble_eq_true rfl⟩) hA hw (fun H locs hw => ?_)
  by_cases e0 : bl x 14 = 0
  · refine rc_topi 0 (show nI (bl x 14) = 0 by rw [e0]; rfl) ?_
    refine lv_tableIn (tgt := 72) hx hb dL_act_30 (by decide) (by decide) rfl (by decide) ?_
    refine lv_aload_n hx hb dL_act_72 rfl (lv_at hl 3 rfl) ?_
    refine lv_iload_n hx hb dL_act_73 rfl (lv_at hl 1 rfl) ?_
    refine lv_iconst (v := 4) hx hb dL_act_74 (by decide) ?_
    refine tg_callRi (va_runV (As := [.int (nI (bl (shr x 3) 2)), .int 4]) (rest := []) (Ts := []) ⟨hx, hb, hml, hown, fun _ h9 => absurd h9 List.not_mem_nil⟩ (pu_ofMachine4 l E _ ad v G hI (bl (shr x 3) 2) (by omega)) (rc_cwV hAm qw_632 qw_1 qw_635 qw_633 qw_634 rfl rfl hd_X6_ofMachine ⟨Nat.le_of_ble_eq_true rfl, Nat.le_of_ble_eq_true rfl⟩) (tg_preV hAm hA hw hco (q := vwCl[7]) rfl) rfl rfl hl.1 rfl (lv_room (Nat.le_of_ble_eq_true rfl)) dL_act_75 ⟨Nat.le_of_ble_eq_true rfl, Nat.le_of_ble_eq_true rfl⟩) hA hw (fun H locs hw => ?_)
    refine lv_istore (lv' := [(5, .int (vMI v (bl (shr x 3) 2) 5)), (4, .int (nI (vN v 3))), (3, .int (nI (bl (shr x 3) 2))), (2, .int (nI (bl (shr x 4) 6))), (0, .ref (ad 8)), (1, .int x)]) hx hb dL_act_78 hl (by decide) rfl (fun ls hl => ?_)
    refine lv_aload_n hx hb dL_act_80 rfl (lv_at hl 4 rfl) ?_
    refine lv_iload_n hx hb dL_act_81 rfl (lv_at hl 2 rfl) ?_
    refine lv_bipush (v := 90) hx hb dL_act_82 (by decide) ?_
    refine lv_iload_n hx hb dL_act_84 rfl (lv_at hl 5 rfl) ?_
    refine lv_iconst (v := 5) hx hb dL_act_85 (by decide) ?_
    refine lv_ishr hx hb dL_act_86 ?_
    refine rc_topi (shr x 5) rfl ?_
    refine lv_bipush (v := 12) hx hb dL_act_87 (by decide) ?_
    have hbl := bl_lt (shr x 5) (n := 12) (by omega)
    refine tg_callRi (va_runS (As := [.int (shr x 5), .int 12]) (rest := [.int 90, .int (nI (bl (shr x 3) 2)), .ref (ad 8)]) (Ts := []) ⟨hx, hb, hml, hown, fun _ h9 => absurd h9 List.not_mem_nil⟩ (lw_below l E _ G (shr x 5) 12 (by omega) (by omega)) (rc_cwS hAm qw_618 qw_0 qw_620 qw_619 rfl rfl hd_L_below ⟨Nat.le_of_ble_eq_true rfl, Nat.le_of_ble_eq_true rfl⟩) (tg_preS hAm hA hw) rfl rfl hl.1 rfl (lv_room (Nat.le_of_ble_eq_true rfl)) dL_act_89 ⟨Nat.le_of_ble_eq_true rfl, Nat.le_of_ble_eq_true rfl⟩) hA hw (fun H locs hw => ?_)
    refine lv_iadd hx hb dL_act_92 ?_
    refine rc_topi (nI (90 + bl (shr x 5) 12)) (nI_add 90 (bl (shr x 5) 12)) ?_
    refine tg_calli (va_runV (As := [.int (nI (bl (shr x 3) 2)), .int (nI (90 + bl (shr x 5) 12))]) (rest := []) (Ts := []) ⟨hx, hb, hml, hown, fun _ h9 => absurd h9 List.not_mem_nil⟩ (pu_measure l E _ ad v G hI hS hn hok (bl (shr x 3) 2) (by omega) (90 + bl (shr x 5) 12) (by omega) (by omega)) (rc_cwV hAm qw_652 qw_1 qw_655 qw_653 qw_654 rfl rfl hd_X6_measure ⟨Nat.le_of_ble_eq_true rfl, Nat.le_of_ble_eq_true rfl⟩) (tg_preV hAm hA hw hco (q := vwCl[7]) rfl) rfl rfl hl.1 rfl (lv_room (Nat.le_of_ble_eq_true rfl)) dL_act_93 ⟨Nat.le_of_ble_eq_true rfl, Nat.le_of_ble_eq_true rfl⟩) hA hw (fun r_2 G_1 H locs hp hw => ?_)
    obtain ⟨⟨d9, v2, ⟨hIS, hv2, hn2, hok2⟩, hr9⟩, -⟩ := hp
    rw [hr9]
    obtain ⟨hI, hS⟩ := id hIS
    have hb7 := (hI.1.2.2.1 (bl (shr x 3) 2) (by omega)).2.2.2.2.2
    have hm5 : vMI v2 (bl (shr x 3) 2) 5 = vMI v (bl (shr x 3) 2) 5 + 1 := by rw [hv2.vMI]; exact (if_pos rfl).trans rfl
    have hm2 : vMN v2 (bl (shr x 3) 2) 2 = (90 + bl (shr x 5) 12) := by rw [hv2.vMN]; exact (if_pos rfl).trans rfl
    have hco := hI.2.1
    refine lv_istore (lv' := [(6, .int (vMI v2 (bl (shr x 3) 2) 7)), (5, .int (vMI v (bl (shr x 3) 2) 5)), (4, .int (nI (vN v 3))), (3, .int (nI (bl (shr x 3) 2))), (2, .int (nI (bl (shr x 4) 6))), (0, .ref (ad 8)), (1, .int x)]) hx hb dL_act_96 hl (by decide) rfl (fun ls hl => ?_)
    refine lv_iload hx hb dL_act_98 (lv_at hl 0 rfl) ?_
    refine lv_aload_n hx hb dL_act_100 rfl (lv_at hl 5 rfl) ?_
    refine lv_iload_n hx hb dL_act_101 rfl (lv_at hl 3 rfl) ?_
    refine lv_iconst (v := 2) hx hb dL_act_102 (by decide) ?_
    refine tg_callRi (va_runV (As := [.int (nI (bl (shr x 3) 2)), .int 2]) (rest := [.int (vMI v2 (bl (shr x 3) 2) 7)]) (Ts := []) ⟨hx, hb, hml, hown, fun _ h9 => absurd h9 List.not_mem_nil⟩ (pu_ofMachine2 l E _ ad v2 G_1 hI (bl (shr x 3) 2) (by omega)) (rc_cwV hAm qw_632 qw_1 qw_635 qw_633 qw_634 rfl rfl hd_X6_ofMachine ⟨Nat.le_of_ble_eq_true rfl, Nat.le_of_ble_eq_true rfl⟩) (tg_preV hAm hA hw hco (q := vwCl[7]) rfl) rfl rfl hl.1 rfl (lv_room (Nat.le_of_ble_eq_true rfl)) dL_act_103 ⟨Nat.le_of_ble_eq_true rfl, Nat.le_of_ble_eq_true rfl⟩) hA hw (fun H locs hw => ?_)
    refine lv_iconst (v := 1) hx hb dL_act_106 (by decide) ?_
    refine lv_icmp_ne (tgt := 114) hx hb dL_act_107 (by decide) (fun cz => ?_) (fun cz => ?_)
    · have h71 : vMI v2 (bl (shr x 3) 2) 7 = 0 := hb7.elim id (fun z => absurd z cz)
      refine lv_iconst (v := 0) hx hb dL_act_114 (by decide) ?_
      refine lv_icmp_ne (tgt := 155) hx hb dL_act_115 (by decide) (fun c9 => absurd h71 c9) (fun _ => ?_)
      refine lv_aload_n hx hb dL_act_118 rfl (lv_at hl 5 rfl) ?_
      refine lv_iload_n hx hb dL_act_119 rfl (lv_at hl 3 rfl) ?_
      refine lv_iconst (v := 4) hx hb dL_act_120 (by decide) ?_
      refine tg_callRi (va_runV (As := [.int (nI (bl (shr x 3) 2)), .int 4]) (rest := []) (Ts := []) ⟨hx, hb, hml, hown, fun _ h9 => absurd h9 List.not_mem_nil⟩ (pu_ofMachine4 l E _ ad v2 G_1 hI (bl (shr x 3) 2) (by omega)) (rc_cwV hAm qw_632 qw_1 qw_635 qw_633 qw_634 rfl rfl hd_X6_ofMachine ⟨Nat.le_of_ble_eq_true rfl, Nat.le_of_ble_eq_true rfl⟩) (tg_preV hAm hA hw hco (q := vwCl[7]) rfl) rfl rfl hl.1 rfl (lv_room (Nat.le_of_ble_eq_true rfl)) dL_act_121 ⟨Nat.le_of_ble_eq_true rfl, Nat.le_of_ble_eq_true rfl⟩) hA hw (fun H locs hw => ?_)
      refine lv_iload hx hb dL_act_124 (lv_at hl 1 rfl) ?_
      refine lv_iconst (v := 1) hx hb dL_act_126 (by decide) ?_
      refine lv_iadd hx hb dL_act_127 ?_
      refine lv_icmp_ne (tgt := 155) hx hb dL_act_128 (by decide) (fun c9 => absurd hm5 c9) (fun _ => ?_)
      refine lv_aload_n hx hb dL_act_131 rfl (lv_at hl 5 rfl) ?_
      refine lv_iload_n hx hb dL_act_132 rfl (lv_at hl 3 rfl) ?_
      refine lv_iconst (v := 1) hx hb dL_act_133 (by decide) ?_
      refine tg_callRi (va_runV (As := [.int (nI (bl (shr x 3) 2)), .int 1]) (rest := []) (Ts := []) ⟨hx, hb, hml, hown, fun _ h9 => absurd h9 List.not_mem_nil⟩ (pu_ofMachine1 l E _ ad v2 G_1 hI (bl (shr x 3) 2) (by omega)) (rc_cwV hAm qw_632 qw_1 qw_635 qw_633 qw_634 rfl rfl hd_X6_ofMachine ⟨Nat.le_of_ble_eq_true rfl, Nat.le_of_ble_eq_true rfl⟩) (tg_preV hAm hA hw hco (q := vwCl[7]) rfl) rfl rfl hl.1 rfl (lv_room (Nat.le_of_ble_eq_true rfl)) dL_act_134 ⟨Nat.le_of_ble_eq_true rfl, Nat.le_of_ble_eq_true rfl⟩) hA hw (fun H locs hw => ?_)
      refine lv_bipush (v := 90) hx hb dL_act_137 (by decide) ?_
      refine lv_iload_n hx hb dL_act_139 rfl (lv_at hl 6 rfl) ?_
      refine lv_iconst (v := 5) hx hb dL_act_140 (by decide) ?_
      refine lv_ishr hx hb dL_act_141 ?_
      refine rc_topi (shr x 5) rfl ?_
      refine lv_bipush (v := 12) hx hb dL_act_142 (by decide) ?_
      have hbl := bl_lt (shr x 5) (n := 12) (by omega)
      refine tg_callRi (va_runS (As := [.int (shr x 5), .int 12]) (rest := [.int 90, .int (nI (vMN v2 (bl (shr x 3) 2) 2))]) (Ts := []) ⟨hx, hb, hml, hown, fun _ h9 => absurd h9 List.not_mem_nil⟩ (lw_below l E _ G_1 (shr x 5) 12 (by omega) (by omega)) (rc_cwS hAm qw_618 qw_0 qw_620 qw_619 rfl rfl hd_L_below ⟨Nat.le_of_ble_eq_true rfl, Nat.le_of_ble_eq_true rfl⟩) (tg_preS hAm hA hw) rfl rfl hl.1 rfl (lv_room (Nat.le_of_ble_eq_true rfl)) dL_act_144 ⟨Nat.le_of_ble_eq_true rfl, Nat.le_of_ble_eq_true rfl⟩) hA hw (fun H locs hw => ?_)
      refine lv_iadd hx hb dL_act_147 ?_
      refine rc_topi (nI (90 + bl (shr x 5) 12)) (nI_add 90 (bl (shr x 5) 12)) ?_
      refine lv_icmp_ne (tgt := 155) hx hb dL_act_148 (by decide) (fun c9 => absurd ((nI_eq (a := vMN v2 (bl (shr x 3) 2) 2) (b := 90 + bl (shr x 5) 12) (by omega) (by omega)).mpr (by omega)) c9) (fun _ => ?_)
      refine lv_iconst (v := 1) hx hb dL_act_151 (by decide) ?_
      refine lv_goto (tgt := 156) hx hb dL_act_152 (by decide) ?_
      exact tg_zret hx hb hr hlocks hw rfl (⟨rfl, AC.of (v1 := setM v (bl (shr x 3) 2) (90 + bl (shr x 5) 12) d9) rfl h0 ⟨hI, hS⟩ hv2 hn2 hok2 (mcOK_M hmc) rfl rfl rfl (Nat.le_succ _) (Nat.le_refl _) (Nat.le_refl _)⟩) (Nat.le_of_ble_eq_true rfl) (Nat.le_of_ble_eq_true rfl) dL_act_156
    · have h71 : vMI v2 (bl (shr x 3) 2) 7 = 1 := cz
      refine lv_iconst (v := 1) hx hb dL_act_110 (by decide) ?_
      refine lv_goto (tgt := 115) hx hb dL_act_111 (by decide) ?_
      refine lv_icmp_ne (tgt := 155) hx hb dL_act_115 (by decide) (fun c9 => absurd h71 c9) (fun _ => ?_)
      refine lv_aload_n hx hb dL_act_118 rfl (lv_at hl 5 rfl) ?_
      refine lv_iload_n hx hb dL_act_119 rfl (lv_at hl 3 rfl) ?_
      refine lv_iconst (v := 4) hx hb dL_act_120 (by decide) ?_
      refine tg_callRi (va_runV (As := [.int (nI (bl (shr x 3) 2)), .int 4]) (rest := []) (Ts := []) ⟨hx, hb, hml, hown, fun _ h9 => absurd h9 List.not_mem_nil⟩ (pu_ofMachine4 l E _ ad v2 G_1 hI (bl (shr x 3) 2) (by omega)) (rc_cwV hAm qw_632 qw_1 qw_635 qw_633 qw_634 rfl rfl hd_X6_ofMachine ⟨Nat.le_of_ble_eq_true rfl, Nat.le_of_ble_eq_true rfl⟩) (tg_preV hAm hA hw hco (q := vwCl[7]) rfl) rfl rfl hl.1 rfl (lv_room (Nat.le_of_ble_eq_true rfl)) dL_act_121 ⟨Nat.le_of_ble_eq_true rfl, Nat.le_of_ble_eq_true rfl⟩) hA hw (fun H locs hw => ?_)
      refine lv_iload hx hb dL_act_124 (lv_at hl 1 rfl) ?_
      refine lv_iconst (v := 1) hx hb dL_act_126 (by decide) ?_
      refine lv_iadd hx hb dL_act_127 ?_
      refine lv_icmp_ne (tgt := 155) hx hb dL_act_128 (by decide) (fun c9 => absurd hm5 c9) (fun _ => ?_)
      refine lv_aload_n hx hb dL_act_131 rfl (lv_at hl 5 rfl) ?_
      refine lv_iload_n hx hb dL_act_132 rfl (lv_at hl 3 rfl) ?_
      refine lv_iconst (v := 1) hx hb dL_act_133 (by decide) ?_
      refine tg_callRi (va_runV (As := [.int (nI (bl (shr x 3) 2)), .int 1]) (rest := []) (Ts := []) ⟨hx, hb, hml, hown, fun _ h9 => absurd h9 List.not_mem_nil⟩ (pu_ofMachine1 l E _ ad v2 G_1 hI (bl (shr x 3) 2) (by omega)) (rc_cwV hAm qw_632 qw_1 qw_635 qw_633 qw_634 rfl rfl hd_X6_ofMachine ⟨Nat.le_of_ble_eq_true rfl, Nat.le_of_ble_eq_true rfl⟩) (tg_preV hAm hA hw hco (q := vwCl[7]) rfl) rfl rfl hl.1 rfl (lv_room (Nat.le_of_ble_eq_true rfl)) dL_act_134 ⟨Nat.le_of_ble_eq_true rfl, Nat.le_of_ble_eq_true rfl⟩) hA hw (fun H locs hw => ?_)
      refine lv_bipush (v := 90) hx hb dL_act_137 (by decide) ?_
      refine lv_iload_n hx hb dL_act_139 rfl (lv_at hl 6 rfl) ?_
      refine lv_iconst (v := 5) hx hb dL_act_140 (by decide) ?_
      refine lv_ishr hx hb dL_act_141 ?_
      refine rc_topi (shr x 5) rfl ?_
      refine lv_bipush (v := 12) hx hb dL_act_142 (by decide) ?_
      have hbl := bl_lt (shr x 5) (n := 12) (by omega)
      refine tg_callRi (va_runS (As := [.int (shr x 5), .int 12]) (rest := [.int 90, .int (nI (vMN v2 (bl (shr x 3) 2) 2))]) (Ts := []) ⟨hx, hb, hml, hown, fun _ h9 => absurd h9 List.not_mem_nil⟩ (lw_below l E _ G_1 (shr x 5) 12 (by omega) (by omega)) (rc_cwS hAm qw_618 qw_0 qw_620 qw_619 rfl rfl hd_L_below ⟨Nat.le_of_ble_eq_true rfl, Nat.le_of_ble_eq_true rfl⟩) (tg_preS hAm hA hw) rfl rfl hl.1 rfl (lv_room (Nat.le_of_ble_eq_true rfl)) dL_act_144 ⟨Nat.le_of_ble_eq_true rfl, Nat.le_of_ble_eq_true rfl⟩) hA hw (fun H locs hw => ?_)
      refine lv_iadd hx hb dL_act_147 ?_
      refine rc_topi (nI (90 + bl (shr x 5) 12)) (nI_add 90 (bl (shr x 5) 12)) ?_
      refine lv_icmp_ne (tgt := 155) hx hb dL_act_148 (by decide) (fun c9 => absurd ((nI_eq (a := vMN v2 (bl (shr x 3) 2) 2) (b := 90 + bl (shr x 5) 12) (by omega) (by omega)).mpr (by omega)) c9) (fun _ => ?_)
      refine lv_iconst (v := 1) hx hb dL_act_151 (by decide) ?_
      refine lv_goto (tgt := 156) hx hb dL_act_152 (by decide) ?_
      exact tg_zret hx hb hr hlocks hw rfl (⟨rfl, AC.of (v1 := setM v (bl (shr x 3) 2) (90 + bl (shr x 5) 12) d9) rfl h0 ⟨hI, hS⟩ hv2 hn2 hok2 (mcOK_M hmc) rfl rfl rfl (Nat.le_succ _) (Nat.le_refl _) (Nat.le_refl _)⟩) (Nat.le_of_ble_eq_true rfl) (Nat.le_of_ble_eq_true rfl) dL_act_156
  · by_cases e1 : bl x 14 = 1
    · refine rc_topi 1 (show nI (bl x 14) = 1 by rw [e1]; rfl) ?_
      refine lv_tableIn (tgt := 157) hx hb dL_act_30 (by decide) (by decide) rfl (by decide) ?_
      refine lv_aload_n hx hb dL_act_157 rfl (lv_at hl 3 rfl) ?_
      refine lv_iload_n hx hb dL_act_158 rfl (lv_at hl 4 rfl) ?_
      refine lv_iconst (v := 4) hx hb dL_act_159 (by decide) ?_
      refine lv_ishr hx hb dL_act_160 ?_
      refine rc_topi (shr x 4) rfl ?_
      refine lv_iconst (v := 1) hx hb dL_act_161 (by decide) ?_
      refine lv_aload_n hx hb dL_act_162 rfl (lv_at hl 3 rfl) ?_
      refine lv_iconst (v := 2) hx hb dL_act_163 (by decide) ?_
      refine tg_callRi (va_runV (As := [.int 2]) (rest := [.int 1, .int (shr x 4), .ref (ad 8)]) (Ts := []) ⟨hx, hb, hml, hown, fun _ h9 => absurd h9 List.not_mem_nil⟩ (pu_many2 l E _ ad v G hI) (rc_cwV hAm qw_511 qw_1 qw_514 qw_512 qw_513 rfl rfl hd_X6_many ⟨Nat.le_of_ble_eq_true rfl, Nat.le_of_ble_eq_true rfl⟩) (tg_preV hAm hA hw hco (q := vwCl[7]) rfl) rfl rfl hl.1 rfl (lv_room (Nat.le_of_ble_eq_true rfl)) dL_act_164 ⟨Nat.le_of_ble_eq_true rfl, Nat.le_of_ble_eq_true rfl⟩) hA hw (fun H locs hw => ?_)
      refine va_mmax hx hb (by rw [hml]; exact hl.1.symm) hown (hAm.wd qw_667 rfl rfl) (hAm.wd qw_187 rfl rfl) (hAm.wd qw_10 rfl rfl) (hAm.wd qw_188 rfl rfl) (Nat.le_of_ble_eq_true rfl) (Nat.le_of_ble_eq_true rfl) (Nat.le_of_ble_eq_true rfl) (Nat.le_of_ble_eq_true rfl) dL_act_167 ?_
      refine rc_topi (nI (max 1 (vn v))) (nb_max (a := 1) (b := vn v) (by omega) (by omega)) ?_
      have hbl := bl_lt (shr x 4) (n := max 1 (vn v)) (by omega)
      refine tg_callRi (va_runS (As := [.int (shr x 4), .int (nI (max 1 (vn v)))]) (rest := [.ref (ad 8)]) (Ts := []) ⟨hx, hb, hml, hown, fun _ h9 => absurd h9 List.not_mem_nil⟩ (lw_below l E _ G (shr x 4) (max 1 (vn v)) (by omega) (by omega)) (rc_cwS hAm qw_618 qw_0 qw_620 qw_619 rfl rfl hd_L_below ⟨Nat.le_of_ble_eq_true rfl, Nat.le_of_ble_eq_true rfl⟩) (tg_preS hAm hA hw) rfl rfl hl.1 rfl (lv_room (Nat.le_of_ble_eq_true rfl)) dL_act_170 ⟨Nat.le_of_ble_eq_true rfl, Nat.le_of_ble_eq_true rfl⟩) hA hw (fun H locs hw => ?_)
      refine tg_callxi (vx_runV (As := [.int (nI (bl (shr x 4) (max 1 (vn v))))]) (rest := []) (Ts := []) ⟨hx, hb, hml, hown, fun _ h9 => absurd h9 List.not_mem_nil⟩ (pu_strike l hst E _ ad v G hI hS hn hok (bl (shr x 4) (max 1 (vn v))) (by omega)) (rc_cwV hAm qw_668 qw_1 qw_671 qw_669 qw_670 rfl rfl hd_X6_strike ⟨Nat.le_of_ble_eq_true rfl, Nat.le_of_ble_eq_true rfl⟩) (tg_preV hAm hA hw hco (q := vwCl[7]) rfl) rfl rfl hl.1 rfl (lv_room (Nat.le_of_ble_eq_true rfl)) dL_act_173 ⟨Nat.le_of_ble_eq_true rfl, Nat.le_of_ble_eq_true rfl⟩) hA hw (fun x9 ce9 q9 H locs hpe hw h91 h92 h93 => ?_) (fun r_3 G_4 H locs hp hw => ?_)
      · rcases hpe with ⟨rfl, hz0⟩ | rfl
        · refine vx_catch (own := RL) (name := "java/lang/IndexOutOfBoundsException") hown [⟨24, 156, 512, 101⟩] ⟨157, 184, 512, 101⟩ [⟨185, 242, 512, 101⟩, ⟨243, 264, 512, 101⟩, ⟨265, 320, 512, 101⟩, ⟨321, 369, 512, 101⟩, ⟨370, 397, 512, 101⟩, ⟨398, 511, 512, 101⟩, ⟨24, 156, 528, 103⟩, ⟨157, 184, 528, 103⟩, ⟨185, 242, 528, 103⟩, ⟨243, 264, 528, 103⟩, ⟨265, 320, 528, 103⟩, ⟨321, 369, 528, 103⟩, ⟨370, 397, 528, 103⟩, ⟨398, 511, 528, 103⟩, ⟨24, 156, 546, 105⟩, ⟨157, 184, 546, 105⟩, ⟨185, 242, 546, 105⟩, ⟨243, 264, 546, 105⟩, ⟨265, 320, 546, 105⟩, ⟨321, 369, 546, 105⟩, ⟨370, 397, 546, 105⟩, ⟨398, 511, 546, 105⟩] (by rw [htb]; rfl) (List.forall_mem_cons.mpr ⟨Or.inl (by decide), fun z9 h9 => absurd h9 List.not_mem_nil⟩) (by decide) (by decide) (hAm.wd qw_629 rfl rfl) (hAm.wd qw_638 rfl rfl) h91 h92 h93 ?_
          refine lv_astore (lv' := [(5, .ref q9), (4, .int (nI (vN v 3))), (3, .int (nI (bl (shr x 3) 2))), (2, .int (nI (bl (shr x 4) 6))), (0, .ref (ad 8)), (1, .int x)]) hx hb dL_act_512 hl (by decide) rfl (fun ls hl => ?_)
          refine lv_aload_n hx hb dL_act_514 rfl (lv_at hl 4 rfl) ?_
          refine lv_iconst (v := 2) hx hb dL_act_515 (by decide) ?_
          refine tg_callRi (va_runV (As := [.int 2]) (rest := []) (Ts := []) ⟨hx, hb, hml, hown, fun _ h9 => absurd h9 List.not_mem_nil⟩ (pu_many2 l E _ ad v G hI) (rc_cwV hAm qw_511 qw_1 qw_514 qw_512 qw_513 rfl rfl hd_X6_many ⟨Nat.le_of_ble_eq_true rfl, Nat.le_of_ble_eq_true rfl⟩) (tg_preV hAm hA hw hco (q := vwCl[7]) rfl) rfl rfl hl.1 rfl (lv_room (Nat.le_of_ble_eq_true rfl)) dL_act_516 ⟨Nat.le_of_ble_eq_true rfl, Nat.le_of_ble_eq_true rfl⟩) hA hw (fun H locs hw => ?_)
          refine lv_if_ne (tgt := 526) hx hb dL_act_519 (by decide) (fun c9 => absurd ((nI_eq (a := vn v) (b := 0) (by omega) (by omega)).mpr (by omega)) c9) (fun _ => ?_)
          refine lv_iconst (v := 1) hx hb dL_act_522 (by decide) ?_
          refine lv_goto (tgt := 527) hx hb dL_act_523 (by decide) ?_
          exact tg_zret hx hb hr hlocks hw rfl (⟨rfl, AC.same ⟨hI, hS⟩ hn hok hmc⟩) (Nat.le_of_ble_eq_true rfl) (Nat.le_of_ble_eq_true rfl) dL_act_527
        · refine vx_catch (own := RL) (name := "java/lang/IllegalStateException") hown [⟨24, 156, 512, 101⟩, ⟨157, 184, 512, 101⟩, ⟨185, 242, 512, 101⟩, ⟨243, 264, 512, 101⟩, ⟨265, 320, 512, 101⟩, ⟨321, 369, 512, 101⟩, ⟨370, 397, 512, 101⟩, ⟨398, 511, 512, 101⟩, ⟨24, 156, 528, 103⟩, ⟨157, 184, 528, 103⟩, ⟨185, 242, 528, 103⟩, ⟨243, 264, 528, 103⟩, ⟨265, 320, 528, 103⟩, ⟨321, 369, 528, 103⟩, ⟨370, 397, 528, 103⟩, ⟨398, 511, 528, 103⟩, ⟨24, 156, 546, 105⟩] ⟨157, 184, 546, 105⟩ [⟨185, 242, 546, 105⟩, ⟨243, 264, 546, 105⟩, ⟨265, 320, 546, 105⟩, ⟨321, 369, 546, 105⟩, ⟨370, 397, 546, 105⟩, ⟨398, 511, 546, 105⟩] (by rw [htb]; rfl) (List.forall_mem_cons.mpr ⟨Or.inl (by decide), List.forall_mem_cons.mpr ⟨Or.inr ⟨by decide, "java/lang/IndexOutOfBoundsException", hAm.wd qw_629 rfl rfl, hAm.1.2.2.2 ("java/lang/IllegalStateException", "java/lang/IndexOutOfBoundsException") (by decide)⟩, List.forall_mem_cons.mpr ⟨Or.inl (by decide), List.forall_mem_cons.mpr ⟨Or.inl (by decide), List.forall_mem_cons.mpr ⟨Or.inl (by decide), List.forall_mem_cons.mpr ⟨Or.inl (by decide), List.forall_mem_cons.mpr ⟨Or.inl (by decide), List.forall_mem_cons.mpr ⟨Or.inl (by decide), List.forall_mem_cons.mpr ⟨Or.inl (by decide), List.forall_mem_cons.mpr ⟨Or.inr ⟨by decide, "java/lang/IllegalArgumentException", hAm.wd qw_630 rfl rfl, hAm.1.2.2.2 ("java/lang/IllegalStateException", "java/lang/IllegalArgumentException") (by decide)⟩, List.forall_mem_cons.mpr ⟨Or.inl (by decide), List.forall_mem_cons.mpr ⟨Or.inl (by decide), List.forall_mem_cons.mpr ⟨Or.inl (by decide), List.forall_mem_cons.mpr ⟨Or.inl (by decide), List.forall_mem_cons.mpr ⟨Or.inl (by decide), List.forall_mem_cons.mpr ⟨Or.inl (by decide), List.forall_mem_cons.mpr ⟨Or.inl (by decide), fun z9 h9 => absurd h9 List.not_mem_nil⟩⟩⟩⟩⟩⟩⟩⟩⟩⟩⟩⟩⟩⟩⟩⟩⟩) (by decide) (by decide) (hAm.wd qw_631 rfl rfl) (hAm.wd qw_349 rfl rfl) h91 h92 h93 ?_
          refine lv_astore (lv' := [(5, .ref q9), (4, .int (nI (vN v 3))), (3, .int (nI (bl (shr x 3) 2))), (2, .int (nI (bl (shr x 4) 6))), (0, .ref (ad 8)), (1, .int x)]) hx hb dL_act_546 hl (by decide) rfl (fun ls hl => ?_)
          refine lv_aload_n hx hb dL_act_548 rfl (lv_at hl 4 rfl) ?_
          refine lv_iconst (v := 5) hx hb dL_act_549 (by decide) ?_
          refine tg_callRi (va_runV (As := [.int 5]) (rest := []) (Ts := []) ⟨hx, hb, hml, hown, fun _ h9 => absurd h9 List.not_mem_nil⟩ (pu_many5 l E _ ad v G hI) (rc_cwV hAm qw_511 qw_1 qw_514 qw_512 qw_513 rfl rfl hd_X6_many ⟨Nat.le_of_ble_eq_true rfl, Nat.le_of_ble_eq_true rfl⟩) (tg_preV hAm hA hw hco (q := vwCl[7]) rfl) rfl rfl hl.1 rfl (lv_room (Nat.le_of_ble_eq_true rfl)) dL_act_550 ⟨Nat.le_of_ble_eq_true rfl, Nat.le_of_ble_eq_true rfl⟩) hA hw (fun H locs hw => ?_)
          refine lv_iload hx hb dL_act_553 (lv_at hl 1 rfl) ?_
          refine lv_icmp_ne (tgt := 581) hx hb dL_act_555 (by decide) (fun c9 => absurd ((nI_eq (a := vN v 3) (b := vN v 3) (by omega) (by omega)).mpr (by omega)) c9) (fun _ => ?_)
          refine lv_iload_n hx hb dL_act_558 rfl (lv_at hl 5 rfl) ?_
          refine lv_bipush (v := 14) hx hb dL_act_559 (by decide) ?_
          have hbl := bl_lt x (n := 14) (by omega)
          refine tg_callRi (va_runS (As := [.int x, .int 14]) (rest := []) (Ts := []) ⟨hx, hb, hml, hown, fun _ h9 => absurd h9 List.not_mem_nil⟩ (lw_below l E _ G x 14 (by omega) (by omega)) (rc_cwS hAm qw_618 qw_0 qw_620 qw_619 rfl rfl hd_L_below ⟨Nat.le_of_ble_eq_true rfl, Nat.le_of_ble_eq_true rfl⟩) (tg_preS hAm hA hw) rfl rfl hl.1 rfl (lv_room (Nat.le_of_ble_eq_true rfl)) dL_act_561 ⟨Nat.le_of_ble_eq_true rfl, Nat.le_of_ble_eq_true rfl⟩) hA hw (fun H locs hw => ?_)
          refine lv_if_eq (tgt := 581) hx hb dL_act_564 (by decide) (fun c9 => absurd c9 (fun z9 => absurd ((nI_eq (a := bl x 14) (b := 0) (by omega) (by omega)).mp z9) (by omega))) (fun _ => ?_)
          refine lv_iload_n hx hb dL_act_567 rfl (lv_at hl 5 rfl) ?_
          refine lv_bipush (v := 14) hx hb dL_act_568 (by decide) ?_
          have hbl := bl_lt x (n := 14) (by omega)
          refine tg_callRi (va_runS (As := [.int x, .int 14]) (rest := []) (Ts := []) ⟨hx, hb, hml, hown, fun _ h9 => absurd h9 List.not_mem_nil⟩ (lw_below l E _ G x 14 (by omega) (by omega)) (rc_cwS hAm qw_618 qw_0 qw_620 qw_619 rfl rfl hd_L_below ⟨Nat.le_of_ble_eq_true rfl, Nat.le_of_ble_eq_true rfl⟩) (tg_preS hAm hA hw) rfl rfl hl.1 rfl (lv_room (Nat.le_of_ble_eq_true rfl)) dL_act_570 ⟨Nat.le_of_ble_eq_true rfl, Nat.le_of_ble_eq_true rfl⟩) hA hw (fun H locs hw => ?_)
          refine lv_iconst (v := 4) hx hb dL_act_573 (by decide) ?_
          refine lv_icmp_eq (tgt := 581) hx hb dL_act_574 (by decide) (fun c9 => absurd c9 (fun z9 => absurd ((nI_eq (a := bl x 14) (b := 4) (by omega) (by omega)).mp z9) (by omega))) (fun _ => ?_)
          refine lv_iconst (v := 1) hx hb dL_act_577 (by decide) ?_
          refine lv_goto (tgt := 582) hx hb dL_act_578 (by decide) ?_
          exact tg_zret hx hb hr hlocks hw rfl (⟨rfl, AC.same ⟨hI, hS⟩ hn hok hmc⟩) (Nat.le_of_ble_eq_true rfl) (Nat.le_of_ble_eq_true rfl) dL_act_582
      · obtain ⟨⟨hk2, v2, ⟨hIS, hv2, hn2, hok2⟩, hr9⟩, -⟩ := hp
        rw [hr9]
        obtain ⟨hI, hS⟩ := id hIS
        have hw9 := (h0.2.1 _ hk2).2.2
        have hco := hI.2.1
        refine lv_if_lt (tgt := 183) hx hb dL_act_176 (by decide) (fun c9 => absurd c9 (fun z9 => absurd ((nI_ltI (a := (vR v (bl (shr x 4) (max 1 (vn v)))).2.2) (b := 0) (by omega) (by omega)).mp z9) (by omega))) (fun _ => ?_)
        refine lv_iconst (v := 1) hx hb dL_act_179 (by decide) ?_
        refine lv_goto (tgt := 184) hx hb dL_act_180 (by decide) ?_
        exact tg_zret hx hb hr hlocks hw rfl (⟨rfl, AC.of (v1 := setT v (bl (shr x 4) (max 1 (vn v)))) rfl h0 ⟨hI, hS⟩ hv2 hn2 hok2 hmc rfl rfl rfl (Nat.le_succ _) (Nat.le_refl _) (Nat.le_refl _)⟩) (Nat.le_of_ble_eq_true rfl) (Nat.le_of_ble_eq_true rfl) dL_act_184
    · by_cases e2 : bl x 14 = 2
      · refine rc_topi 2 (show nI (bl x 14) = 2 by rw [e2]; rfl) ?_
        refine lv_tableIn (tgt := 185) hx hb dL_act_30 (by decide) (by decide) rfl (by decide) ?_
        refine lv_aload_n hx hb dL_act_185 rfl (lv_at hl 3 rfl) ?_
        refine lv_iload_n hx hb dL_act_186 rfl (lv_at hl 2 rfl) ?_
        refine lv_iload_n hx hb dL_act_187 rfl (lv_at hl 4 rfl) ?_
        refine lv_bipush (v := 6) hx hb dL_act_188 (by decide) ?_
        refine lv_ishr hx hb dL_act_190 ?_
        refine rc_topi (shr x 6) rfl ?_
        refine lv_bipush (v := 6) hx hb dL_act_191 (by decide) ?_
        have hbl := bl_lt (shr x 6) (n := 6) (by omega)
        refine tg_callRi (va_runS (As := [.int (shr x 6), .int 6]) (rest := [.int (nI (bl (shr x 4) 6)), .ref (ad 8)]) (Ts := []) ⟨hx, hb, hml, hown, fun _ h9 => absurd h9 List.not_mem_nil⟩ (lw_below l E _ G (shr x 6) 6 (by omega) (by omega)) (rc_cwS hAm qw_618 qw_0 qw_620 qw_619 rfl rfl hd_L_below ⟨Nat.le_of_ble_eq_true rfl, Nat.le_of_ble_eq_true rfl⟩) (tg_preS hAm hA hw) rfl rfl hl.1 rfl (lv_room (Nat.le_of_ble_eq_true rfl)) dL_act_193 ⟨Nat.le_of_ble_eq_true rfl, Nat.le_of_ble_eq_true rfl⟩) hA hw (fun H locs hw => ?_)
        refine tg_callxi (vx_runV (As := [.int (nI (bl (shr x 4) 6)), .int (nI (bl (shr x 6) 6))]) (rest := []) (Ts := []) ⟨hx, hb, hml, hown, fun _ h9 => absurd h9 List.not_mem_nil⟩ (pu_begin l hst E _ ad v G hI hS hn hok (bl (shr x 4) 6) (bl (shr x 6) 6) (by omega) (by omega)) (rc_cwV hAm qw_674 qw_1 qw_677 qw_675 qw_676 rfl rfl hd_X6_begin ⟨Nat.le_of_ble_eq_true rfl, Nat.le_of_ble_eq_true rfl⟩) (tg_preV hAm hA hw hco (q := vwCl[7]) rfl) rfl rfl hl.1 rfl (lv_room (Nat.le_of_ble_eq_true rfl)) dL_act_196 ⟨Nat.le_of_ble_eq_true rfl, Nat.le_of_ble_eq_true rfl⟩) hA hw (fun x9 ce9 q9 H locs hpe hw h91 h92 h93 => ?_) (fun r_5 G_6 H locs hp hw => ?_)
        · rcases hpe with rfl | rfl
          · refine vx_catch (own := RL) (name := "java/lang/IllegalArgumentException") hown [⟨24, 156, 512, 101⟩, ⟨157, 184, 512, 101⟩, ⟨185, 242, 512, 101⟩, ⟨243, 264, 512, 101⟩, ⟨265, 320, 512, 101⟩, ⟨321, 369, 512, 101⟩, ⟨370, 397, 512, 101⟩, ⟨398, 511, 512, 101⟩, ⟨24, 156, 528, 103⟩, ⟨157, 184, 528, 103⟩] ⟨185, 242, 528, 103⟩ [⟨243, 264, 528, 103⟩, ⟨265, 320, 528, 103⟩, ⟨321, 369, 528, 103⟩, ⟨370, 397, 528, 103⟩, ⟨398, 511, 528, 103⟩, ⟨24, 156, 546, 105⟩, ⟨157, 184, 546, 105⟩, ⟨185, 242, 546, 105⟩, ⟨243, 264, 546, 105⟩, ⟨265, 320, 546, 105⟩, ⟨321, 369, 546, 105⟩, ⟨370, 397, 546, 105⟩, ⟨398, 511, 546, 105⟩] (by rw [htb]; rfl) (List.forall_mem_cons.mpr ⟨Or.inl (by decide), List.forall_mem_cons.mpr ⟨Or.inl (by decide), List.forall_mem_cons.mpr ⟨Or.inr ⟨by decide, "java/lang/IndexOutOfBoundsException", hAm.wd qw_629 rfl rfl, hAm.1.2.2.2 ("java/lang/IllegalArgumentException", "java/lang/IndexOutOfBoundsException") (by decide)⟩, List.forall_mem_cons.mpr ⟨Or.inl (by decide), List.forall_mem_cons.mpr ⟨Or.inl (by decide), List.forall_mem_cons.mpr ⟨Or.inl (by decide), List.forall_mem_cons.mpr ⟨Or.inl (by decide), List.forall_mem_cons.mpr ⟨Or.inl (by decide), List.forall_mem_cons.mpr ⟨Or.inl (by decide), List.forall_mem_cons.mpr ⟨Or.inl (by decide), fun z9 h9 => absurd h9 List.not_mem_nil⟩⟩⟩⟩⟩⟩⟩⟩⟩⟩) (by decide) (by decide) (hAm.wd qw_630 rfl rfl) (hAm.wd qw_277 rfl rfl) h91 h92 h93 ?_
            refine lv_astore (lv' := [(5, .ref q9), (4, .int (nI (vN v 3))), (3, .int (nI (bl (shr x 3) 2))), (2, .int (nI (bl (shr x 4) 6))), (0, .ref (ad 8)), (1, .int x)]) hx hb dL_act_528 hl (by decide) rfl (fun ls hl => ?_)
            refine lv_iload_n hx hb dL_act_530 rfl (lv_at hl 5 rfl) ?_
            refine lv_bipush (v := 14) hx hb dL_act_531 (by decide) ?_
            have hbl := bl_lt x (n := 14) (by omega)
            refine tg_callRi (va_runS (As := [.int x, .int 14]) (rest := []) (Ts := []) ⟨hx, hb, hml, hown, fun _ h9 => absurd h9 List.not_mem_nil⟩ (lw_below l E _ G x 14 (by omega) (by omega)) (rc_cwS hAm qw_618 qw_0 qw_620 qw_619 rfl rfl hd_L_below ⟨Nat.le_of_ble_eq_true rfl, Nat.le_of_ble_eq_true rfl⟩) (tg_preS hAm hA hw) rfl rfl hl.1 rfl (lv_room (Nat.le_of_ble_eq_true rfl)) dL_act_533 ⟨Nat.le_of_ble_eq_true rfl, Nat.le_of_ble_eq_true rfl⟩) hA hw (fun H locs hw => ?_)
            refine lv_iconst (v := 2) hx hb dL_act_536 (by decide) ?_
            refine lv_icmp_ne (tgt := 544) hx hb dL_act_537 (by decide) (fun c9 => absurd ((nI_eq (a := bl x 14) (b := 2) (by omega) (by omega)).mpr (by omega)) c9) (fun _ => ?_)
            refine lv_iconst (v := 1) hx hb dL_act_540 (by decide) ?_
            refine lv_goto (tgt := 545) hx hb dL_act_541 (by decide) ?_
            exact tg_zret hx hb hr hlocks hw rfl (⟨rfl, AC.same ⟨hI, hS⟩ hn hok hmc⟩) (Nat.le_of_ble_eq_true rfl) (Nat.le_of_ble_eq_true rfl) dL_act_545
          · refine vx_catch (own := RL) (name := "java/lang/IllegalStateException") hown [⟨24, 156, 512, 101⟩, ⟨157, 184, 512, 101⟩, ⟨185, 242, 512, 101⟩, ⟨243, 264, 512, 101⟩, ⟨265, 320, 512, 101⟩, ⟨321, 369, 512, 101⟩, ⟨370, 397, 512, 101⟩, ⟨398, 511, 512, 101⟩, ⟨24, 156, 528, 103⟩, ⟨157, 184, 528, 103⟩, ⟨185, 242, 528, 103⟩, ⟨243, 264, 528, 103⟩, ⟨265, 320, 528, 103⟩, ⟨321, 369, 528, 103⟩, ⟨370, 397, 528, 103⟩, ⟨398, 511, 528, 103⟩, ⟨24, 156, 546, 105⟩, ⟨157, 184, 546, 105⟩] ⟨185, 242, 546, 105⟩ [⟨243, 264, 546, 105⟩, ⟨265, 320, 546, 105⟩, ⟨321, 369, 546, 105⟩, ⟨370, 397, 546, 105⟩, ⟨398, 511, 546, 105⟩] (by rw [htb]; rfl) (List.forall_mem_cons.mpr ⟨Or.inl (by decide), List.forall_mem_cons.mpr ⟨Or.inl (by decide), List.forall_mem_cons.mpr ⟨Or.inr ⟨by decide, "java/lang/IndexOutOfBoundsException", hAm.wd qw_629 rfl rfl, hAm.1.2.2.2 ("java/lang/IllegalStateException", "java/lang/IndexOutOfBoundsException") (by decide)⟩, List.forall_mem_cons.mpr ⟨Or.inl (by decide), List.forall_mem_cons.mpr ⟨Or.inl (by decide), List.forall_mem_cons.mpr ⟨Or.inl (by decide), List.forall_mem_cons.mpr ⟨Or.inl (by decide), List.forall_mem_cons.mpr ⟨Or.inl (by decide), List.forall_mem_cons.mpr ⟨Or.inl (by decide), List.forall_mem_cons.mpr ⟨Or.inl (by decide), List.forall_mem_cons.mpr ⟨Or.inr ⟨by decide, "java/lang/IllegalArgumentException", hAm.wd qw_630 rfl rfl, hAm.1.2.2.2 ("java/lang/IllegalStateException", "java/lang/IllegalArgumentException") (by decide)⟩, List.forall_mem_cons.mpr ⟨Or.inl (by decide), List.forall_mem_cons.mpr ⟨Or.inl (by decide), List.forall_mem_cons.mpr ⟨Or.inl (by decide), List.forall_mem_cons.mpr ⟨Or.inl (by decide), List.forall_mem_cons.mpr ⟨Or.inl (by decide), List.forall_mem_cons.mpr ⟨Or.inl (by decide), List.forall_mem_cons.mpr ⟨Or.inl (by decide), fun z9 h9 => absurd h9 List.not_mem_nil⟩⟩⟩⟩⟩⟩⟩⟩⟩⟩⟩⟩⟩⟩⟩⟩⟩⟩) (by decide) (by decide) (hAm.wd qw_631 rfl rfl) (hAm.wd qw_349 rfl rfl) h91 h92 h93 ?_
            refine lv_astore (lv' := [(5, .ref q9), (4, .int (nI (vN v 3))), (3, .int (nI (bl (shr x 3) 2))), (2, .int (nI (bl (shr x 4) 6))), (0, .ref (ad 8)), (1, .int x)]) hx hb dL_act_546 hl (by decide) rfl (fun ls hl => ?_)
            refine lv_aload_n hx hb dL_act_548 rfl (lv_at hl 4 rfl) ?_
            refine lv_iconst (v := 5) hx hb dL_act_549 (by decide) ?_
            refine tg_callRi (va_runV (As := [.int 5]) (rest := []) (Ts := []) ⟨hx, hb, hml, hown, fun _ h9 => absurd h9 List.not_mem_nil⟩ (pu_many5 l E _ ad v G hI) (rc_cwV hAm qw_511 qw_1 qw_514 qw_512 qw_513 rfl rfl hd_X6_many ⟨Nat.le_of_ble_eq_true rfl, Nat.le_of_ble_eq_true rfl⟩) (tg_preV hAm hA hw hco (q := vwCl[7]) rfl) rfl rfl hl.1 rfl (lv_room (Nat.le_of_ble_eq_true rfl)) dL_act_550 ⟨Nat.le_of_ble_eq_true rfl, Nat.le_of_ble_eq_true rfl⟩) hA hw (fun H locs hw => ?_)
            refine lv_iload hx hb dL_act_553 (lv_at hl 1 rfl) ?_
            refine lv_icmp_ne (tgt := 581) hx hb dL_act_555 (by decide) (fun c9 => absurd ((nI_eq (a := vN v 3) (b := vN v 3) (by omega) (by omega)).mpr (by omega)) c9) (fun _ => ?_)
            refine lv_iload_n hx hb dL_act_558 rfl (lv_at hl 5 rfl) ?_
            refine lv_bipush (v := 14) hx hb dL_act_559 (by decide) ?_
            have hbl := bl_lt x (n := 14) (by omega)
            refine tg_callRi (va_runS (As := [.int x, .int 14]) (rest := []) (Ts := []) ⟨hx, hb, hml, hown, fun _ h9 => absurd h9 List.not_mem_nil⟩ (lw_below l E _ G x 14 (by omega) (by omega)) (rc_cwS hAm qw_618 qw_0 qw_620 qw_619 rfl rfl hd_L_below ⟨Nat.le_of_ble_eq_true rfl, Nat.le_of_ble_eq_true rfl⟩) (tg_preS hAm hA hw) rfl rfl hl.1 rfl (lv_room (Nat.le_of_ble_eq_true rfl)) dL_act_561 ⟨Nat.le_of_ble_eq_true rfl, Nat.le_of_ble_eq_true rfl⟩) hA hw (fun H locs hw => ?_)
            refine lv_if_eq (tgt := 581) hx hb dL_act_564 (by decide) (fun c9 => absurd c9 (fun z9 => absurd ((nI_eq (a := bl x 14) (b := 0) (by omega) (by omega)).mp z9) (by omega))) (fun _ => ?_)
            refine lv_iload_n hx hb dL_act_567 rfl (lv_at hl 5 rfl) ?_
            refine lv_bipush (v := 14) hx hb dL_act_568 (by decide) ?_
            have hbl := bl_lt x (n := 14) (by omega)
            refine tg_callRi (va_runS (As := [.int x, .int 14]) (rest := []) (Ts := []) ⟨hx, hb, hml, hown, fun _ h9 => absurd h9 List.not_mem_nil⟩ (lw_below l E _ G x 14 (by omega) (by omega)) (rc_cwS hAm qw_618 qw_0 qw_620 qw_619 rfl rfl hd_L_below ⟨Nat.le_of_ble_eq_true rfl, Nat.le_of_ble_eq_true rfl⟩) (tg_preS hAm hA hw) rfl rfl hl.1 rfl (lv_room (Nat.le_of_ble_eq_true rfl)) dL_act_570 ⟨Nat.le_of_ble_eq_true rfl, Nat.le_of_ble_eq_true rfl⟩) hA hw (fun H locs hw => ?_)
            refine lv_iconst (v := 4) hx hb dL_act_573 (by decide) ?_
            refine lv_icmp_eq (tgt := 581) hx hb dL_act_574 (by decide) (fun c9 => absurd c9 (fun z9 => absurd ((nI_eq (a := bl x 14) (b := 4) (by omega) (by omega)).mp z9) (by omega))) (fun _ => ?_)
            refine lv_iconst (v := 1) hx hb dL_act_577 (by decide) ?_
            refine lv_goto (tgt := 582) hx hb dL_act_578 (by decide) ?_
            exact tg_zret hx hb hr hlocks hw rfl (⟨rfl, AC.same ⟨hI, hS⟩ hn hok hmc⟩) (Nat.le_of_ble_eq_true rfl) (Nat.le_of_ble_eq_true rfl) dL_act_582
        · obtain ⟨⟨v2, ⟨hIS, hv2, hn2, hok2⟩, hr9⟩, -⟩ := hp
          rw [hr9]
          obtain ⟨hI, hS⟩ := id hIS
          have hco := hI.2.1
          rcases id hok2 with hoff | ⟨g9, b9, hW9⟩
          · refine rc_topi (-1) hoff.2.2.2 ?_
            refine lv_istore (lv' := [(7, .int (-1)), (4, .int (nI (vN v 3))), (3, .int (nI (bl (shr x 3) 2))), (2, .int (nI (bl (shr x 4) 6))), (0, .ref (ad 8)), (1, .int x)]) hx hb dL_act_199 hl (by decide) rfl (fun ls hl => ?_)
            refine lv_iload hx hb dL_act_201 (lv_at hl 0 rfl) ?_
            refine lv_aload_n hx hb dL_act_203 rfl (lv_at hl 4 rfl) ?_
            refine lv_iconst (v := 2) hx hb dL_act_204 (by decide) ?_
            refine tg_callRi (va_runV (As := [.int 2]) (rest := [.int (-1)]) (Ts := []) ⟨hx, hb, hml, hown, fun _ h9 => absurd h9 List.not_mem_nil⟩ (pu_ofCase2 l E _ ad v2 G_6 hI) (rc_cwV hAm qw_689 qw_1 qw_692 qw_690 qw_691 rfl rfl hd_X6_ofCase ⟨Nat.le_of_ble_eq_true rfl, Nat.le_of_ble_eq_true rfl⟩) (tg_preV hAm hA hw hco (q := vwCl[7]) rfl) rfl rfl hl.1 rfl (lv_room (Nat.le_of_ble_eq_true rfl)) dL_act_205 ⟨Nat.le_of_ble_eq_true rfl, Nat.le_of_ble_eq_true rfl⟩) hA hw (fun H locs hw => ?_)
            refine rc_topi (-1) hoff.2.2.2 ?_
            refine lv_icmp_ne (tgt := 241) hx hb dL_act_208 (by decide) (fun c9 => absurd (by decide) c9) (fun _ => ?_)
            refine lv_iload hx hb dL_act_211 (lv_at hl 0 rfl) ?_
            refine lv_if_lt (tgt := 220) hx hb dL_act_213 (by decide) (fun _ => ?_) (fun c9 => absurd (by decide) c9)
            refine lv_iconst (v := 0) hx hb dL_act_220 (by decide) ?_
            refine lv_aload_n hx hb dL_act_221 rfl (lv_at hl 4 rfl) ?_
            refine lv_iconst (v := 0) hx hb dL_act_222 (by decide) ?_
            refine tg_callRi (va_runV (As := [.int 0]) (rest := [.int 0]) (Ts := []) ⟨hx, hb, hml, hown, fun _ h9 => absurd h9 List.not_mem_nil⟩ (pu_ofCase0 l E _ ad v2 G_6 hI) (rc_cwV hAm qw_689 qw_1 qw_692 qw_690 qw_691 rfl rfl hd_X6_ofCase ⟨Nat.le_of_ble_eq_true rfl, Nat.le_of_ble_eq_true rfl⟩) (tg_preV hAm hA hw hco (q := vwCl[7]) rfl) rfl rfl hl.1 rfl (lv_room (Nat.le_of_ble_eq_true rfl)) dL_act_223 ⟨Nat.le_of_ble_eq_true rfl, Nat.le_of_ble_eq_true rfl⟩) hA hw (fun H locs hw => ?_)
            refine rc_topi (-1) hoff.2.1 ?_
            refine lv_if_lt (tgt := 233) hx hb dL_act_226 (by decide) (fun _ => ?_) (fun c9 => absurd (by decide) c9)
            refine lv_iconst (v := 0) hx hb dL_act_233 (by decide) ?_
            refine lv_icmp_ne (tgt := 241) hx hb dL_act_234 (by decide) (fun c9 => absurd (by decide) c9) (fun _ => ?_)
            refine lv_iconst (v := 1) hx hb dL_act_237 (by decide) ?_
            refine lv_goto (tgt := 242) hx hb dL_act_238 (by decide) ?_
            exact tg_zret hx hb hr hlocks hw rfl (⟨rfl, AC.of (v1 := v) rfl h0 ⟨hI, hS⟩ hv2 hn2 hok2 hmc rfl rfl rfl (Nat.le_succ _) (Nat.le_refl _) (Nat.le_refl _)⟩) (Nat.le_of_ble_eq_true rfl) (Nat.le_of_ble_eq_true rfl) dL_act_242
          · have hw6 := waitF_lt hW9.1
            refine rc_topi (nI (waitF v2 g9 b9)) hW9.2.2 ?_
            refine lv_istore (lv' := [(7, .int (nI (waitF v2 g9 b9))), (4, .int (nI (vN v 3))), (3, .int (nI (bl (shr x 3) 2))), (2, .int (nI (bl (shr x 4) 6))), (0, .ref (ad 8)), (1, .int x)]) hx hb dL_act_199 hl (by decide) rfl (fun ls hl => ?_)
            refine lv_iload hx hb dL_act_201 (lv_at hl 0 rfl) ?_
            refine lv_aload_n hx hb dL_act_203 rfl (lv_at hl 4 rfl) ?_
            refine lv_iconst (v := 2) hx hb dL_act_204 (by decide) ?_
            refine tg_callRi (va_runV (As := [.int 2]) (rest := [.int (nI (waitF v2 g9 b9))]) (Ts := []) ⟨hx, hb, hml, hown, fun _ h9 => absurd h9 List.not_mem_nil⟩ (pu_ofCase2 l E _ ad v2 G_6 hI) (rc_cwV hAm qw_689 qw_1 qw_692 qw_690 qw_691 rfl rfl hd_X6_ofCase ⟨Nat.le_of_ble_eq_true rfl, Nat.le_of_ble_eq_true rfl⟩) (tg_preV hAm hA hw hco (q := vwCl[7]) rfl) rfl rfl hl.1 rfl (lv_room (Nat.le_of_ble_eq_true rfl)) dL_act_205 ⟨Nat.le_of_ble_eq_true rfl, Nat.le_of_ble_eq_true rfl⟩) hA hw (fun H locs hw => ?_)
            refine rc_topi (nI (waitF v2 g9 b9)) hW9.2.2 ?_
            refine lv_icmp_ne (tgt := 241) hx hb dL_act_208 (by decide) (fun c9 => absurd ((nI_eq (a := waitF v2 g9 b9) (b := waitF v2 g9 b9) (by omega) (by omega)).mpr (by omega)) c9) (fun _ => ?_)
            refine lv_iload hx hb dL_act_211 (lv_at hl 0 rfl) ?_
            refine lv_if_lt (tgt := 220) hx hb dL_act_213 (by decide) (fun c9 => absurd c9 (fun z9 => absurd ((nI_ltI (a := waitF v2 g9 b9) (b := 0) (by omega) (by omega)).mp z9) (by omega))) (fun _ => ?_)
            refine lv_iconst (v := 1) hx hb dL_act_216 (by decide) ?_
            refine lv_goto (tgt := 221) hx hb dL_act_217 (by decide) ?_
            refine lv_aload_n hx hb dL_act_221 rfl (lv_at hl 4 rfl) ?_
            refine lv_iconst (v := 0) hx hb dL_act_222 (by decide) ?_
            refine tg_callRi (va_runV (As := [.int 0]) (rest := [.int 1]) (Ts := []) ⟨hx, hb, hml, hown, fun _ h9 => absurd h9 List.not_mem_nil⟩ (pu_ofCase0 l E _ ad v2 G_6 hI) (rc_cwV hAm qw_689 qw_1 qw_692 qw_690 qw_691 rfl rfl hd_X6_ofCase ⟨Nat.le_of_ble_eq_true rfl, Nat.le_of_ble_eq_true rfl⟩) (tg_preV hAm hA hw hco (q := vwCl[7]) rfl) rfl rfl hl.1 rfl (lv_room (Nat.le_of_ble_eq_true rfl)) dL_act_223 ⟨Nat.le_of_ble_eq_true rfl, Nat.le_of_ble_eq_true rfl⟩) hA hw (fun H locs hw => ?_)
            have hgb9 := hW9.1.2.2.2.1
            have hb69 := hW9.1.2.2.2.2
            refine rc_topi (nI g9) hW9.1.2.1 ?_
            refine lv_if_lt (tgt := 233) hx hb dL_act_226 (by decide) (fun c9 => absurd c9 (fun z9 => absurd ((nI_ltI (a := g9) (b := 0) (by omega) (by omega)).mp z9) (by omega))) (fun _ => ?_)
            refine lv_iconst (v := 1) hx hb dL_act_229 (by decide) ?_
            refine lv_goto (tgt := 234) hx hb dL_act_230 (by decide) ?_
            refine lv_icmp_ne (tgt := 241) hx hb dL_act_234 (by decide) (fun c9 => absurd (by decide) c9) (fun _ => ?_)
            refine lv_iconst (v := 1) hx hb dL_act_237 (by decide) ?_
            refine lv_goto (tgt := 242) hx hb dL_act_238 (by decide) ?_
            exact tg_zret hx hb hr hlocks hw rfl (⟨rfl, AC.of (v1 := v) rfl h0 ⟨hI, hS⟩ hv2 hn2 hok2 hmc rfl rfl rfl (Nat.le_succ _) (Nat.le_refl _) (Nat.le_refl _)⟩) (Nat.le_of_ble_eq_true rfl) (Nat.le_of_ble_eq_true rfl) dL_act_242
      · by_cases e3 : bl x 14 = 3
        · refine rc_topi 3 (show nI (bl x 14) = 3 by rw [e3]; rfl) ?_
          refine lv_tableIn (tgt := 243) hx hb dL_act_30 (by decide) (by decide) rfl (by decide) ?_
          refine lv_aload_n hx hb dL_act_243 rfl (lv_at hl 3 rfl) ?_
          refine tg_callxi (vx_runV (As := []) (rest := []) (Ts := []) ⟨hx, hb, hml, hown, fun _ h9 => absurd h9 List.not_mem_nil⟩ (pu_drop l hst E _ ad v G hI hS hn hok) (rc_cwV hAm qw_693 qw_1 qw_696 qw_694 qw_695 rfl rfl hd_X6_drop ⟨Nat.le_of_ble_eq_true rfl, Nat.le_of_ble_eq_true rfl⟩) (tg_preV hAm hA hw hco (q := vwCl[7]) rfl) rfl rfl hl.1 rfl (lv_room (Nat.le_of_ble_eq_true rfl)) dL_act_244 ⟨Nat.le_of_ble_eq_true rfl, Nat.le_of_ble_eq_true rfl⟩) hA hw (fun x9 ce9 q9 H locs hpe hw h91 h92 h93 => ?_) (fun r_7 G_8 H locs hp hw => ?_)
          · rcases hpe with rfl
            refine vx_catch (own := RL) (name := "java/lang/IllegalStateException") hown [⟨24, 156, 512, 101⟩, ⟨157, 184, 512, 101⟩, ⟨185, 242, 512, 101⟩, ⟨243, 264, 512, 101⟩, ⟨265, 320, 512, 101⟩, ⟨321, 369, 512, 101⟩, ⟨370, 397, 512, 101⟩, ⟨398, 511, 512, 101⟩, ⟨24, 156, 528, 103⟩, ⟨157, 184, 528, 103⟩, ⟨185, 242, 528, 103⟩, ⟨243, 264, 528, 103⟩, ⟨265, 320, 528, 103⟩, ⟨321, 369, 528, 103⟩, ⟨370, 397, 528, 103⟩, ⟨398, 511, 528, 103⟩, ⟨24, 156, 546, 105⟩, ⟨157, 184, 546, 105⟩, ⟨185, 242, 546, 105⟩] ⟨243, 264, 546, 105⟩ [⟨265, 320, 546, 105⟩, ⟨321, 369, 546, 105⟩, ⟨370, 397, 546, 105⟩, ⟨398, 511, 546, 105⟩] (by rw [htb]; rfl) (List.forall_mem_cons.mpr ⟨Or.inl (by decide), List.forall_mem_cons.mpr ⟨Or.inl (by decide), List.forall_mem_cons.mpr ⟨Or.inl (by decide), List.forall_mem_cons.mpr ⟨Or.inr ⟨by decide, "java/lang/IndexOutOfBoundsException", hAm.wd qw_629 rfl rfl, hAm.1.2.2.2 ("java/lang/IllegalStateException", "java/lang/IndexOutOfBoundsException") (by decide)⟩, List.forall_mem_cons.mpr ⟨Or.inl (by decide), List.forall_mem_cons.mpr ⟨Or.inl (by decide), List.forall_mem_cons.mpr ⟨Or.inl (by decide), List.forall_mem_cons.mpr ⟨Or.inl (by decide), List.forall_mem_cons.mpr ⟨Or.inl (by decide), List.forall_mem_cons.mpr ⟨Or.inl (by decide), List.forall_mem_cons.mpr ⟨Or.inl (by decide), List.forall_mem_cons.mpr ⟨Or.inr ⟨by decide, "java/lang/IllegalArgumentException", hAm.wd qw_630 rfl rfl, hAm.1.2.2.2 ("java/lang/IllegalStateException", "java/lang/IllegalArgumentException") (by decide)⟩, List.forall_mem_cons.mpr ⟨Or.inl (by decide), List.forall_mem_cons.mpr ⟨Or.inl (by decide), List.forall_mem_cons.mpr ⟨Or.inl (by decide), List.forall_mem_cons.mpr ⟨Or.inl (by decide), List.forall_mem_cons.mpr ⟨Or.inl (by decide), List.forall_mem_cons.mpr ⟨Or.inl (by decide), List.forall_mem_cons.mpr ⟨Or.inl (by decide), fun z9 h9 => absurd h9 List.not_mem_nil⟩⟩⟩⟩⟩⟩⟩⟩⟩⟩⟩⟩⟩⟩⟩⟩⟩⟩⟩) (by decide) (by decide) (hAm.wd qw_631 rfl rfl) (hAm.wd qw_349 rfl rfl) h91 h92 h93 ?_
            refine lv_astore (lv' := [(5, .ref q9), (4, .int (nI (vN v 3))), (3, .int (nI (bl (shr x 3) 2))), (2, .int (nI (bl (shr x 4) 6))), (0, .ref (ad 8)), (1, .int x)]) hx hb dL_act_546 hl (by decide) rfl (fun ls hl => ?_)
            refine lv_aload_n hx hb dL_act_548 rfl (lv_at hl 4 rfl) ?_
            refine lv_iconst (v := 5) hx hb dL_act_549 (by decide) ?_
            refine tg_callRi (va_runV (As := [.int 5]) (rest := []) (Ts := []) ⟨hx, hb, hml, hown, fun _ h9 => absurd h9 List.not_mem_nil⟩ (pu_many5 l E _ ad v G hI) (rc_cwV hAm qw_511 qw_1 qw_514 qw_512 qw_513 rfl rfl hd_X6_many ⟨Nat.le_of_ble_eq_true rfl, Nat.le_of_ble_eq_true rfl⟩) (tg_preV hAm hA hw hco (q := vwCl[7]) rfl) rfl rfl hl.1 rfl (lv_room (Nat.le_of_ble_eq_true rfl)) dL_act_550 ⟨Nat.le_of_ble_eq_true rfl, Nat.le_of_ble_eq_true rfl⟩) hA hw (fun H locs hw => ?_)
            refine lv_iload hx hb dL_act_553 (lv_at hl 1 rfl) ?_
            refine lv_icmp_ne (tgt := 581) hx hb dL_act_555 (by decide) (fun c9 => absurd ((nI_eq (a := vN v 3) (b := vN v 3) (by omega) (by omega)).mpr (by omega)) c9) (fun _ => ?_)
            refine lv_iload_n hx hb dL_act_558 rfl (lv_at hl 5 rfl) ?_
            refine lv_bipush (v := 14) hx hb dL_act_559 (by decide) ?_
            have hbl := bl_lt x (n := 14) (by omega)
            refine tg_callRi (va_runS (As := [.int x, .int 14]) (rest := []) (Ts := []) ⟨hx, hb, hml, hown, fun _ h9 => absurd h9 List.not_mem_nil⟩ (lw_below l E _ G x 14 (by omega) (by omega)) (rc_cwS hAm qw_618 qw_0 qw_620 qw_619 rfl rfl hd_L_below ⟨Nat.le_of_ble_eq_true rfl, Nat.le_of_ble_eq_true rfl⟩) (tg_preS hAm hA hw) rfl rfl hl.1 rfl (lv_room (Nat.le_of_ble_eq_true rfl)) dL_act_561 ⟨Nat.le_of_ble_eq_true rfl, Nat.le_of_ble_eq_true rfl⟩) hA hw (fun H locs hw => ?_)
            refine lv_if_eq (tgt := 581) hx hb dL_act_564 (by decide) (fun c9 => absurd c9 (fun z9 => absurd ((nI_eq (a := bl x 14) (b := 0) (by omega) (by omega)).mp z9) (by omega))) (fun _ => ?_)
            refine lv_iload_n hx hb dL_act_567 rfl (lv_at hl 5 rfl) ?_
            refine lv_bipush (v := 14) hx hb dL_act_568 (by decide) ?_
            have hbl := bl_lt x (n := 14) (by omega)
            refine tg_callRi (va_runS (As := [.int x, .int 14]) (rest := []) (Ts := []) ⟨hx, hb, hml, hown, fun _ h9 => absurd h9 List.not_mem_nil⟩ (lw_below l E _ G x 14 (by omega) (by omega)) (rc_cwS hAm qw_618 qw_0 qw_620 qw_619 rfl rfl hd_L_below ⟨Nat.le_of_ble_eq_true rfl, Nat.le_of_ble_eq_true rfl⟩) (tg_preS hAm hA hw) rfl rfl hl.1 rfl (lv_room (Nat.le_of_ble_eq_true rfl)) dL_act_570 ⟨Nat.le_of_ble_eq_true rfl, Nat.le_of_ble_eq_true rfl⟩) hA hw (fun H locs hw => ?_)
            refine lv_iconst (v := 4) hx hb dL_act_573 (by decide) ?_
            refine lv_icmp_eq (tgt := 581) hx hb dL_act_574 (by decide) (fun c9 => absurd c9 (fun z9 => absurd ((nI_eq (a := bl x 14) (b := 4) (by omega) (by omega)).mp z9) (by omega))) (fun _ => ?_)
            refine lv_iconst (v := 1) hx hb dL_act_577 (by decide) ?_
            refine lv_goto (tgt := 582) hx hb dL_act_578 (by decide) ?_
            exact tg_zret hx hb hr hlocks hw rfl (⟨rfl, AC.same ⟨hI, hS⟩ hn hok hmc⟩) (Nat.le_of_ble_eq_true rfl) (Nat.le_of_ble_eq_true rfl) dL_act_582
          · obtain ⟨⟨v2, ⟨hIS, hv2, hn2, hok2⟩, hoff, n9, hn9, hr9⟩, -⟩ := hp
            rw [hr9]
            obtain ⟨hI, hS⟩ := id hIS
            have hco := hI.2.1
            refine lv_if_lt (tgt := 263) hx hb dL_act_247 (by decide) (fun c9 => absurd c9 (fun z9 => absurd ((nI_ltI (a := n9) (b := 0) (by omega) (by omega)).mp z9) (by omega))) (fun _ => ?_)
            refine lv_aload_n hx hb dL_act_250 rfl (lv_at hl 3 rfl) ?_
            refine lv_iconst (v := 0) hx hb dL_act_251 (by decide) ?_
            refine tg_callRi (va_runV (As := [.int 0]) (rest := []) (Ts := []) ⟨hx, hb, hml, hown, fun _ h9 => absurd h9 List.not_mem_nil⟩ (pu_ofCase0 l E _ ad v2 G_8 hI) (rc_cwV hAm qw_689 qw_1 qw_692 qw_690 qw_691 rfl rfl hd_X6_ofCase ⟨Nat.le_of_ble_eq_true rfl, Nat.le_of_ble_eq_true rfl⟩) (tg_preV hAm hA hw hco (q := vwCl[7]) rfl) rfl rfl hl.1 rfl (lv_room (Nat.le_of_ble_eq_true rfl)) dL_act_252 ⟨Nat.le_of_ble_eq_true rfl, Nat.le_of_ble_eq_true rfl⟩) hA hw (fun H locs hw => ?_)
            refine rc_topi ((-1)) (hoff.2.1) ?_
            refine lv_iconst (v := (-1)) hx hb dL_act_255 (by decide) ?_
            refine lv_icmp_ne (tgt := 263) hx hb dL_act_256 (by decide) (fun c9 => absurd (by decide) c9) (fun _ => ?_)
            refine lv_iconst (v := 1) hx hb dL_act_259 (by decide) ?_
            refine lv_goto (tgt := 264) hx hb dL_act_260 (by decide) ?_
            exact tg_zret hx hb hr hlocks hw rfl (⟨rfl, AC.of (v1 := v) rfl h0 ⟨hI, hS⟩ hv2 hn2 hok2 hmc rfl rfl rfl (Nat.le_succ _) (Nat.le_refl _) (Nat.le_refl _)⟩) (Nat.le_of_ble_eq_true rfl) (Nat.le_of_ble_eq_true rfl) dL_act_264
        · by_cases e4 : bl x 14 = 4
          · refine rc_topi 4 (show nI (bl x 14) = 4 by rw [e4]; rfl) ?_
            refine lv_tableIn (tgt := 265) hx hb dL_act_30 (by decide) (by decide) rfl (by decide) ?_
            refine lv_aload_n hx hb dL_act_265 rfl (lv_at hl 3 rfl) ?_
            refine tg_calli (va_runV (As := []) (rest := []) (Ts := []) ⟨hx, hb, hml, hown, fun _ h9 => absurd h9 List.not_mem_nil⟩ (pu_wouldMove l E _ ad v G hI hS) (rc_cwV hAm qw_698 qw_1 qw_613 qw_611 qw_612 rfl rfl hd_X6_wouldMove ⟨Nat.le_of_ble_eq_true rfl, Nat.le_of_ble_eq_true rfl⟩) (tg_preV hAm hA hw hco (q := vwCl[7]) rfl) rfl rfl hl.1 rfl (lv_room (Nat.le_of_ble_eq_true rfl)) dL_act_266 ⟨Nat.le_of_ble_eq_true rfl, Nat.le_of_ble_eq_true rfl⟩) hA hw (fun r_10 G_9 H locs hp hw => ?_)
            obtain ⟨hr9, hS, hu⟩ := hp
            rw [hr9]
            have hco := (hu 8 (by omega)).trans hco
            have hI := hI.scr (fun t9 h9 => hu t9 (by omega))
            refine lv_istore (lv' := [(8, .int (nI (wm v 6 (vN v 4)))), (4, .int (nI (vN v 3))), (3, .int (nI (bl (shr x 3) 2))), (2, .int (nI (bl (shr x 4) 6))), (0, .ref (ad 8)), (1, .int x)]) hx hb dL_act_269 hl (by decide) rfl (fun ls hl => ?_)
            refine lv_aload_n hx hb dL_act_271 rfl (lv_at hl 4 rfl) ?_
            refine tg_calli (va_runV (As := []) (rest := []) (Ts := []) ⟨hx, hb, hml, hown, fun _ h9 => absurd h9 List.not_mem_nil⟩ (pu_move l E _ ad v G_9 hI hS) (rc_cwV hAm qw_699 qw_1 qw_702 qw_700 qw_701 rfl rfl hd_X6_move ⟨Nat.le_of_ble_eq_true rfl, Nat.le_of_ble_eq_true rfl⟩) (tg_preV hAm hA hw hco (q := vwCl[7]) rfl) rfl rfl hl.1 rfl (lv_room (Nat.le_of_ble_eq_true rfl)) dL_act_272 ⟨Nat.le_of_ble_eq_true rfl, Nat.le_of_ble_eq_true rfl⟩) hA hw (fun r_12 G_11 H locs hp hw => ?_)
            obtain ⟨⟨hr9, cr, hIS, hcr1, hcr2⟩, -⟩ := hp
            rw [hr9]
            obtain ⟨hI, hS⟩ := id hIS
            have hwm6 : wm v 6 (vN v 4) < 6 := hI.1.2.2.2.2.2.2.2.2.2
            have hcr9 : cr ≤ 100 + 10 * wm v 6 (vN v 4) := hI.1.2.2.2.2.2.2.2.2.1
            have hco := hI.2.1
            refine lv_iload hx hb dL_act_275 (lv_at hl 0 rfl) ?_
            refine lv_icmp_ne (tgt := 319) hx hb dL_act_277 (by decide) (fun c9 => absurd ((nI_eq (a := wm v 6 (vN v 4)) (b := wm v 6 (vN v 4)) (by omega) (by omega)).mpr (by omega)) c9) (fun _ => ?_)
            refine lv_aload_n hx hb dL_act_280 rfl (lv_at hl 4 rfl) ?_
            refine lv_bipush (v := 6) hx hb dL_act_281 (by decide) ?_
            refine tg_callRi (va_runV (As := [.int 6]) (rest := []) (Ts := []) ⟨hx, hb, hml, hown, fun _ h9 => absurd h9 List.not_mem_nil⟩ (pu_many6 l E _ ad (setN v cr (wm v 6 (vN v 4))) G_11 hI) (rc_cwV hAm qw_511 qw_1 qw_514 qw_512 qw_513 rfl rfl hd_X6_many ⟨Nat.le_of_ble_eq_true rfl, Nat.le_of_ble_eq_true rfl⟩) (tg_preV hAm hA hw hco (q := vwCl[7]) rfl) rfl rfl hl.1 rfl (lv_room (Nat.le_of_ble_eq_true rfl)) dL_act_283 ⟨Nat.le_of_ble_eq_true rfl, Nat.le_of_ble_eq_true rfl⟩) hA hw (fun H locs hw => ?_)
            refine rc_topi (nI (wm v 6 (vN v 4))) rfl ?_
            refine lv_iload hx hb dL_act_286 (lv_at hl 0 rfl) ?_
            refine lv_icmp_ne (tgt := 319) hx hb dL_act_288 (by decide) (fun c9 => absurd ((nI_eq (a := wm v 6 (vN v 4)) (b := wm v 6 (vN v 4)) (by omega) (by omega)).mpr (by omega)) c9) (fun _ => ?_)
            refine lv_aload_n hx hb dL_act_291 rfl (lv_at hl 4 rfl) ?_
            refine lv_iconst (v := 5) hx hb dL_act_292 (by decide) ?_
            refine tg_callRi (va_runV (As := [.int 5]) (rest := []) (Ts := []) ⟨hx, hb, hml, hown, fun _ h9 => absurd h9 List.not_mem_nil⟩ (pu_many5 l E _ ad (setN v cr (wm v 6 (vN v 4))) G_11 hI) (rc_cwV hAm qw_511 qw_1 qw_514 qw_512 qw_513 rfl rfl hd_X6_many ⟨Nat.le_of_ble_eq_true rfl, Nat.le_of_ble_eq_true rfl⟩) (tg_preV hAm hA hw hco (q := vwCl[7]) rfl) rfl rfl hl.1 rfl (lv_room (Nat.le_of_ble_eq_true rfl)) dL_act_293 ⟨Nat.le_of_ble_eq_true rfl, Nat.le_of_ble_eq_true rfl⟩) hA hw (fun H locs hw => ?_)
            refine rc_topi (nI (cr)) rfl ?_
            refine lv_iload hx hb dL_act_296 (lv_at hl 1 rfl) ?_
            refine lv_isub hx hb dL_act_298 ?_
            refine rc_topi (nI (cr - (vN v 3))) (pk_sub (a := cr) (b := vN v 3) (by omega)) ?_
            refine lv_bipush (v := 10) hx hb dL_act_299 (by decide) ?_
            refine lv_irem hx hb dL_act_301 (by decide) ?_
            refine rc_topi (nI ((cr - vN v 3) % 10)) (pk_rem (a := cr - vN v 3) (d := 10) (by omega) (by omega) (by omega)) ?_
            refine lv_if_ne (tgt := 319) hx hb dL_act_302 (by decide) (fun c9 => absurd ((nI_eq (a := (cr - vN v 3) % 10) (b := 0) (by omega) (by omega)).mpr (by omega)) c9) (fun _ => ?_)
            refine lv_aload_n hx hb dL_act_305 rfl (lv_at hl 4 rfl) ?_
            refine lv_iconst (v := 5) hx hb dL_act_306 (by decide) ?_
            refine tg_callRi (va_runV (As := [.int 5]) (rest := []) (Ts := []) ⟨hx, hb, hml, hown, fun _ h9 => absurd h9 List.not_mem_nil⟩ (pu_many5 l E _ ad (setN v cr (wm v 6 (vN v 4))) G_11 hI) (rc_cwV hAm qw_511 qw_1 qw_514 qw_512 qw_513 rfl rfl hd_X6_many ⟨Nat.le_of_ble_eq_true rfl, Nat.le_of_ble_eq_true rfl⟩) (tg_preV hAm hA hw hco (q := vwCl[7]) rfl) rfl rfl hl.1 rfl (lv_room (Nat.le_of_ble_eq_true rfl)) dL_act_307 ⟨Nat.le_of_ble_eq_true rfl, Nat.le_of_ble_eq_true rfl⟩) hA hw (fun H locs hw => ?_)
            refine rc_topi (nI (cr)) rfl ?_
            refine lv_iload hx hb dL_act_310 (lv_at hl 1 rfl) ?_
            refine lv_icmp_lt (tgt := 319) hx hb dL_act_312 (by decide) (fun c9 => absurd c9 (fun z9 => absurd ((nI_ltI (a := cr) (b := vN v 3) (by omega) (by omega)).mp z9) (by omega))) (fun _ => ?_)
            refine lv_iconst (v := 1) hx hb dL_act_315 (by decide) ?_
            refine lv_goto (tgt := 320) hx hb dL_act_316 (by decide) ?_
            exact tg_zret hx hb hr hlocks hw rfl (⟨rfl, AC.move ⟨hI, hS⟩ hn hok hmc⟩) (Nat.le_of_ble_eq_true rfl) (Nat.le_of_ble_eq_true rfl) dL_act_320
          · by_cases e5 : bl x 14 = 5
            · refine rc_topi 5 (show nI (bl x 14) = 5 by rw [e5]; rfl) ?_
              refine lv_tableIn (tgt := 321) hx hb dL_act_30 (by decide) (by decide) rfl (by decide) ?_
              refine lv_aload_n hx hb dL_act_321 rfl (lv_at hl 3 rfl) ?_
              refine lv_iload_n hx hb dL_act_322 rfl (lv_at hl 2 rfl) ?_
              refine lv_iconst (v := 1) hx hb dL_act_323 (by decide) ?_
              refine lv_iload_n hx hb dL_act_324 rfl (lv_at hl 4 rfl) ?_
              refine lv_bipush (v := 6) hx hb dL_act_325 (by decide) ?_
              refine lv_ishr hx hb dL_act_327 ?_
              refine rc_topi (shr x 6) rfl ?_
              refine lv_bipush (v := 50) hx hb dL_act_328 (by decide) ?_
              have hbl := bl_lt (shr x 6) (n := 50) (by omega)
              refine tg_callRi (va_runS (As := [.int (shr x 6), .int 50]) (rest := [.int 1, .int (nI (bl (shr x 4) 6)), .ref (ad 8)]) (Ts := []) ⟨hx, hb, hml, hown, fun _ h9 => absurd h9 List.not_mem_nil⟩ (lw_below l E _ G (shr x 6) 50 (by omega) (by omega)) (rc_cwS hAm qw_618 qw_0 qw_620 qw_619 rfl rfl hd_L_below ⟨Nat.le_of_ble_eq_true rfl, Nat.le_of_ble_eq_true rfl⟩) (tg_preS hAm hA hw) rfl rfl hl.1 rfl (lv_room (Nat.le_of_ble_eq_true rfl)) dL_act_330 ⟨Nat.le_of_ble_eq_true rfl, Nat.le_of_ble_eq_true rfl⟩) hA hw (fun H locs hw => ?_)
              refine lv_iadd hx hb dL_act_333 ?_
              refine rc_topi (nI (1 + bl (shr x 6) 50)) (nI_add 1 (bl (shr x 6) 50)) ?_
              refine tg_callxi (vx_runV (As := [.int (nI (bl (shr x 4) 6)), .int (nI (1 + bl (shr x 6) 50))]) (rest := []) (Ts := []) ⟨hx, hb, hml, hown, fun _ h9 => absurd h9 List.not_mem_nil⟩ (pu_excuse l hst E _ ad v G hI hS (bl (shr x 4) 6) (by omega) (1 + bl (shr x 6) 50) (by omega) (by omega)) (rc_cwV hAm qw_703 qw_1 qw_706 qw_704 qw_705 rfl rfl hd_X6_excuse ⟨Nat.le_of_ble_eq_true rfl, Nat.le_of_ble_eq_true rfl⟩) (tg_preV hAm hA hw hco (q := vwCl[7]) rfl) rfl rfl hl.1 rfl (lv_room (Nat.le_of_ble_eq_true rfl)) dL_act_334 ⟨Nat.le_of_ble_eq_true rfl, Nat.le_of_ble_eq_true rfl⟩) hA hw (fun x9 ce9 q9 H locs hpe hw h91 h92 h93 => ?_) (fun r_13 G_14 H locs hp hw => ?_)
              · rcases hpe with rfl
                refine vx_catch (own := RL) (name := "java/lang/IllegalStateException") hown [⟨24, 156, 512, 101⟩, ⟨157, 184, 512, 101⟩, ⟨185, 242, 512, 101⟩, ⟨243, 264, 512, 101⟩, ⟨265, 320, 512, 101⟩, ⟨321, 369, 512, 101⟩, ⟨370, 397, 512, 101⟩, ⟨398, 511, 512, 101⟩, ⟨24, 156, 528, 103⟩, ⟨157, 184, 528, 103⟩, ⟨185, 242, 528, 103⟩, ⟨243, 264, 528, 103⟩, ⟨265, 320, 528, 103⟩, ⟨321, 369, 528, 103⟩, ⟨370, 397, 528, 103⟩, ⟨398, 511, 528, 103⟩, ⟨24, 156, 546, 105⟩, ⟨157, 184, 546, 105⟩, ⟨185, 242, 546, 105⟩, ⟨243, 264, 546, 105⟩, ⟨265, 320, 546, 105⟩] ⟨321, 369, 546, 105⟩ [⟨370, 397, 546, 105⟩, ⟨398, 511, 546, 105⟩] (by rw [htb]; rfl) (List.forall_mem_cons.mpr ⟨Or.inl (by decide), List.forall_mem_cons.mpr ⟨Or.inl (by decide), List.forall_mem_cons.mpr ⟨Or.inl (by decide), List.forall_mem_cons.mpr ⟨Or.inl (by decide), List.forall_mem_cons.mpr ⟨Or.inl (by decide), List.forall_mem_cons.mpr ⟨Or.inr ⟨by decide, "java/lang/IndexOutOfBoundsException", hAm.wd qw_629 rfl rfl, hAm.1.2.2.2 ("java/lang/IllegalStateException", "java/lang/IndexOutOfBoundsException") (by decide)⟩, List.forall_mem_cons.mpr ⟨Or.inl (by decide), List.forall_mem_cons.mpr ⟨Or.inl (by decide), List.forall_mem_cons.mpr ⟨Or.inl (by decide), List.forall_mem_cons.mpr ⟨Or.inl (by decide), List.forall_mem_cons.mpr ⟨Or.inl (by decide), List.forall_mem_cons.mpr ⟨Or.inl (by decide), List.forall_mem_cons.mpr ⟨Or.inl (by decide), List.forall_mem_cons.mpr ⟨Or.inr ⟨by decide, "java/lang/IllegalArgumentException", hAm.wd qw_630 rfl rfl, hAm.1.2.2.2 ("java/lang/IllegalStateException", "java/lang/IllegalArgumentException") (by decide)⟩, List.forall_mem_cons.mpr ⟨Or.inl (by decide), List.forall_mem_cons.mpr ⟨Or.inl (by decide), List.forall_mem_cons.mpr ⟨Or.inl (by decide), List.forall_mem_cons.mpr ⟨Or.inl (by decide), List.forall_mem_cons.mpr ⟨Or.inl (by decide), List.forall_mem_cons.mpr ⟨Or.inl (by decide), List.forall_mem_cons.mpr ⟨Or.inl (by decide), fun z9 h9 => absurd h9 List.not_mem_nil⟩⟩⟩⟩⟩⟩⟩⟩⟩⟩⟩⟩⟩⟩⟩⟩⟩⟩⟩⟩⟩) (by decide) (by decide) (hAm.wd qw_631 rfl rfl) (hAm.wd qw_349 rfl rfl) h91 h92 h93 ?_
                refine lv_astore (lv' := [(5, .ref q9), (4, .int (nI (vN v 3))), (3, .int (nI (bl (shr x 3) 2))), (2, .int (nI (bl (shr x 4) 6))), (0, .ref (ad 8)), (1, .int x)]) hx hb dL_act_546 hl (by decide) rfl (fun ls hl => ?_)
                refine lv_aload_n hx hb dL_act_548 rfl (lv_at hl 4 rfl) ?_
                refine lv_iconst (v := 5) hx hb dL_act_549 (by decide) ?_
                refine tg_callRi (va_runV (As := [.int 5]) (rest := []) (Ts := []) ⟨hx, hb, hml, hown, fun _ h9 => absurd h9 List.not_mem_nil⟩ (pu_many5 l E _ ad v G hI) (rc_cwV hAm qw_511 qw_1 qw_514 qw_512 qw_513 rfl rfl hd_X6_many ⟨Nat.le_of_ble_eq_true rfl, Nat.le_of_ble_eq_true rfl⟩) (tg_preV hAm hA hw hco (q := vwCl[7]) rfl) rfl rfl hl.1 rfl (lv_room (Nat.le_of_ble_eq_true rfl)) dL_act_550 ⟨Nat.le_of_ble_eq_true rfl, Nat.le_of_ble_eq_true rfl⟩) hA hw (fun H locs hw => ?_)
                refine lv_iload hx hb dL_act_553 (lv_at hl 1 rfl) ?_
                refine lv_icmp_ne (tgt := 581) hx hb dL_act_555 (by decide) (fun c9 => absurd ((nI_eq (a := vN v 3) (b := vN v 3) (by omega) (by omega)).mpr (by omega)) c9) (fun _ => ?_)
                refine lv_iload_n hx hb dL_act_558 rfl (lv_at hl 5 rfl) ?_
                refine lv_bipush (v := 14) hx hb dL_act_559 (by decide) ?_
                have hbl := bl_lt x (n := 14) (by omega)
                refine tg_callRi (va_runS (As := [.int x, .int 14]) (rest := []) (Ts := []) ⟨hx, hb, hml, hown, fun _ h9 => absurd h9 List.not_mem_nil⟩ (lw_below l E _ G x 14 (by omega) (by omega)) (rc_cwS hAm qw_618 qw_0 qw_620 qw_619 rfl rfl hd_L_below ⟨Nat.le_of_ble_eq_true rfl, Nat.le_of_ble_eq_true rfl⟩) (tg_preS hAm hA hw) rfl rfl hl.1 rfl (lv_room (Nat.le_of_ble_eq_true rfl)) dL_act_561 ⟨Nat.le_of_ble_eq_true rfl, Nat.le_of_ble_eq_true rfl⟩) hA hw (fun H locs hw => ?_)
                refine lv_if_eq (tgt := 581) hx hb dL_act_564 (by decide) (fun c9 => absurd c9 (fun z9 => absurd ((nI_eq (a := bl x 14) (b := 0) (by omega) (by omega)).mp z9) (by omega))) (fun _ => ?_)
                refine lv_iload_n hx hb dL_act_567 rfl (lv_at hl 5 rfl) ?_
                refine lv_bipush (v := 14) hx hb dL_act_568 (by decide) ?_
                have hbl := bl_lt x (n := 14) (by omega)
                refine tg_callRi (va_runS (As := [.int x, .int 14]) (rest := []) (Ts := []) ⟨hx, hb, hml, hown, fun _ h9 => absurd h9 List.not_mem_nil⟩ (lw_below l E _ G x 14 (by omega) (by omega)) (rc_cwS hAm qw_618 qw_0 qw_620 qw_619 rfl rfl hd_L_below ⟨Nat.le_of_ble_eq_true rfl, Nat.le_of_ble_eq_true rfl⟩) (tg_preS hAm hA hw) rfl rfl hl.1 rfl (lv_room (Nat.le_of_ble_eq_true rfl)) dL_act_570 ⟨Nat.le_of_ble_eq_true rfl, Nat.le_of_ble_eq_true rfl⟩) hA hw (fun H locs hw => ?_)
                refine lv_iconst (v := 4) hx hb dL_act_573 (by decide) ?_
                refine lv_icmp_eq (tgt := 581) hx hb dL_act_574 (by decide) (fun c9 => absurd c9 (fun z9 => absurd ((nI_eq (a := bl x 14) (b := 4) (by omega) (by omega)).mp z9) (by omega))) (fun _ => ?_)
                refine lv_iconst (v := 1) hx hb dL_act_577 (by decide) ?_
                refine lv_goto (tgt := 582) hx hb dL_act_578 (by decide) ?_
                exact tg_zret hx hb hr hlocks hw rfl (⟨rfl, AC.same ⟨hI, hS⟩ hn hok hmc⟩) (Nat.le_of_ble_eq_true rfl) (Nat.le_of_ble_eq_true rfl) dL_act_582
              · obtain ⟨⟨hr9, hp9, hx9, hIS⟩, -⟩ := hp
                rw [hr9]
                obtain ⟨hI, hS⟩ := id hIS
                have hco := hI.2.1
                refine lv_iload hx hb dL_act_337 (lv_at hl 0 rfl) ?_
                refine lv_iconst (v := 1) hx hb dL_act_339 (by decide) ?_
                refine lv_isub hx hb dL_act_340 ?_
                refine rc_topi (nI (vN v 3 - 1)) (pk_sub (a := vN v 3) (b := 1) (by omega)) ?_
                refine lv_iload_n hx hb dL_act_341 rfl (lv_at hl 4 rfl) ?_
                refine lv_bipush (v := 6) hx hb dL_act_342 (by decide) ?_
                refine lv_ishr hx hb dL_act_344 ?_
                refine rc_topi (shr x 6) rfl ?_
                refine lv_bipush (v := 50) hx hb dL_act_345 (by decide) ?_
                have hbl := bl_lt (shr x 6) (n := 50) (by omega)
                refine tg_callRi (va_runS (As := [.int (shr x 6), .int 50]) (rest := [.int (nI (vN v 3 - 1)), .int (nI (vN v 3 - (1 + bl (shr x 6) 50)))]) (Ts := []) ⟨hx, hb, hml, hown, fun _ h9 => absurd h9 List.not_mem_nil⟩ (lw_below l E _ G_14 (shr x 6) 50 (by omega) (by omega)) (rc_cwS hAm qw_618 qw_0 qw_620 qw_619 rfl rfl hd_L_below ⟨Nat.le_of_ble_eq_true rfl, Nat.le_of_ble_eq_true rfl⟩) (tg_preS hAm hA hw) rfl rfl hl.1 rfl (lv_room (Nat.le_of_ble_eq_true rfl)) dL_act_347 ⟨Nat.le_of_ble_eq_true rfl, Nat.le_of_ble_eq_true rfl⟩) hA hw (fun H locs hw => ?_)
                refine lv_isub hx hb dL_act_350 ?_
                refine rc_topi (nI (vN v 3 - 1 - (bl (shr x 6) 50))) (pk_sub (a := vN v 3 - 1) (b := bl (shr x 6) 50) (by omega)) ?_
                refine lv_icmp_ne (tgt := 368) hx hb dL_act_351 (by decide) (fun c9 => absurd ((nI_eq (a := vN v 3 - (1 + bl (shr x 6) 50)) (b := vN v 3 - 1 - (bl (shr x 6) 50)) (by omega) (by omega)).mpr (by omega)) c9) (fun _ => ?_)
                refine lv_aload_n hx hb dL_act_354 rfl (lv_at hl 3 rfl) ?_
                refine lv_iload_n hx hb dL_act_355 rfl (lv_at hl 2 rfl) ?_
                refine lv_iconst (v := 5) hx hb dL_act_356 (by decide) ?_
                refine tg_calli (va_runV (As := [.int (nI (bl (shr x 4) 6)), .int 5]) (rest := []) (Ts := []) ⟨hx, hb, hml, hown, fun _ h9 => absurd h9 List.not_mem_nil⟩ (pu_ofChange5 l E _ ad (setX v (bl (shr x 4) 6) (1 + bl (shr x 6) 50)) G_14 hI hS (bl (shr x 4) 6) (by omega)) (rc_cwV hAm qw_709 qw_1 qw_712 qw_710 qw_711 rfl rfl hd_X6_ofChange ⟨Nat.le_of_ble_eq_true rfl, Nat.le_of_ble_eq_true rfl⟩) (tg_preV hAm hA hw hco (q := vwCl[7]) rfl) rfl rfl hl.1 rfl (lv_room (Nat.le_of_ble_eq_true rfl)) dL_act_357 ⟨Nat.le_of_ble_eq_true rfl, Nat.le_of_ble_eq_true rfl⟩) hA hw (fun r_16 G_15 H locs hp hw => ?_)
                obtain ⟨hr9, hS, hu⟩ := hp
                rw [hr9]
                have hco := (hu 8 (by omega)).trans hco
                have hI := hI.scr (fun t9 h9 => hu t9 (by omega))
                refine rc_topi 1 chE_setX ?_
                refine lv_iconst (v := 1) hx hb dL_act_360 (by decide) ?_
                refine lv_icmp_ne (tgt := 368) hx hb dL_act_361 (by decide) (fun c9 => absurd (by decide) c9) (fun _ => ?_)
                refine lv_iconst (v := 1) hx hb dL_act_364 (by decide) ?_
                refine lv_goto (tgt := 369) hx hb dL_act_365 (by decide) ?_
                exact tg_zret hx hb hr hlocks hw rfl (⟨rfl, AC.exc ⟨hI, hS⟩ hn hok hmc⟩) (Nat.le_of_ble_eq_true rfl) (Nat.le_of_ble_eq_true rfl) dL_act_369
            · by_cases e6 : bl x 14 = 6
              · refine rc_topi 6 (show nI (bl x 14) = 6 by rw [e6]; rfl) ?_
                refine lv_tableIn (tgt := 370) hx hb dL_act_30 (by decide) (by decide) rfl (by decide) ?_
                refine lv_aload_n hx hb dL_act_370 rfl (lv_at hl 3 rfl) ?_
                refine lv_iconst (v := 1) hx hb dL_act_371 (by decide) ?_
                refine lv_iload_n hx hb dL_act_372 rfl (lv_at hl 4 rfl) ?_
                refine lv_iconst (v := 4) hx hb dL_act_373 (by decide) ?_
                refine lv_ishr hx hb dL_act_374 ?_
                refine rc_topi (shr x 4) rfl ?_
                refine lv_bipush (v := 100) hx hb dL_act_375 (by decide) ?_
                have hbl := bl_lt (shr x 4) (n := 100) (by omega)
                refine tg_callRi (va_runS (As := [.int (shr x 4), .int 100]) (rest := [.int 1, .ref (ad 8)]) (Ts := []) ⟨hx, hb, hml, hown, fun _ h9 => absurd h9 List.not_mem_nil⟩ (lw_below l E _ G (shr x 4) 100 (by omega) (by omega)) (rc_cwS hAm qw_618 qw_0 qw_620 qw_619 rfl rfl hd_L_below ⟨Nat.le_of_ble_eq_true rfl, Nat.le_of_ble_eq_true rfl⟩) (tg_preS hAm hA hw) rfl rfl hl.1 rfl (lv_room (Nat.le_of_ble_eq_true rfl)) dL_act_377 ⟨Nat.le_of_ble_eq_true rfl, Nat.le_of_ble_eq_true rfl⟩) hA hw (fun H locs hw => ?_)
                refine lv_iadd hx hb dL_act_380 ?_
                refine rc_topi (nI (1 + bl (shr x 4) 100)) (nI_add 1 (bl (shr x 4) 100)) ?_
                refine tg_calli (va_runV (As := [.int (nI (1 + bl (shr x 4) 100))]) (rest := []) (Ts := []) ⟨hx, hb, hml, hown, fun _ h9 => absurd h9 List.not_mem_nil⟩ (pu_budget l E _ ad v G hI hS (1 + bl (shr x 4) 100) (by omega) (by omega)) (rc_cwV hAm qw_713 qw_1 qw_716 qw_714 qw_715 rfl rfl hd_X6_budget ⟨Nat.le_of_ble_eq_true rfl, Nat.le_of_ble_eq_true rfl⟩) (tg_preV hAm hA hw hco (q := vwCl[7]) rfl) rfl rfl hl.1 rfl (lv_room (Nat.le_of_ble_eq_true rfl)) dL_act_381 ⟨Nat.le_of_ble_eq_true rfl, Nat.le_of_ble_eq_true rfl⟩) hA hw (fun r_18 G_17 H locs hp hw => ?_)
                obtain ⟨⟨hr9, hIS⟩, -⟩ := hp
                rw [hr9]
                obtain ⟨hI, hS⟩ := id hIS
                have hco := hI.2.1
                refine lv_aload_n hx hb dL_act_384 rfl (lv_at hl 3 rfl) ?_
                refine lv_iconst (v := 4) hx hb dL_act_385 (by decide) ?_
                refine tg_callRi (va_runV (As := [.int 4]) (rest := [.int (nI (min 5000 (vN v 2 + (1 + bl (shr x 4) 100))))]) (Ts := []) ⟨hx, hb, hml, hown, fun _ h9 => absurd h9 List.not_mem_nil⟩ (pu_many4 l E _ ad (setB v (min 5000 (vN v 2 + (1 + bl (shr x 4) 100)))) G_17 hI) (rc_cwV hAm qw_511 qw_1 qw_514 qw_512 qw_513 rfl rfl hd_X6_many ⟨Nat.le_of_ble_eq_true rfl, Nat.le_of_ble_eq_true rfl⟩) (tg_preV hAm hA hw hco (q := vwCl[7]) rfl) rfl rfl hl.1 rfl (lv_room (Nat.le_of_ble_eq_true rfl)) dL_act_386 ⟨Nat.le_of_ble_eq_true rfl, Nat.le_of_ble_eq_true rfl⟩) hA hw (fun H locs hw => ?_)
                refine rc_topi (nI (min 5000 (vN v 2 + (1 + bl (shr x 4) 100)))) rfl ?_
                refine lv_icmp_ne (tgt := 396) hx hb dL_act_389 (by decide) (fun c9 => absurd ((nI_eq (a := min 5000 (vN v 2 + (1 + bl (shr x 4) 100))) (b := min 5000 (vN v 2 + (1 + bl (shr x 4) 100))) (by omega) (by omega)).mpr (by omega)) c9) (fun _ => ?_)
                refine lv_iconst (v := 1) hx hb dL_act_392 (by decide) ?_
                refine lv_goto (tgt := 397) hx hb dL_act_393 (by decide) ?_
                exact tg_zret hx hb hr hlocks hw rfl (⟨rfl, AC.bud ⟨hI, hS⟩ hn hok hmc (by omega)⟩) (Nat.le_of_ble_eq_true rfl) (Nat.le_of_ble_eq_true rfl) dL_act_397
              · have hp1 := (h0.2.2.1 (bl (shr x 3) 2) (by omega)).1
                refine lv_tableOut (tgt := 398) hx hb dL_act_30 (Or.inr (by rw [nI_toInt (by omega)]; omega)) (by decide) ?_
                refine lv_aload_n hx hb dL_act_398 rfl (lv_at hl 3 rfl) ?_
                refine lv_iconst (v := 2) hx hb dL_act_399 (by decide) ?_
                refine tg_callRi (va_runV (As := [.int 2]) (rest := []) (Ts := []) ⟨hx, hb, hml, hown, fun _ h9 => absurd h9 List.not_mem_nil⟩ (pu_many2 l E _ ad v G hI) (rc_cwV hAm qw_511 qw_1 qw_514 qw_512 qw_513 rfl rfl hd_X6_many ⟨Nat.le_of_ble_eq_true rfl, Nat.le_of_ble_eq_true rfl⟩) (tg_preV hAm hA hw hco (q := vwCl[7]) rfl) rfl rfl hl.1 rfl (lv_room (Nat.le_of_ble_eq_true rfl)) dL_act_400 ⟨Nat.le_of_ble_eq_true rfl, Nat.le_of_ble_eq_true rfl⟩) hA hw (fun H locs hw => ?_)
                refine lv_istore (lv' := [(9, .int (nI (vn v))), (4, .int (nI (vN v 3))), (3, .int (nI (bl (shr x 3) 2))), (2, .int (nI (bl (shr x 4) 6))), (0, .ref (ad 8)), (1, .int x)]) hx hb dL_act_403 hl (by decide) rfl (fun ls hl => ?_)
                refine lv_aload_n hx hb dL_act_405 rfl (lv_at hl 4 rfl) ?_
                refine lv_iconst (v := 4) hx hb dL_act_406 (by decide) ?_
                refine tg_callRi (va_runV (As := [.int 4]) (rest := []) (Ts := []) ⟨hx, hb, hml, hown, fun _ h9 => absurd h9 List.not_mem_nil⟩ (pu_many4 l E _ ad v G hI) (rc_cwV hAm qw_511 qw_1 qw_514 qw_512 qw_513 rfl rfl hd_X6_many ⟨Nat.le_of_ble_eq_true rfl, Nat.le_of_ble_eq_true rfl⟩) (tg_preV hAm hA hw hco (q := vwCl[7]) rfl) rfl rfl hl.1 rfl (lv_room (Nat.le_of_ble_eq_true rfl)) dL_act_407 ⟨Nat.le_of_ble_eq_true rfl, Nat.le_of_ble_eq_true rfl⟩) hA hw (fun H locs hw => ?_)
                refine lv_istore (lv' := [(10, .int (nI (vN v 2))), (9, .int (nI (vn v))), (4, .int (nI (vN v 3))), (3, .int (nI (bl (shr x 3) 2))), (2, .int (nI (bl (shr x 4) 6))), (0, .ref (ad 8)), (1, .int x)]) hx hb dL_act_410 hl (by decide) rfl (fun ls hl => ?_)
                refine lv_aload_n hx hb dL_act_412 rfl (lv_at hl 5 rfl) ?_
                refine lv_iload_n hx hb dL_act_413 rfl (lv_at hl 4 rfl) ?_
                refine lv_iload_n hx hb dL_act_414 rfl (lv_at hl 3 rfl) ?_
                refine lv_bipush (v := 100) hx hb dL_act_415 (by decide) ?_
                refine lv_iload_n hx hb dL_act_417 rfl (lv_at hl 6 rfl) ?_
                refine lv_iconst (v := 5) hx hb dL_act_418 (by decide) ?_
                refine lv_ishr hx hb dL_act_419 ?_
                refine rc_topi (shr x 5) rfl ?_
                refine lv_bipush (v := 30) hx hb dL_act_420 (by decide) ?_
                have hbl := bl_lt (shr x 5) (n := 30) (by omega)
                refine tg_callRi (va_runS (As := [.int (shr x 5), .int 30]) (rest := [.int 100, .int (nI (bl (shr x 3) 2)), .int (nI (bl (shr x 4) 6)), .ref (ad 8)]) (Ts := []) ⟨hx, hb, hml, hown, fun _ h9 => absurd h9 List.not_mem_nil⟩ (lw_below l E _ G (shr x 5) 30 (by omega) (by omega)) (rc_cwS hAm qw_618 qw_0 qw_620 qw_619 rfl rfl hd_L_below ⟨Nat.le_of_ble_eq_true rfl, Nat.le_of_ble_eq_true rfl⟩) (tg_preS hAm hA hw) rfl rfl hl.1 rfl (lv_room (Nat.le_of_ble_eq_true rfl)) dL_act_422 ⟨Nat.le_of_ble_eq_true rfl, Nat.le_of_ble_eq_true rfl⟩) hA hw (fun H locs hw => ?_)
                refine lv_iadd hx hb dL_act_425 ?_
                refine rc_topi (nI (100 + bl (shr x 5) 30)) (nI_add 100 (bl (shr x 5) 30)) ?_
                refine lv_bipush (v := 20) hx hb dL_act_426 (by decide) ?_
                refine lv_iload_n hx hb dL_act_428 rfl (lv_at hl 6 rfl) ?_
                refine lv_bipush (v := 7) hx hb dL_act_429 (by decide) ?_
                refine lv_ishr hx hb dL_act_431 ?_
                refine rc_topi (shr x 7) rfl ?_
                refine lv_iconst (v := 2) hx hb dL_act_432 (by decide) ?_
                have hbl := bl_lt (shr x 7) (n := 2) (by omega)
                refine tg_callRi (va_runS (As := [.int (shr x 7), .int 2]) (rest := [.int 20, .int (nI (100 + bl (shr x 5) 30)), .int (nI (bl (shr x 3) 2)), .int (nI (bl (shr x 4) 6)), .ref (ad 8)]) (Ts := []) ⟨hx, hb, hml, hown, fun _ h9 => absurd h9 List.not_mem_nil⟩ (lw_below l E _ G (shr x 7) 2 (by omega) (by omega)) (rc_cwS hAm qw_618 qw_0 qw_620 qw_619 rfl rfl hd_L_below ⟨Nat.le_of_ble_eq_true rfl, Nat.le_of_ble_eq_true rfl⟩) (tg_preS hAm hA hw) rfl rfl hl.1 rfl (lv_room (Nat.le_of_ble_eq_true rfl)) dL_act_433 ⟨Nat.le_of_ble_eq_true rfl, Nat.le_of_ble_eq_true rfl⟩) hA hw (fun H locs hw => ?_)
                refine lv_imul hx hb dL_act_436 ?_
                refine rc_topi (nI (20 * (bl (shr x 7) 2))) (pk_mul 20 (bl (shr x 7) 2)) ?_
                refine lv_iadd hx hb dL_act_437 ?_
                refine rc_topi (nI (100 + bl (shr x 5) 30 + 20 * (bl (shr x 7) 2))) (nI_add (100 + bl (shr x 5) 30) (20 * (bl (shr x 7) 2))) ?_
                refine tg_callxi (vx_runV (As := [.int (nI (bl (shr x 4) 6)), .int (nI (bl (shr x 3) 2)), .int (nI (100 + bl (shr x 5) 30 + 20 * (bl (shr x 7) 2)))]) (rest := []) (Ts := []) ⟨hx, hb, hml, hown, fun _ h9 => absurd h9 List.not_mem_nil⟩ (pu_run l hst E _ ad v G hI hS hn hok (bl (shr x 4) 6) (by omega) (bl (shr x 3) 2) (by omega) (100 + bl (shr x 5) 30 + 20 * (bl (shr x 7) 2)) (by omega) (by omega) hnv (by rw [hmc _ (by omega)]; exact mcN_le _ _)) (rc_cwV hAm qw_719 qw_1 qw_722 qw_720 qw_721 rfl rfl hd_X6_run ⟨Nat.le_of_ble_eq_true rfl, Nat.le_of_ble_eq_true rfl⟩) (tg_preV hAm hA hw hco (q := vwCl[7]) rfl) rfl rfl hl.1 rfl (lv_room (Nat.le_of_ble_eq_true rfl)) dL_act_438 ⟨Nat.le_of_ble_eq_true rfl, Nat.le_of_ble_eq_true rfl⟩) hA hw (fun x9 ce9 q9 H locs hpe hw h91 h92 h93 => ?_) (fun r_19 G_20 H locs hp hw => ?_)
                · rcases hpe with rfl
                  refine vx_catch (own := RL) (name := "java/lang/IllegalStateException") hown [⟨24, 156, 512, 101⟩, ⟨157, 184, 512, 101⟩, ⟨185, 242, 512, 101⟩, ⟨243, 264, 512, 101⟩, ⟨265, 320, 512, 101⟩, ⟨321, 369, 512, 101⟩, ⟨370, 397, 512, 101⟩, ⟨398, 511, 512, 101⟩, ⟨24, 156, 528, 103⟩, ⟨157, 184, 528, 103⟩, ⟨185, 242, 528, 103⟩, ⟨243, 264, 528, 103⟩, ⟨265, 320, 528, 103⟩, ⟨321, 369, 528, 103⟩, ⟨370, 397, 528, 103⟩, ⟨398, 511, 528, 103⟩, ⟨24, 156, 546, 105⟩, ⟨157, 184, 546, 105⟩, ⟨185, 242, 546, 105⟩, ⟨243, 264, 546, 105⟩, ⟨265, 320, 546, 105⟩, ⟨321, 369, 546, 105⟩, ⟨370, 397, 546, 105⟩] ⟨398, 511, 546, 105⟩ [] (by rw [htb]; rfl) (List.forall_mem_cons.mpr ⟨Or.inl (by decide), List.forall_mem_cons.mpr ⟨Or.inl (by decide), List.forall_mem_cons.mpr ⟨Or.inl (by decide), List.forall_mem_cons.mpr ⟨Or.inl (by decide), List.forall_mem_cons.mpr ⟨Or.inl (by decide), List.forall_mem_cons.mpr ⟨Or.inl (by decide), List.forall_mem_cons.mpr ⟨Or.inl (by decide), List.forall_mem_cons.mpr ⟨Or.inr ⟨by decide, "java/lang/IndexOutOfBoundsException", hAm.wd qw_629 rfl rfl, hAm.1.2.2.2 ("java/lang/IllegalStateException", "java/lang/IndexOutOfBoundsException") (by decide)⟩, List.forall_mem_cons.mpr ⟨Or.inl (by decide), List.forall_mem_cons.mpr ⟨Or.inl (by decide), List.forall_mem_cons.mpr ⟨Or.inl (by decide), List.forall_mem_cons.mpr ⟨Or.inl (by decide), List.forall_mem_cons.mpr ⟨Or.inl (by decide), List.forall_mem_cons.mpr ⟨Or.inl (by decide), List.forall_mem_cons.mpr ⟨Or.inl (by decide), List.forall_mem_cons.mpr ⟨Or.inr ⟨by decide, "java/lang/IllegalArgumentException", hAm.wd qw_630 rfl rfl, hAm.1.2.2.2 ("java/lang/IllegalStateException", "java/lang/IllegalArgumentException") (by decide)⟩, List.forall_mem_cons.mpr ⟨Or.inl (by decide), List.forall_mem_cons.mpr ⟨Or.inl (by decide), List.forall_mem_cons.mpr ⟨Or.inl (by decide), List.forall_mem_cons.mpr ⟨Or.inl (by decide), List.forall_mem_cons.mpr ⟨Or.inl (by decide), List.forall_mem_cons.mpr ⟨Or.inl (by decide), List.forall_mem_cons.mpr ⟨Or.inl (by decide), fun z9 h9 => absurd h9 List.not_mem_nil⟩⟩⟩⟩⟩⟩⟩⟩⟩⟩⟩⟩⟩⟩⟩⟩⟩⟩⟩⟩⟩⟩⟩) (by decide) (by decide) (hAm.wd qw_631 rfl rfl) (hAm.wd qw_349 rfl rfl) h91 h92 h93 ?_
                  refine lv_astore (lv' := [(5, .ref q9), (10, .int (nI (vN v 2))), (9, .int (nI (vn v))), (4, .int (nI (vN v 3))), (3, .int (nI (bl (shr x 3) 2))), (2, .int (nI (bl (shr x 4) 6))), (0, .ref (ad 8)), (1, .int x)]) hx hb dL_act_546 hl (by decide) rfl (fun ls hl => ?_)
                  refine lv_aload_n hx hb dL_act_548 rfl (lv_at hl 6 rfl) ?_
                  refine lv_iconst (v := 5) hx hb dL_act_549 (by decide) ?_
                  refine tg_callRi (va_runV (As := [.int 5]) (rest := []) (Ts := []) ⟨hx, hb, hml, hown, fun _ h9 => absurd h9 List.not_mem_nil⟩ (pu_many5 l E _ ad v G hI) (rc_cwV hAm qw_511 qw_1 qw_514 qw_512 qw_513 rfl rfl hd_X6_many ⟨Nat.le_of_ble_eq_true rfl, Nat.le_of_ble_eq_true rfl⟩) (tg_preV hAm hA hw hco (q := vwCl[7]) rfl) rfl rfl hl.1 rfl (lv_room (Nat.le_of_ble_eq_true rfl)) dL_act_550 ⟨Nat.le_of_ble_eq_true rfl, Nat.le_of_ble_eq_true rfl⟩) hA hw (fun H locs hw => ?_)
                  refine lv_iload hx hb dL_act_553 (lv_at hl 3 rfl) ?_
                  refine lv_icmp_ne (tgt := 581) hx hb dL_act_555 (by decide) (fun c9 => absurd ((nI_eq (a := vN v 3) (b := vN v 3) (by omega) (by omega)).mpr (by omega)) c9) (fun _ => ?_)
                  refine lv_iload_n hx hb dL_act_558 rfl (lv_at hl 7 rfl) ?_
                  refine lv_bipush (v := 14) hx hb dL_act_559 (by decide) ?_
                  have hbl := bl_lt x (n := 14) (by omega)
                  refine tg_callRi (va_runS (As := [.int x, .int 14]) (rest := []) (Ts := []) ⟨hx, hb, hml, hown, fun _ h9 => absurd h9 List.not_mem_nil⟩ (lw_below l E _ G x 14 (by omega) (by omega)) (rc_cwS hAm qw_618 qw_0 qw_620 qw_619 rfl rfl hd_L_below ⟨Nat.le_of_ble_eq_true rfl, Nat.le_of_ble_eq_true rfl⟩) (tg_preS hAm hA hw) rfl rfl hl.1 rfl (lv_room (Nat.le_of_ble_eq_true rfl)) dL_act_561 ⟨Nat.le_of_ble_eq_true rfl, Nat.le_of_ble_eq_true rfl⟩) hA hw (fun H locs hw => ?_)
                  refine lv_if_eq (tgt := 581) hx hb dL_act_564 (by decide) (fun c9 => absurd c9 (fun z9 => absurd ((nI_eq (a := bl x 14) (b := 0) (by omega) (by omega)).mp z9) (by omega))) (fun _ => ?_)
                  refine lv_iload_n hx hb dL_act_567 rfl (lv_at hl 7 rfl) ?_
                  refine lv_bipush (v := 14) hx hb dL_act_568 (by decide) ?_
                  have hbl := bl_lt x (n := 14) (by omega)
                  refine tg_callRi (va_runS (As := [.int x, .int 14]) (rest := []) (Ts := []) ⟨hx, hb, hml, hown, fun _ h9 => absurd h9 List.not_mem_nil⟩ (lw_below l E _ G x 14 (by omega) (by omega)) (rc_cwS hAm qw_618 qw_0 qw_620 qw_619 rfl rfl hd_L_below ⟨Nat.le_of_ble_eq_true rfl, Nat.le_of_ble_eq_true rfl⟩) (tg_preS hAm hA hw) rfl rfl hl.1 rfl (lv_room (Nat.le_of_ble_eq_true rfl)) dL_act_570 ⟨Nat.le_of_ble_eq_true rfl, Nat.le_of_ble_eq_true rfl⟩) hA hw (fun H locs hw => ?_)
                  refine lv_iconst (v := 4) hx hb dL_act_573 (by decide) ?_
                  refine lv_icmp_eq (tgt := 581) hx hb dL_act_574 (by decide) (fun c9 => absurd c9 (fun z9 => absurd ((nI_eq (a := bl x 14) (b := 4) (by omega) (by omega)).mp z9) (by omega))) (fun _ => ?_)
                  refine lv_iconst (v := 1) hx hb dL_act_577 (by decide) ?_
                  refine lv_goto (tgt := 582) hx hb dL_act_578 (by decide) ?_
                  exact tg_zret hx hb hr hlocks hw rfl (⟨rfl, AC.same ⟨hI, hS⟩ hn hok hmc⟩) (Nat.le_of_ble_eq_true rfl) (Nat.le_of_ble_eq_true rfl) dL_act_582
                · obtain ⟨⟨ha9, hpr, ad1, v2, e8, ⟨hIS, hv2, hn2, hok2⟩, hr9⟩, -⟩ := hp
                  have hwl : (100 + bl (shr x 5) 30 + 20 * (bl (shr x 7) 2)) * 100 / vMN v (bl (shr x 3) 2) 2 ≤ (100 + bl (shr x 5) 30 + 20 * (bl (shr x 7) 2)) * 100 := Nat.div_le_self _ _
                  obtain ⟨w9, hw9⟩ : ∃ w9, w9 = (100 + bl (shr x 5) 30 + 20 * (bl (shr x 7) 2)) * 100 / vMN v (bl (shr x 3) 2) 2 := ⟨_, rfl⟩
                  rw [← hw9] at hr9 hv2 hwl
                  rw [hr9]
                  obtain ⟨hI, hS⟩ := id hIS
                  obtain ⟨hvn, hvc, hvw, hvi, hvp, hvm⟩ := run_in ha9 hv2
                  rw [← e8] at hl
                  have hco := hI.2.1
                  refine lv_istore (lv' := [(11, .int (nI w9)), (10, .int (nI (vN v 2))), (9, .int (nI (vn v))), (4, .int (nI (vN v 3))), (3, .int (nI (bl (shr x 3) 2))), (2, .int (nI (bl (shr x 4) 6))), (0, .ref (ad1 8)), (1, .int x)]) hx hb dL_act_441 hl (by decide) rfl (fun ls hl => ?_)
                  refine lv_aload_n hx hb dL_act_443 rfl (lv_at hl 6 rfl) ?_
                  refine lv_iconst (v := 2) hx hb dL_act_444 (by decide) ?_
                  refine tg_callRi (va_runV (As := [.int 2]) (rest := []) (Ts := []) ⟨hx, hb, hml, hown, fun _ h9 => absurd h9 List.not_mem_nil⟩ (pu_many2 l E _ ad1 v2 G_20 hI) (rc_cwV hAm qw_511 qw_1 qw_514 qw_512 qw_513 rfl rfl hd_X6_many ⟨Nat.le_of_ble_eq_true rfl, Nat.le_of_ble_eq_true rfl⟩) (tg_preV hAm hA hw hco (q := vwCl[7]) rfl) rfl rfl hl.1 rfl (lv_room (Nat.le_of_ble_eq_true rfl)) dL_act_445 ⟨Nat.le_of_ble_eq_true rfl, Nat.le_of_ble_eq_true rfl⟩) hA hw (fun H locs hw => ?_)
                  refine lv_iload hx hb dL_act_448 (lv_at hl 2 rfl) ?_
                  refine lv_iconst (v := 1) hx hb dL_act_450 (by decide) ?_
                  refine lv_iadd hx hb dL_act_451 ?_
                  refine rc_topi (nI (vn v + 1)) (nI_add (vn v) 1) ?_
                  refine lv_icmp_ne (tgt := 510) hx hb dL_act_452 (by decide) (fun c9 => absurd ((nI_eq (a := vn v2) (b := vn v + 1) (by omega) (by omega)).mpr (by omega)) c9) (fun _ => ?_)
                  refine lv_aload_n hx hb dL_act_455 rfl (lv_at hl 6 rfl) ?_
                  refine lv_iconst (v := 4) hx hb dL_act_456 (by decide) ?_
                  refine tg_callRi (va_runV (As := [.int 4]) (rest := []) (Ts := []) ⟨hx, hb, hml, hown, fun _ h9 => absurd h9 List.not_mem_nil⟩ (pu_many4 l E _ ad1 v2 G_20 hI) (rc_cwV hAm qw_511 qw_1 qw_514 qw_512 qw_513 rfl rfl hd_X6_many ⟨Nat.le_of_ble_eq_true rfl, Nat.le_of_ble_eq_true rfl⟩) (tg_preV hAm hA hw hco (q := vwCl[7]) rfl) rfl rfl hl.1 rfl (lv_room (Nat.le_of_ble_eq_true rfl)) dL_act_457 ⟨Nat.le_of_ble_eq_true rfl, Nat.le_of_ble_eq_true rfl⟩) hA hw (fun H locs hw => ?_)
                  refine lv_iload hx hb dL_act_460 (lv_at hl 1 rfl) ?_
                  refine lv_aload_n hx hb dL_act_462 rfl (lv_at hl 6 rfl) ?_
                  refine lv_iload_n hx hb dL_act_463 rfl (lv_at hl 4 rfl) ?_
                  refine lv_iconst (v := 0) hx hb dL_act_464 (by decide) ?_
                  refine tg_callRi (va_runV (As := [.int (nI (bl (shr x 3) 2)), .int 0]) (rest := [.int (nI (vN v 2)), .int (nI (vN v2 2))]) (Ts := []) ⟨hx, hb, hml, hown, fun _ h9 => absurd h9 List.not_mem_nil⟩ (pu_ofMachine0 l E _ ad1 v2 G_20 hI (bl (shr x 3) 2) (by omega)) (rc_cwV hAm qw_632 qw_1 qw_635 qw_633 qw_634 rfl rfl hd_X6_ofMachine ⟨Nat.le_of_ble_eq_true rfl, Nat.le_of_ble_eq_true rfl⟩) (tg_preV hAm hA hw hco (q := vwCl[7]) rfl) rfl rfl hl.1 rfl (lv_room (Nat.le_of_ble_eq_true rfl)) dL_act_465 ⟨Nat.le_of_ble_eq_true rfl, Nat.le_of_ble_eq_true rfl⟩) hA hw (fun H locs hw => ?_)
                  refine lv_isub hx hb dL_act_468 ?_
                  refine rc_topi (nI (vN v 2 - (vMN v2 (bl (shr x 3) 2) 1))) (pk_sub (a := vN v 2) (b := vMN v2 (bl (shr x 3) 2) 1) (by omega)) ?_
                  refine lv_icmp_ne (tgt := 510) hx hb dL_act_469 (by decide) (fun c9 => absurd ((nI_eq (a := vN v2 2) (b := vN v 2 - (vMN v2 (bl (shr x 3) 2) 1)) (by omega) (by omega)).mpr (by omega)) c9) (fun _ => ?_)
                  refine lv_aload_n hx hb dL_act_472 rfl (lv_at hl 6 rfl) ?_
                  refine lv_iload hx hb dL_act_473 (lv_at hl 2 rfl) ?_
                  refine lv_iconst (v := 3) hx hb dL_act_475 (by decide) ?_
                  refine tg_callRi (va_runV (As := [.int (nI (vn v)), .int 3]) (rest := []) (Ts := []) ⟨hx, hb, hml, hown, fun _ h9 => absurd h9 List.not_mem_nil⟩ (pu_ofRun3 l E _ ad1 v2 G_20 hI (vn v) (by omega)) (rc_cwV hAm qw_757 qw_1 qw_760 qw_758 qw_759 rfl rfl hd_X6_ofRun ⟨Nat.le_of_ble_eq_true rfl, Nat.le_of_ble_eq_true rfl⟩) (tg_preV hAm hA hw hco (q := vwCl[7]) rfl) rfl rfl hl.1 rfl (lv_room (Nat.le_of_ble_eq_true rfl)) dL_act_476 ⟨Nat.le_of_ble_eq_true rfl, Nat.le_of_ble_eq_true rfl⟩) hA hw (fun H locs hw => ?_)
                  refine lv_iload hx hb dL_act_479 (lv_at hl 0 rfl) ?_
                  refine lv_icmp_ne (tgt := 510) hx hb dL_act_481 (by decide) (fun c9 => absurd ((nI_eq (a := (vR v2 (vn v)).2.2) (b := w9) (by omega) (by omega)).mpr (by omega)) c9) (fun _ => ?_)
                  refine lv_aload_n hx hb dL_act_484 rfl (lv_at hl 6 rfl) ?_
                  refine lv_iload hx hb dL_act_485 (lv_at hl 2 rfl) ?_
                  refine lv_iconst (v := 5) hx hb dL_act_487 (by decide) ?_
                  refine tg_callRi (va_runV (As := [.int (nI (vn v)), .int 5]) (rest := []) (Ts := []) ⟨hx, hb, hml, hown, fun _ h9 => absurd h9 List.not_mem_nil⟩ (pu_ofRun5 l E _ ad1 v2 G_20 hI (vn v) (by omega)) (rc_cwV hAm qw_757 qw_1 qw_760 qw_758 qw_759 rfl rfl hd_X6_ofRun ⟨Nat.le_of_ble_eq_true rfl, Nat.le_of_ble_eq_true rfl⟩) (tg_preV hAm hA hw hco (q := vwCl[7]) rfl) rfl rfl hl.1 rfl (lv_room (Nat.le_of_ble_eq_true rfl)) dL_act_488 ⟨Nat.le_of_ble_eq_true rfl, Nat.le_of_ble_eq_true rfl⟩) hA hw (fun H locs hw => ?_)
                  refine lv_iconst (v := 1) hx hb dL_act_491 (by decide) ?_
                  refine lv_icmp_ne (tgt := 510) hx hb dL_act_492 (by decide) (fun c9 => absurd ((nI_eq (a := isR v2 (ixs v2 (vR v2 (vn v)).1) (vn v) (ixs v2 (vR v2 (vn v)).1).length 0) (b := 1) (by omega) (by omega)).mpr (by omega)) c9) (fun _ => ?_)
                  refine lv_aload_n hx hb dL_act_495 rfl (lv_at hl 6 rfl) ?_
                  refine lv_iload hx hb dL_act_496 (lv_at hl 2 rfl) ?_
                  refine lv_iconst (v := 0) hx hb dL_act_498 (by decide) ?_
                  refine tg_callRi (va_runV (As := [.int (nI (vn v)), .int 0]) (rest := []) (Ts := []) ⟨hx, hb, hml, hown, fun _ h9 => absurd h9 List.not_mem_nil⟩ (pu_ofRun0 l E _ ad1 v2 G_20 hI (vn v) (by omega)) (rc_cwV hAm qw_757 qw_1 qw_760 qw_758 qw_759 rfl rfl hd_X6_ofRun ⟨Nat.le_of_ble_eq_true rfl, Nat.le_of_ble_eq_true rfl⟩) (tg_preV hAm hA hw hco (q := vwCl[7]) rfl) rfl rfl hl.1 rfl (lv_room (Nat.le_of_ble_eq_true rfl)) dL_act_499 ⟨Nat.le_of_ble_eq_true rfl, Nat.le_of_ble_eq_true rfl⟩) hA hw (fun H locs hw => ?_)
                  refine lv_iload_n hx hb dL_act_502 rfl (lv_at hl 5 rfl) ?_
                  refine lv_icmp_ne (tgt := 510) hx hb dL_act_503 (by decide) (fun c9 => absurd ((nI_eq (a := (vR v2 (vn v)).1) (b := bl (shr x 4) 6) (by omega) (by omega)).mpr (by omega)) c9) (fun _ => ?_)
                  refine lv_iconst (v := 1) hx hb dL_act_506 (by decide) ?_
                  refine lv_goto (tgt := 511) hx hb dL_act_507 (by decide) ?_
                  exact tg_zret hx hb hr hlocks hw rfl (⟨rfl, AC.of (v1 := setR v (bl (shr x 4) 6) (bl (shr x 3) 2) (100 + bl (shr x 5) 30 + 20 * (bl (shr x 7) 2)) w9) e8 h0 ⟨hI, hS⟩ hv2 hn2 hok2 (mcOK_run hmc) rfl rfl rfl (Nat.le_refl _) (Nat.le_refl _) (Nat.sub_le _ _)⟩) (Nat.le_of_ble_eq_true rfl) (Nat.le_of_ble_eq_true rfl) dL_act_511
