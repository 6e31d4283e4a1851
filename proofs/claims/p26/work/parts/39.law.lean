/-! the law's loop, and the law from its entry -/
theorem ssH.scr8 {E : rc_E} {ad : Nat → Nat} {v : av_V} {G u : tg_G} (h : ssH E ad v G) (ho : ∀ t9, 8 ≤ t9 ∧ t9 < 15 ∨ 31 ≤ t9 → u t9 = G t9) : ssH E ad v u := by
  obtain ⟨h0, h1, ⟨h2, h3, h4⟩, h6, h7, h8, h9⟩ := h
  refine ⟨h0, (ho _ (by omega)).trans h1, ⟨h2.of (ho _ (by omega)) (ho _ (by omega)), h3.of (ho _ (by omega)) (ho _ (by omega)), h4.of (ho _ (by omega)) (ho _ (by omega))⟩, (ho _ (by omega)).trans h6, fun j hj => (ho _ (by omega)).trans (h7 j hj), fun c hc => ⟨(ho _ (by omega)).trans (h8 c hc).1, (h8 c hc).2.of (ho _ (by omega)) (ho _ (by omega))⟩, fun k hk => (ho _ (by omega)).trans (h9 k hk)⟩
theorem pr_ok {a0 x0 a1 x1 : Nat} (h0 : 1 ≤ a0 ∧ a0 < 100 ∧ 1 ≤ x0 ∧ x0 ≤ 200) (h1 : 1 ≤ a1 ∧ a1 < 100 ∧ 1 ≤ x1 ∧ x1 ≤ 200) : ∀ j, j < 2 → 1 ≤ (prU (prU (fun _ => (0, 0)) 0 a0 x0) 1 a1 x1 j).1 ∧ (prU (prU (fun _ => (0, 0)) 0 a0 x0) 1 a1 x1 j).1 < 100 ∧ 1 ≤ (prU (prU (fun _ => (0, 0)) 0 a0 x0) 1 a1 x1 j).2 ∧ (prU (prU (fun _ => (0, 0)) 0 a0 x0) 1 a1 x1 j).2 ≤ 200 := by
  intro j hj
  rcases (show j = 0 ∨ j = 1 by omega) with rfl | rfl
  · exact h0
  · exact h1
theorem hd_L_cell : yL_cell.cls ≠ "java/lang/invoke/MethodHandle" ∧ yL_cell.cls ≠ "java/lang/invoke/VarHandle" ∧ (parseMethodDescriptor yL_cell.desc).map (fun d => d.parameters.length) = some 2 := by decide +kernel
theorem hd_L_act : yL_act.cls ≠ "java/lang/invoke/MethodHandle" ∧ yL_act.cls ≠ "java/lang/invoke/VarHandle" ∧ (parseMethodDescriptor yL_act.desc).map (fun d => d.parameters.length) = some 2 := by decide +kernel
theorem hd_X6_digest : yX6_digest.cls ≠ "java/lang/invoke/MethodHandle" ∧ yX6_digest.cls ≠ "java/lang/invoke/VarHandle" ∧ (parseMethodDescriptor yX6_digest.desc).map (fun d => d.parameters.length) = some 0 := by decide +kernel
theorem hd_L_areSamplesRight : yL_areSamplesRight.cls ≠ "java/lang/invoke/MethodHandle" ∧ yL_areSamplesRight.cls ≠ "java/lang/invoke/VarHandle" ∧ (parseMethodDescriptor yL_areSamplesRight.desc).map (fun d => d.parameters.length) = some 1 := by decide +kernel
theorem hd_L_isVerdictRight : yL_isVerdictRight.cls ≠ "java/lang/invoke/MethodHandle" ∧ yL_isVerdictRight.cls ≠ "java/lang/invoke/VarHandle" ∧ (parseMethodDescriptor yL_isVerdictRight.desc).map (fun d => d.parameters.length) = some 5 := by decide +kernel
theorem hd_L_isCaseRight : yL_isCaseRight.cls ≠ "java/lang/invoke/MethodHandle" ∧ yL_isCaseRight.cls ≠ "java/lang/invoke/VarHandle" ∧ (parseMethodDescriptor yL_isCaseRight.desc).map (fun d => d.parameters.length) = some 1 := by decide +kernel
set_option maxHeartbeats 16000000 in
set_option maxRecDepth 100000 in
theorem lwl_loop {p : Program} {l : Launch} {e : Env} {s : State} {m : MethodId} {below : List Frame} {meth : Method} {cd : Code} {b L : Nat} {xs : Nat → Int32} {E : rc_E} {A : Nat → Prop} (hst : l.stackTraces = false) (hAe : ∀ q, A q → s.heap.size ≤ q) (hA : ∀ q, s.heap.size ≤ q → A q) (hAm : rc_Amb E A s s.heap) (hx : p.tables.exec = Jvm.exec) (hb : cd.code = cL_law) (hr : meth.sig.returnType = ret) (hml : cd.maxLocals = 11) (hown : s.vm.findClass RL = some m.cls) (hlocks : meth.locks = false) (hX : va_X b L xs s s.heap) (hbz : b < s.heap.size) (hbA : ¬ A b) (hL : L ≤ 260) (en lv : Nat) : ∀ (r k : Nat) (ad : Nat → Nat) (v : av_V) (ls : Array Slot) (G : tg_G) (H : Heap) (locs : List Loc), k + r = 60 → stH E ad v G → nmOK v → caseOK v → mcOK v → vN v 0 = en → vN v 1 = lv → vn v ≤ k → tg_W E A s G H locs → lv_has ls 11 [(0, .ref b), (1, .ref (ad 8)), (2, .int (nI en)), (3, .int (nI lv)), (4, .int (nI k))] → W p l e room_1 s m #[Value.ref b] below meth cd H locs (1000 + 10 * k) (20000 + 500 * k) (lw_Z below #[Value.ref b] s) (F0 m 91 ls []) := by
  intro r
  induction r with
  | zero =>
    intro k ad v ls G H locs hk hIS hn hok hmc hen hlv hnk hw hl
    obtain ⟨hI, hS⟩ := id hIS
    have hco := hI.2.1
    have h0 := hI.1
    have hbn := smR_bN v
    have hb40 : vN v 4 < 6 := h0.2.2.2.2.2.2.2.2.2
    have hb50 : vN v 2 ≤ 5000 := h0.2.2.2.2.2.2.2.1
    subst hen hlv
    refine lv_iload hx hb dL_law_91 (lv_at hl 4 rfl) ?_
    refine lv_bipush (v := 60) hx hb dL_law_93 (by decide) ?_
    refine lv_icmp_ge (tgt := 293) hx hb dL_law_95 (by decide) (fun _ => ?_) (fun c9 => absurd ((nI_leI (a := 60) (b := k) (by omega) (by omega)).mpr (by omega)) c9)
    refine lv_iconst (v := 1) hx hb dL_law_293 (by decide) ?_
    refine va_forget (fun q hq => hAe _ (hw.2.2.2.2 q hq)) ?_
    refine W.widen (k := room_1.cells) (n := room_1.slots) (Nat.le_trans (m := 500000) (by omega) (Nat.le_of_ble_eq_true rfl)) (Nat.le_trans (m := 7000000) (by omega) (Nat.le_of_ble_eq_true rfl)) ?_
    exact lw_ret (Drawn.sameBut.refl s.drawn lw_cs) hx hb hr hlocks dL_law_294
  | succ r ih =>
    intro k ad v ls G H locs hk hIS hn hok hmc hen hlv hnk hw hl
    obtain ⟨hI, hS⟩ := id hIS
    have hco := hI.2.1
    have h0 := hI.1
    have hbn := smR_bN v
    have hb40 : vN v 4 < 6 := h0.2.2.2.2.2.2.2.2.2
    have hb50 : vN v 2 ≤ 5000 := h0.2.2.2.2.2.2.2.1
    subst hen hlv
    refine lv_iload hx hb dL_law_91 (lv_at hl 4 rfl) ?_
    refine lv_bipush (v := 60) hx hb dL_law_93 (by decide) ?_
    refine lv_icmp_ge (tgt := 293) hx hb dL_law_95 (by decide) (fun c9 => absurd c9 (fun z9 => absurd ((nI_leI (a := 60) (b := k) (by omega) (by omega)).mp z9) (by omega))) (fun _ => ?_)
    refine lv_aload_n hx hb dL_law_98 rfl (lv_at hl 0 rfl) ?_
    refine lv_iconst (v := 3) hx hb dL_law_99 (by decide) ?_
    refine lv_iload hx hb dL_law_100 (lv_at hl 4 rfl) ?_
    refine lv_bipush (v := 26) hx hb dL_law_102 (by decide) ?_
    refine lv_irem hx hb dL_law_104 (by decide) ?_
    refine rc_topi (nI (k % 26)) (pk_rem (a := k) (d := 26) (by omega) (by omega) (by omega)) ?_
    refine lv_iadd hx hb dL_law_105 ?_
    refine rc_topi (nI (3 + k % 26)) (nI_add 3 (k % 26)) ?_
    refine tg_callRi (va_runS (As := [.ref b, .int (nI (3 + k % 26))]) (rest := []) (Ts := []) ⟨hx, hb, hml, hown, fun _ h9 => absurd h9 List.not_mem_nil⟩ (sc_cell l E _ G b L xs (3 + k % 26) (by omega) hL) (rc_cwS hAm qw_622 qw_0 qw_624 qw_623 rfl rfl hd_L_cell ⟨Nat.le_of_ble_eq_true rfl, Nat.le_of_ble_eq_true rfl⟩) (sc_preX hAm hA hX hbz hbA hw) rfl rfl hl.1 rfl (lv_room (Nat.le_of_ble_eq_true rfl)) dL_law_106 ⟨Nat.le_trans (m := 500000) (by omega) (Nat.le_of_ble_eq_true rfl), Nat.le_trans (m := 7000000) (by omega) (Nat.le_of_ble_eq_true rfl)⟩) hA hw (fun H locs hw => ?_)
    refine lv_iload hx hb dL_law_109 (lv_at hl 4 rfl) ?_
    refine lv_bipush (v := 26) hx hb dL_law_111 (by decide) ?_
    refine lv_idiv hx hb dL_law_113 (by decide) ?_
    refine rc_topi (nI (k / 26)) (pk_div (a := k) (d := 26) (by omega) (by omega) (by omega)) ?_
    refine lv_bipush (v := 6) hx hb dL_law_114 (by decide) ?_
    refine lv_imul hx hb dL_law_116 ?_
    refine rc_topi (nI ((k / 26) * 6)) (pk_mul (k / 26) 6) ?_
    refine lv_ishr hx hb dL_law_117 ?_
    refine lv_topi (fun x9 _ => ?_)
    refine lv_istore (lv' := [(5, .int x9), (0, .ref b), (1, .ref (ad 8)), (2, .int (nI (vN v 0))), (3, .int (nI (vN v 1))), (4, .int (nI k))]) hx hb dL_law_118 hl (by decide) rfl (fun ls hl => ?_)
    refine lv_aload_n hx hb dL_law_120 rfl (lv_at hl 2 rfl) ?_
    refine lv_iconst (v := 4) hx hb dL_law_121 (by decide) ?_
    refine tg_callRi (va_runV (As := [.int 4]) (rest := []) (Ts := []) ⟨hx, hb, hml, hown, fun _ h9 => absurd h9 List.not_mem_nil⟩ (pu_many4 l E _ ad v G hI) (rc_cwV hAm qw_511 qw_1 qw_514 qw_512 qw_513 rfl rfl hd_X6_many ⟨Nat.le_of_ble_eq_true rfl, Nat.le_of_ble_eq_true rfl⟩) (tg_preV hAm hA hw hco (q := vwCl[7]) rfl) rfl rfl hl.1 rfl (lv_room (Nat.le_of_ble_eq_true rfl)) dL_law_122 ⟨Nat.le_trans (m := 500000) (by omega) (Nat.le_of_ble_eq_true rfl), Nat.le_trans (m := 7000000) (by omega) (Nat.le_of_ble_eq_true rfl)⟩) hA hw (fun H locs hw => ?_)
    refine lv_istore (lv' := [(6, .int (nI (vN v 2))), (5, .int x9), (0, .ref b), (1, .ref (ad 8)), (2, .int (nI (vN v 0))), (3, .int (nI (vN v 1))), (4, .int (nI k))]) hx hb dL_law_125 hl (by decide) rfl (fun ls hl => ?_)
    refine lv_aload_n hx hb dL_law_127 rfl (lv_at hl 3 rfl) ?_
    refine lv_bipush (v := 7) hx hb dL_law_128 (by decide) ?_
    refine tg_callRi (va_runV (As := [.int 7]) (rest := []) (Ts := []) ⟨hx, hb, hml, hown, fun _ h9 => absurd h9 List.not_mem_nil⟩ (pu_many7 l E _ ad v G hI) (rc_cwV hAm qw_511 qw_1 qw_514 qw_512 qw_513 rfl rfl hd_X6_many ⟨Nat.le_of_ble_eq_true rfl, Nat.le_of_ble_eq_true rfl⟩) (tg_preV hAm hA hw hco (q := vwCl[7]) rfl) rfl rfl hl.1 rfl (lv_room (Nat.le_of_ble_eq_true rfl)) dL_law_130 ⟨Nat.le_trans (m := 500000) (by omega) (Nat.le_of_ble_eq_true rfl), Nat.le_trans (m := 7000000) (by omega) (Nat.le_of_ble_eq_true rfl)⟩) hA hw (fun H locs hw => ?_)
    refine lv_istore (lv' := [(7, .int (nI (smR (fun c => bN (vC v c).1) 6))), (6, .int (nI (vN v 2))), (5, .int x9), (0, .ref b), (1, .ref (ad 8)), (2, .int (nI (vN v 0))), (3, .int (nI (vN v 1))), (4, .int (nI k))]) hx hb dL_law_133 hl (by decide) rfl (fun ls hl => ?_)
    refine lv_aload_n hx hb dL_law_135 rfl (lv_at hl 4 rfl) ?_
    refine lv_bipush (v := 6) hx hb dL_law_136 (by decide) ?_
    refine tg_callRi (va_runV (As := [.int 6]) (rest := []) (Ts := []) ⟨hx, hb, hml, hown, fun _ h9 => absurd h9 List.not_mem_nil⟩ (pu_many6 l E _ ad v G hI) (rc_cwV hAm qw_511 qw_1 qw_514 qw_512 qw_513 rfl rfl hd_X6_many ⟨Nat.le_of_ble_eq_true rfl, Nat.le_of_ble_eq_true rfl⟩) (tg_preV hAm hA hw hco (q := vwCl[7]) rfl) rfl rfl hl.1 rfl (lv_room (Nat.le_of_ble_eq_true rfl)) dL_law_138 ⟨Nat.le_trans (m := 500000) (by omega) (Nat.le_of_ble_eq_true rfl), Nat.le_trans (m := 7000000) (by omega) (Nat.le_of_ble_eq_true rfl)⟩) hA hw (fun H locs hw => ?_)
    refine lv_istore (lv' := [(8, .int (nI (vN v 4))), (7, .int (nI (smR (fun c => bN (vC v c).1) 6))), (6, .int (nI (vN v 2))), (5, .int x9), (0, .ref b), (1, .ref (ad 8)), (2, .int (nI (vN v 0))), (3, .int (nI (vN v 1))), (4, .int (nI k))]) hx hb dL_law_141 hl (by decide) rfl (fun ls hl => ?_)
    refine lv_aload_n hx hb dL_law_143 rfl (lv_at hl 5 rfl) ?_
    refine lv_iload hx hb dL_law_144 (lv_at hl 3 rfl) ?_
    refine tg_calli (vx_runSW (As := [.ref (ad 8), .int x9]) (rest := []) (Ts := []) ⟨hx, hb, hml, hown, fun _ h9 => absurd h9 List.not_mem_nil⟩ (lw_act l hst E _ ad v G hI hS hn hok hmc (by omega) x9) (rc_cwSW hAm qw_626 qw_0 qw_628 qw_627 rfl rfl hd_L_act ⟨Nat.le_of_ble_eq_true rfl, Nat.le_of_ble_eq_true rfl⟩) (tg_preS hAm hA hw) rfl rfl hl.1 rfl (lv_room (Nat.le_of_ble_eq_true rfl)) dL_law_146 ⟨Nat.le_trans (m := 500000) (by omega) (Nat.le_of_ble_eq_true rfl), Nat.le_trans (m := 7000000) (by omega) (Nat.le_of_ble_eq_true rfl)⟩) hA hw (fun r_2 G_1 H locs hp hw => ?_)
    obtain ⟨hr9, ad2, v2, e8, hIS, hn2, hok2, hmc2, e0, e1, en9, enm, e4, e2⟩ := hp
    rw [hr9]
    obtain ⟨hI, hS⟩ := id hIS
    rw [← e8] at hl
    have hco := hI.2.1
    have enm1 : smR (fun c => bN (vC v c).1) 6 ≤ smR (fun c => bN (vC v2 c).1) 6 := enm
    have enm2 := smR_bN v2
    have hb4 : vN v2 4 < 6 := hI.1.2.2.2.2.2.2.2.2.2
    have hb5 : vN v2 2 ≤ 5000 := hI.1.2.2.2.2.2.2.2.1
    refine lv_if_eq (tgt := 215) hx hb dL_law_149 (by decide) (fun c9 => absurd c9 (by decide)) (fun _ => ?_)
    refine lv_aload_n hx hb dL_law_152 rfl (lv_at hl 5 rfl) ?_
    refine lv_bipush (v := 7) hx hb dL_law_153 (by decide) ?_
    refine tg_callRi (va_runV (As := [.int 7]) (rest := []) (Ts := []) ⟨hx, hb, hml, hown, fun _ h9 => absurd h9 List.not_mem_nil⟩ (pu_many7 l E _ ad2 v2 G_1 hI) (rc_cwV hAm qw_511 qw_1 qw_514 qw_512 qw_513 rfl rfl hd_X6_many ⟨Nat.le_of_ble_eq_true rfl, Nat.le_of_ble_eq_true rfl⟩) (tg_preV hAm hA hw hco (q := vwCl[7]) rfl) rfl rfl hl.1 rfl (lv_room (Nat.le_of_ble_eq_true rfl)) dL_law_155 ⟨Nat.le_trans (m := 500000) (by omega) (Nat.le_of_ble_eq_true rfl), Nat.le_trans (m := 7000000) (by omega) (Nat.le_of_ble_eq_true rfl)⟩) hA hw (fun H locs hw => ?_)
    refine lv_iload hx hb dL_law_158 (lv_at hl 1 rfl) ?_
    refine lv_icmp_lt (tgt := 215) hx hb dL_law_160 (by decide) (fun c9 => absurd c9 (fun z9 => absurd ((nI_ltI (a := smR (fun c => bN (vC v2 c).1) 6) (b := smR (fun c => bN (vC v c).1) 6) (by omega) (by omega)).mp z9) (by omega))) (fun _ => ?_)
    refine lv_aload_n hx hb dL_law_163 rfl (lv_at hl 5 rfl) ?_
    refine lv_bipush (v := 6) hx hb dL_law_164 (by decide) ?_
    refine tg_callRi (va_runV (As := [.int 6]) (rest := []) (Ts := []) ⟨hx, hb, hml, hown, fun _ h9 => absurd h9 List.not_mem_nil⟩ (pu_many6 l E _ ad2 v2 G_1 hI) (rc_cwV hAm qw_511 qw_1 qw_514 qw_512 qw_513 rfl rfl hd_X6_many ⟨Nat.le_of_ble_eq_true rfl, Nat.le_of_ble_eq_true rfl⟩) (tg_preV hAm hA hw hco (q := vwCl[7]) rfl) rfl rfl hl.1 rfl (lv_room (Nat.le_of_ble_eq_true rfl)) dL_law_166 ⟨Nat.le_trans (m := 500000) (by omega) (Nat.le_of_ble_eq_true rfl), Nat.le_trans (m := 7000000) (by omega) (Nat.le_of_ble_eq_true rfl)⟩) hA hw (fun H locs hw => ?_)
    refine lv_iload hx hb dL_law_169 (lv_at hl 0 rfl) ?_
    refine lv_icmp_lt (tgt := 215) hx hb dL_law_171 (by decide) (fun c9 => absurd c9 (fun z9 => absurd ((nI_ltI (a := vN v2 4) (b := vN v 4) (by omega) (by omega)).mp z9) (by omega))) (fun _ => ?_)
    refine lv_aload_n hx hb dL_law_174 rfl (lv_at hl 5 rfl) ?_
    refine lv_iconst (v := 4) hx hb dL_law_175 (by decide) ?_
    refine tg_callRi (va_runV (As := [.int 4]) (rest := []) (Ts := []) ⟨hx, hb, hml, hown, fun _ h9 => absurd h9 List.not_mem_nil⟩ (pu_many4 l E _ ad2 v2 G_1 hI) (rc_cwV hAm qw_511 qw_1 qw_514 qw_512 qw_513 rfl rfl hd_X6_many ⟨Nat.le_of_ble_eq_true rfl, Nat.le_of_ble_eq_true rfl⟩) (tg_preV hAm hA hw hco (q := vwCl[7]) rfl) rfl rfl hl.1 rfl (lv_room (Nat.le_of_ble_eq_true rfl)) dL_law_176 ⟨Nat.le_trans (m := 500000) (by omega) (Nat.le_of_ble_eq_true rfl), Nat.le_trans (m := 7000000) (by omega) (Nat.le_of_ble_eq_true rfl)⟩) hA hw (fun H locs hw => ?_)
    refine lv_if_lt (tgt := 215) hx hb dL_law_179 (by decide) (fun c9 => absurd c9 (fun z9 => absurd ((nI_ltI (a := vN v2 2) (b := 0) (by omega) (by omega)).mp z9) (by omega))) (fun _ => ?_)
    refine lv_aload_n hx hb dL_law_182 rfl (lv_at hl 5 rfl) ?_
    refine lv_iconst (v := 4) hx hb dL_law_183 (by decide) ?_
    refine tg_callRi (va_runV (As := [.int 4]) (rest := []) (Ts := []) ⟨hx, hb, hml, hown, fun _ h9 => absurd h9 List.not_mem_nil⟩ (pu_many4 l E _ ad2 v2 G_1 hI) (rc_cwV hAm qw_511 qw_1 qw_514 qw_512 qw_513 rfl rfl hd_X6_many ⟨Nat.le_of_ble_eq_true rfl, Nat.le_of_ble_eq_true rfl⟩) (tg_preV hAm hA hw hco (q := vwCl[7]) rfl) rfl rfl hl.1 rfl (lv_room (Nat.le_of_ble_eq_true rfl)) dL_law_184 ⟨Nat.le_trans (m := 500000) (by omega) (Nat.le_of_ble_eq_true rfl), Nat.le_trans (m := 7000000) (by omega) (Nat.le_of_ble_eq_true rfl)⟩) hA hw (fun H locs hw => ?_)
    refine lv_sipush (v := 5000) hx hb dL_law_187 (by decide) ?_
    refine lv_icmp_gt (tgt := 215) hx hb dL_law_190 (by decide) (fun c9 => absurd c9 (fun z9 => absurd ((nI_ltI (a := 5000) (b := vN v2 2) (by omega) (by omega)).mp z9) (by omega))) (fun _ => ?_)
    refine lv_iload hx hb dL_law_193 (lv_at hl 3 rfl) ?_
    refine lv_bipush (v := 14) hx hb dL_law_195 (by decide) ?_
    have hbl := bl_lt x9 (n := 14) (by omega)
    refine tg_callRi (va_runS (As := [.int x9, .int 14]) (rest := []) (Ts := []) ⟨hx, hb, hml, hown, fun _ h9 => absurd h9 List.not_mem_nil⟩ (lw_below l E _ G_1 x9 14 (by omega) (by omega)) (rc_cwS hAm qw_618 qw_0 qw_620 qw_619 rfl rfl hd_L_below ⟨Nat.le_of_ble_eq_true rfl, Nat.le_of_ble_eq_true rfl⟩) (tg_preS hAm hA hw) rfl rfl hl.1 rfl (lv_room (Nat.le_of_ble_eq_true rfl)) dL_law_197 ⟨Nat.le_trans (m := 500000) (by omega) (Nat.le_of_ble_eq_true rfl), Nat.le_trans (m := 7000000) (by omega) (Nat.le_of_ble_eq_true rfl)⟩) hA hw (fun H locs hw => ?_)
    refine lv_bipush (v := 6) hx hb dL_law_200 (by decide) ?_
    refine lv_icmp_eq (tgt := 217) hx hb dL_law_202 (by decide) (fun c_3 => ?_) (fun c_3 => ?_)
    · have c_3 := (nI_eq (a := bl x9 14) (b := 6) (by omega) (by omega)).mp c_3
      refine lv_iload hx hb dL_law_217 (lv_at hl 8 rfl) ?_
      refine lv_bipush (v := 10) hx hb dL_law_219 (by decide) ?_
      refine lv_irem hx hb dL_law_221 (by decide) ?_
      refine rc_topi (nI (k % 10)) (pk_rem (a := k) (d := 10) (by omega) (by omega) (by omega)) ?_
      refine lv_bipush (v := 9) hx hb dL_law_222 (by decide) ?_
      refine lv_icmp_eq (tgt := 230) hx hb dL_law_224 (by decide) (fun c_4 => ?_) (fun c_4 => ?_)
      · have c_4 := (nI_eq (a := k % 10) (b := 9) (by omega) (by omega)).mp c_4
        refine lv_aload_n hx hb dL_law_230 rfl (lv_at hl 5 rfl) ?_
        refine tg_calll (va_runV (As := []) (rest := []) (Ts := []) ⟨hx, hb, hml, hown, fun _ h9 => absurd h9 List.not_mem_nil⟩ (pu_digest l E _ ad2 v2 G_1 hI hS) (rc_cwV hAm qw_537 qw_1 qw_540 qw_538 qw_539 rfl rfl hd_X6_digest ⟨Nat.le_of_ble_eq_true rfl, Nat.le_of_ble_eq_true rfl⟩) (tg_preV hAm hA hw hco (q := vwCl[7]) rfl) rfl rfl hl.1 rfl (lv_room (Nat.le_of_ble_eq_true rfl)) dL_law_231 ⟨Nat.le_trans (m := 500000) (by omega) (Nat.le_of_ble_eq_true rfl), Nat.le_trans (m := 7000000) (by omega) (Nat.le_of_ble_eq_true rfl)⟩) hA hw (fun r_6 G_5 H locs hp hw => ?_)
        obtain ⟨hr9, hS, hu⟩ := hp
        rw [hr9]
        have hco := (hu 8 (by omega)).trans hco
        have hI := hI.scr (fun t9 h9 => hu t9 (by omega))
        refine lv_lstore (lv' := [(9, .long (digF v2)), (8, .int (nI (vN v 4))), (7, .int (nI (smR (fun c => bN (vC v c).1) 6))), (6, .int (nI (vN v 2))), (5, .int x9), (0, .ref b), (1, .ref (ad2 8)), (2, .int (nI (vN v 0))), (3, .int (nI (vN v 1))), (4, .int (nI k))]) hx hb dL_law_234 hl (by decide) rfl (fun ls hl => ?_)
        refine lv_aload_n hx hb dL_law_236 rfl (lv_at hl 6 rfl) ?_
        refine tg_calli (va_runS (As := [.ref (ad2 8)]) (rest := []) (Ts := []) ⟨hx, hb, hml, hown, fun _ h9 => absurd h9 List.not_mem_nil⟩ (lw_samples l E _ ad2 v2 G_5 hI hS hmc2) (rc_cwS hAm qw_761 qw_0 qw_763 qw_762 rfl rfl hd_L_areSamplesRight ⟨Nat.le_of_ble_eq_true rfl, Nat.le_of_ble_eq_true rfl⟩) (tg_preS hAm hA hw) rfl rfl hl.1 rfl (lv_room (Nat.le_of_ble_eq_true rfl)) dL_law_237 ⟨Nat.le_trans (m := 500000) (by omega) (Nat.le_of_ble_eq_true rfl), Nat.le_trans (m := 7000000) (by omega) (Nat.le_of_ble_eq_true rfl)⟩) hA hw (fun r_8 G_7 H locs hp hw => ?_)
        obtain ⟨hr9, hS, hu⟩ := hp
        rw [hr9]
        have hI := hI.scr8 (fun t9 h9 => hu t9 (by omega))
        have hco := hI.2.1
        refine lv_if_eq (tgt := 285) hx hb dL_law_240 (by decide) (fun c9 => absurd c9 (by decide)) (fun _ => ?_)
        refine lv_aload_n hx hb dL_law_243 rfl (lv_at hl 6 rfl) ?_
        refine lv_iload hx hb dL_law_244 (lv_at hl 4 rfl) ?_
        refine lv_bipush (v := 6) hx hb dL_law_246 (by decide) ?_
        have hbl := bl_lt x9 (n := 6) (by omega)
        refine tg_callRi (va_runS (As := [.int x9, .int 6]) (rest := [.ref (ad2 8)]) (Ts := []) ⟨hx, hb, hml, hown, fun _ h9 => absurd h9 List.not_mem_nil⟩ (lw_below l E _ G_7 x9 6 (by omega) (by omega)) (rc_cwS hAm qw_618 qw_0 qw_620 qw_619 rfl rfl hd_L_below ⟨Nat.le_of_ble_eq_true rfl, Nat.le_of_ble_eq_true rfl⟩) (tg_preS hAm hA hw) rfl rfl hl.1 rfl (lv_room (Nat.le_of_ble_eq_true rfl)) dL_law_248 ⟨Nat.le_trans (m := 500000) (by omega) (Nat.le_of_ble_eq_true rfl), Nat.le_trans (m := 7000000) (by omega) (Nat.le_of_ble_eq_true rfl)⟩) hA hw (fun H locs hw => ?_)
        refine lv_iload hx hb dL_law_251 (lv_at hl 4 rfl) ?_
        refine lv_iconst (v := 3) hx hb dL_law_253 (by decide) ?_
        refine lv_ishr hx hb dL_law_254 ?_
        refine rc_topi (shr x9 3) rfl ?_
        refine lv_bipush (v := 6) hx hb dL_law_255 (by decide) ?_
        have hbl := bl_lt (shr x9 3) (n := 6) (by omega)
        refine tg_callRi (va_runS (As := [.int (shr x9 3), .int 6]) (rest := [.int (nI (bl x9 6)), .ref (ad2 8)]) (Ts := []) ⟨hx, hb, hml, hown, fun _ h9 => absurd h9 List.not_mem_nil⟩ (lw_below l E _ G_7 (shr x9 3) 6 (by omega) (by omega)) (rc_cwS hAm qw_618 qw_0 qw_620 qw_619 rfl rfl hd_L_below ⟨Nat.le_of_ble_eq_true rfl, Nat.le_of_ble_eq_true rfl⟩) (tg_preS hAm hA hw) rfl rfl hl.1 rfl (lv_room (Nat.le_of_ble_eq_true rfl)) dL_law_257 ⟨Nat.le_trans (m := 500000) (by omega) (Nat.le_of_ble_eq_true rfl), Nat.le_trans (m := 7000000) (by omega) (Nat.le_of_ble_eq_true rfl)⟩) hA hw (fun H locs hw => ?_)
        rw [← e0, ← e1] at hl
        refine lv_iload_n hx hb dL_law_260 rfl (lv_at hl 7 rfl) ?_
        refine lv_iload_n hx hb dL_law_261 rfl (lv_at hl 8 rfl) ?_
        refine tg_calli (va_runS (As := [.ref (ad2 8), .int (nI (bl x9 6)), .int (nI (bl (shr x9 3) 6)), .int (nI (vN v2 0)), .int (nI (vN v2 1))]) (rest := []) (Ts := []) ⟨hx, hb, hml, hown, fun _ h9 => absurd h9 List.not_mem_nil⟩ (lw_verdict l E _ ad2 v2 G_7 hI hS (bl x9 6) (bl (shr x9 3) 6) (by omega) (by omega)) (rc_cwS hAm qw_768 qw_0 qw_770 qw_769 rfl rfl hd_L_isVerdictRight ⟨Nat.le_of_ble_eq_true rfl, Nat.le_of_ble_eq_true rfl⟩) (tg_preS hAm hA hw) rfl rfl hl.1 rfl (lv_room (Nat.le_of_ble_eq_true rfl)) dL_law_262 ⟨Nat.le_trans (m := 500000) (by omega) (Nat.le_of_ble_eq_true rfl), Nat.le_trans (m := 7000000) (by omega) (Nat.le_of_ble_eq_true rfl)⟩) hA hw (fun r_10 G_9 H locs hp hw => ?_)
        obtain ⟨hr9, hS, hu⟩ := hp
        rw [hr9]
        have hI := hI.scr (fun t9 h9 => hu t9 (by omega))
        have hco := hI.2.1
        refine lv_if_eq (tgt := 285) hx hb dL_law_265 (by decide) (fun c9 => absurd c9 (by decide)) (fun _ => ?_)
        refine lv_aload_n hx hb dL_law_268 rfl (lv_at hl 6 rfl) ?_
        refine tg_calli (va_runS (As := [.ref (ad2 8)]) (rest := []) (Ts := []) ⟨hx, hb, hml, hown, fun _ h9 => absurd h9 List.not_mem_nil⟩ (lw_case l E _ ad2 v2 G_9 hI hS hok2 hn2) (rc_cwS hAm qw_794 qw_0 qw_796 qw_795 rfl rfl hd_L_isCaseRight ⟨Nat.le_of_ble_eq_true rfl, Nat.le_of_ble_eq_true rfl⟩) (tg_preS hAm hA hw) rfl rfl hl.1 rfl (lv_room (Nat.le_of_ble_eq_true rfl)) dL_law_269 ⟨Nat.le_trans (m := 500000) (by omega) (Nat.le_of_ble_eq_true rfl), Nat.le_trans (m := 7000000) (by omega) (Nat.le_of_ble_eq_true rfl)⟩) hA hw (fun r_12 G_11 H locs hp hw => ?_)
        obtain ⟨hr9, hS, hu⟩ := hp
        rw [hr9]
        have hI := hI.scr (fun t9 h9 => hu t9 (by omega))
        have hco := hI.2.1
        refine lv_if_eq (tgt := 285) hx hb dL_law_272 (by decide) (fun c9 => absurd c9 (by decide)) (fun _ => ?_)
        refine lv_aload_n hx hb dL_law_275 rfl (lv_at hl 6 rfl) ?_
        refine tg_calll (va_runV (As := []) (rest := []) (Ts := []) ⟨hx, hb, hml, hown, fun _ h9 => absurd h9 List.not_mem_nil⟩ (pu_digest l E _ ad2 v2 G_11 hI hS) (rc_cwV hAm qw_537 qw_1 qw_540 qw_538 qw_539 rfl rfl hd_X6_digest ⟨Nat.le_of_ble_eq_true rfl, Nat.le_of_ble_eq_true rfl⟩) (tg_preV hAm hA hw hco (q := vwCl[7]) rfl) rfl rfl hl.1 rfl (lv_room (Nat.le_of_ble_eq_true rfl)) dL_law_276 ⟨Nat.le_trans (m := 500000) (by omega) (Nat.le_of_ble_eq_true rfl), Nat.le_trans (m := 7000000) (by omega) (Nat.le_of_ble_eq_true rfl)⟩) hA hw (fun r_14 G_13 H locs hp hw => ?_)
        obtain ⟨hr9, hS, hu⟩ := hp
        rw [hr9]
        have hco := (hu 8 (by omega)).trans hco
        have hI := hI.scr (fun t9 h9 => hu t9 (by omega))
        refine lv_lload hx hb dL_law_279 (lv_at hl 0 rfl) ?_
        refine W.lcmp hx hb dL_law_281 ?_
        refine rc_topi 0 (rc_lcmpS _) ?_
        refine lv_if_eq (tgt := 287) hx hb dL_law_282 (by decide) (fun _ => ?_) (fun c9 => absurd (by decide) c9)
        refine lv_iinc (v := nI (k + 1)) (lv' := [(4, .int (nI (k + 1))), (9, .long (digF v2)), (8, .int (nI (vN v 4))), (7, .int (nI (smR (fun c => bN (vC v c).1) 6))), (6, .int (nI (vN v 2))), (5, .int x9), (0, .ref b), (1, .ref (ad2 8)), (2, .int (nI (vN v2 0))), (3, .int (nI (vN v2 1)))]) hx hb dL_law_287 hl (k := 9) rfl (nI_1 _) (by decide) rfl (fun ls hl => ?_)
        refine lv_goto (tgt := 91) hx hb dL_law_290 (by decide) ?_
        rw [e0, e1] at hl
        refine W.widen (k := 1000 + 10 * (k + 1)) (n := 20000 + 500 * (k + 1)) (by omega) (by omega) ?_
        exact ih (k + 1) ad2 v2 ls _ _ _ (by omega) ⟨hI, hS⟩ hn2 hok2 hmc2 e0 e1 (by omega) hw (lv_sub hl [6, 7, 8, 9, 0] rfl)
      · have c_4 := mt (nI_eq (a := k % 10) (b := 9) (by omega) (by omega)).mpr c_4
        refine lv_goto (tgt := 287) hx hb dL_law_227 (by decide) ?_
        refine lv_iinc (v := nI (k + 1)) (lv' := [(4, .int (nI (k + 1))), (8, .int (nI (vN v 4))), (7, .int (nI (smR (fun c => bN (vC v c).1) 6))), (6, .int (nI (vN v 2))), (5, .int x9), (0, .ref b), (1, .ref (ad2 8)), (2, .int (nI (vN v 0))), (3, .int (nI (vN v 1)))]) hx hb dL_law_287 hl (k := 8) rfl (nI_1 _) (by decide) rfl (fun ls hl => ?_)
        refine lv_goto (tgt := 91) hx hb dL_law_290 (by decide) ?_
        refine W.widen (k := 1000 + 10 * (k + 1)) (n := 20000 + 500 * (k + 1)) (by omega) (by omega) ?_
        exact ih (k + 1) ad2 v2 ls _ _ _ (by omega) ⟨hI, hS⟩ hn2 hok2 hmc2 e0 e1 (by omega) hw (lv_sub hl [5, 6, 7, 8, 0] rfl)
    · have c_3 := mt (nI_eq (a := bl x9 14) (b := 6) (by omega) (by omega)).mpr c_3
      have e2b := e2 (by omega)
      refine lv_aload_n hx hb dL_law_205 rfl (lv_at hl 5 rfl) ?_
      refine lv_iconst (v := 4) hx hb dL_law_206 (by decide) ?_
      refine tg_callRi (va_runV (As := [.int 4]) (rest := []) (Ts := []) ⟨hx, hb, hml, hown, fun _ h9 => absurd h9 List.not_mem_nil⟩ (pu_many4 l E _ ad2 v2 G_1 hI) (rc_cwV hAm qw_511 qw_1 qw_514 qw_512 qw_513 rfl rfl hd_X6_many ⟨Nat.le_of_ble_eq_true rfl, Nat.le_of_ble_eq_true rfl⟩) (tg_preV hAm hA hw hco (q := vwCl[7]) rfl) rfl rfl hl.1 rfl (lv_room (Nat.le_of_ble_eq_true rfl)) dL_law_207 ⟨Nat.le_trans (m := 500000) (by omega) (Nat.le_of_ble_eq_true rfl), Nat.le_trans (m := 7000000) (by omega) (Nat.le_of_ble_eq_true rfl)⟩) hA hw (fun H locs hw => ?_)
      refine lv_iload hx hb dL_law_210 (lv_at hl 2 rfl) ?_
      refine lv_icmp_le (tgt := 217) hx hb dL_law_212 (by decide) (fun _ => ?_) (fun c9 => absurd ((nI_leI (a := vN v2 2) (b := vN v 2) (by omega) (by omega)).mpr (by omega)) c9)
      refine lv_iload hx hb dL_law_217 (lv_at hl 8 rfl) ?_
      refine lv_bipush (v := 10) hx hb dL_law_219 (by decide) ?_
      refine lv_irem hx hb dL_law_221 (by decide) ?_
      refine rc_topi (nI (k % 10)) (pk_rem (a := k) (d := 10) (by omega) (by omega) (by omega)) ?_
      refine lv_bipush (v := 9) hx hb dL_law_222 (by decide) ?_
      refine lv_icmp_eq (tgt := 230) hx hb dL_law_224 (by decide) (fun c_15 => ?_) (fun c_15 => ?_)
      · have c_15 := (nI_eq (a := k % 10) (b := 9) (by omega) (by omega)).mp c_15
        refine lv_aload_n hx hb dL_law_230 rfl (lv_at hl 5 rfl) ?_
        refine tg_calll (va_runV (As := []) (rest := []) (Ts := []) ⟨hx, hb, hml, hown, fun _ h9 => absurd h9 List.not_mem_nil⟩ (pu_digest l E _ ad2 v2 G_1 hI hS) (rc_cwV hAm qw_537 qw_1 qw_540 qw_538 qw_539 rfl rfl hd_X6_digest ⟨Nat.le_of_ble_eq_true rfl, Nat.le_of_ble_eq_true rfl⟩) (tg_preV hAm hA hw hco (q := vwCl[7]) rfl) rfl rfl hl.1 rfl (lv_room (Nat.le_of_ble_eq_true rfl)) dL_law_231 ⟨Nat.le_trans (m := 500000) (by omega) (Nat.le_of_ble_eq_true rfl), Nat.le_trans (m := 7000000) (by omega) (Nat.le_of_ble_eq_true rfl)⟩) hA hw (fun r_17 G_16 H locs hp hw => ?_)
        obtain ⟨hr9, hS, hu⟩ := hp
        rw [hr9]
        have hco := (hu 8 (by omega)).trans hco
        have hI := hI.scr (fun t9 h9 => hu t9 (by omega))
        refine lv_lstore (lv' := [(9, .long (digF v2)), (8, .int (nI (vN v 4))), (7, .int (nI (smR (fun c => bN (vC v c).1) 6))), (6, .int (nI (vN v 2))), (5, .int x9), (0, .ref b), (1, .ref (ad2 8)), (2, .int (nI (vN v 0))), (3, .int (nI (vN v 1))), (4, .int (nI k))]) hx hb dL_law_234 hl (by decide) rfl (fun ls hl => ?_)
        refine lv_aload_n hx hb dL_law_236 rfl (lv_at hl 6 rfl) ?_
        refine tg_calli (va_runS (As := [.ref (ad2 8)]) (rest := []) (Ts := []) ⟨hx, hb, hml, hown, fun _ h9 => absurd h9 List.not_mem_nil⟩ (lw_samples l E _ ad2 v2 G_16 hI hS hmc2) (rc_cwS hAm qw_761 qw_0 qw_763 qw_762 rfl rfl hd_L_areSamplesRight ⟨Nat.le_of_ble_eq_true rfl, Nat.le_of_ble_eq_true rfl⟩) (tg_preS hAm hA hw) rfl rfl hl.1 rfl (lv_room (Nat.le_of_ble_eq_true rfl)) dL_law_237 ⟨Nat.le_trans (m := 500000) (by omega) (Nat.le_of_ble_eq_true rfl), Nat.le_trans (m := 7000000) (by omega) (Nat.le_of_ble_eq_true rfl)⟩) hA hw (fun r_19 G_18 H locs hp hw => ?_)
        obtain ⟨hr9, hS, hu⟩ := hp
        rw [hr9]
        have hI := hI.scr8 (fun t9 h9 => hu t9 (by omega))
        have hco := hI.2.1
        refine lv_if_eq (tgt := 285) hx hb dL_law_240 (by decide) (fun c9 => absurd c9 (by decide)) (fun _ => ?_)
        refine lv_aload_n hx hb dL_law_243 rfl (lv_at hl 6 rfl) ?_
        refine lv_iload hx hb dL_law_244 (lv_at hl 4 rfl) ?_
        refine lv_bipush (v := 6) hx hb dL_law_246 (by decide) ?_
        have hbl := bl_lt x9 (n := 6) (by omega)
        refine tg_callRi (va_runS (As := [.int x9, .int 6]) (rest := [.ref (ad2 8)]) (Ts := []) ⟨hx, hb, hml, hown, fun _ h9 => absurd h9 List.not_mem_nil⟩ (lw_below l E _ G_18 x9 6 (by omega) (by omega)) (rc_cwS hAm qw_618 qw_0 qw_620 qw_619 rfl rfl hd_L_below ⟨Nat.le_of_ble_eq_true rfl, Nat.le_of_ble_eq_true rfl⟩) (tg_preS hAm hA hw) rfl rfl hl.1 rfl (lv_room (Nat.le_of_ble_eq_true rfl)) dL_law_248 ⟨Nat.le_trans (m := 500000) (by omega) (Nat.le_of_ble_eq_true rfl), Nat.le_trans (m := 7000000) (by omega) (Nat.le_of_ble_eq_true rfl)⟩) hA hw (fun H locs hw => ?_)
        refine lv_iload hx hb dL_law_251 (lv_at hl 4 rfl) ?_
        refine lv_iconst (v := 3) hx hb dL_law_253 (by decide) ?_
        refine lv_ishr hx hb dL_law_254 ?_
        refine rc_topi (shr x9 3) rfl ?_
        refine lv_bipush (v := 6) hx hb dL_law_255 (by decide) ?_
        have hbl := bl_lt (shr x9 3) (n := 6) (by omega)
        refine tg_callRi (va_runS (As := [.int (shr x9 3), .int 6]) (rest := [.int (nI (bl x9 6)), .ref (ad2 8)]) (Ts := []) ⟨hx, hb, hml, hown, fun _ h9 => absurd h9 List.not_mem_nil⟩ (lw_below l E _ G_18 (shr x9 3) 6 (by omega) (by omega)) (rc_cwS hAm qw_618 qw_0 qw_620 qw_619 rfl rfl hd_L_below ⟨Nat.le_of_ble_eq_true rfl, Nat.le_of_ble_eq_true rfl⟩) (tg_preS hAm hA hw) rfl rfl hl.1 rfl (lv_room (Nat.le_of_ble_eq_true rfl)) dL_law_257 ⟨Nat.le_trans (m := 500000) (by omega) (Nat.le_of_ble_eq_true rfl), Nat.le_trans (m := 7000000) (by omega) (Nat.le_of_ble_eq_true rfl)⟩) hA hw (fun H locs hw => ?_)
        rw [← e0, ← e1] at hl
        refine lv_iload_n hx hb dL_law_260 rfl (lv_at hl 7 rfl) ?_
        refine lv_iload_n hx hb dL_law_261 rfl (lv_at hl 8 rfl) ?_
        refine tg_calli (va_runS (As := [.ref (ad2 8), .int (nI (bl x9 6)), .int (nI (bl (shr x9 3) 6)), .int (nI (vN v2 0)), .int (nI (vN v2 1))]) (rest := []) (Ts := []) ⟨hx, hb, hml, hown, fun _ h9 => absurd h9 List.not_mem_nil⟩ (lw_verdict l E _ ad2 v2 G_18 hI hS (bl x9 6) (bl (shr x9 3) 6) (by omega) (by omega)) (rc_cwS hAm qw_768 qw_0 qw_770 qw_769 rfl rfl hd_L_isVerdictRight ⟨Nat.le_of_ble_eq_true rfl, Nat.le_of_ble_eq_true rfl⟩) (tg_preS hAm hA hw) rfl rfl hl.1 rfl (lv_room (Nat.le_of_ble_eq_true rfl)) dL_law_262 ⟨Nat.le_trans (m := 500000) (by omega) (Nat.le_of_ble_eq_true rfl), Nat.le_trans (m := 7000000) (by omega) (Nat.le_of_ble_eq_true rfl)⟩) hA hw (fun r_21 G_20 H locs hp hw => ?_)
        obtain ⟨hr9, hS, hu⟩ := hp
        rw [hr9]
        have hI := hI.scr (fun t9 h9 => hu t9 (by omega))
        have hco := hI.2.1
        refine lv_if_eq (tgt := 285) hx hb dL_law_265 (by decide) (fun c9 => absurd c9 (by decide)) (fun _ => ?_)
        refine lv_aload_n hx hb dL_law_268 rfl (lv_at hl 6 rfl) ?_
        refine tg_calli (va_runS (As := [.ref (ad2 8)]) (rest := []) (Ts := []) ⟨hx, hb, hml, hown, fun _ h9 => absurd h9 List.not_mem_nil⟩ (lw_case l E _ ad2 v2 G_20 hI hS hok2 hn2) (rc_cwS hAm qw_794 qw_0 qw_796 qw_795 rfl rfl hd_L_isCaseRight ⟨Nat.le_of_ble_eq_true rfl, Nat.le_of_ble_eq_true rfl⟩) (tg_preS hAm hA hw) rfl rfl hl.1 rfl (lv_room (Nat.le_of_ble_eq_true rfl)) dL_law_269 ⟨Nat.le_trans (m := 500000) (by omega) (Nat.le_of_ble_eq_true rfl), Nat.le_trans (m := 7000000) (by omega) (Nat.le_of_ble_eq_true rfl)⟩) hA hw (fun r_23 G_22 H locs hp hw => ?_)
        obtain ⟨hr9, hS, hu⟩ := hp
        rw [hr9]
        have hI := hI.scr (fun t9 h9 => hu t9 (by omega))
        have hco := hI.2.1
        refine lv_if_eq (tgt := 285) hx hb dL_law_272 (by decide) (fun c9 => absurd c9 (by decide)) (fun _ => ?_)
        refine lv_aload_n hx hb dL_law_275 rfl (lv_at hl 6 rfl) ?_
        refine tg_calll (va_runV (As := []) (rest := []) (Ts := []) ⟨hx, hb, hml, hown, fun _ h9 => absurd h9 List.not_mem_nil⟩ (pu_digest l E _ ad2 v2 G_22 hI hS) (rc_cwV hAm qw_537 qw_1 qw_540 qw_538 qw_539 rfl rfl hd_X6_digest ⟨Nat.le_of_ble_eq_true rfl, Nat.le_of_ble_eq_true rfl⟩) (tg_preV hAm hA hw hco (q := vwCl[7]) rfl) rfl rfl hl.1 rfl (lv_room (Nat.le_of_ble_eq_true rfl)) dL_law_276 ⟨Nat.le_trans (m := 500000) (by omega) (Nat.le_of_ble_eq_true rfl), Nat.le_trans (m := 7000000) (by omega) (Nat.le_of_ble_eq_true rfl)⟩) hA hw (fun r_25 G_24 H locs hp hw => ?_)
        obtain ⟨hr9, hS, hu⟩ := hp
        rw [hr9]
        have hco := (hu 8 (by omega)).trans hco
        have hI := hI.scr (fun t9 h9 => hu t9 (by omega))
        refine lv_lload hx hb dL_law_279 (lv_at hl 0 rfl) ?_
        refine W.lcmp hx hb dL_law_281 ?_
        refine rc_topi 0 (rc_lcmpS _) ?_
        refine lv_if_eq (tgt := 287) hx hb dL_law_282 (by decide) (fun _ => ?_) (fun c9 => absurd (by decide) c9)
        refine lv_iinc (v := nI (k + 1)) (lv' := [(4, .int (nI (k + 1))), (9, .long (digF v2)), (8, .int (nI (vN v 4))), (7, .int (nI (smR (fun c => bN (vC v c).1) 6))), (6, .int (nI (vN v 2))), (5, .int x9), (0, .ref b), (1, .ref (ad2 8)), (2, .int (nI (vN v2 0))), (3, .int (nI (vN v2 1)))]) hx hb dL_law_287 hl (k := 9) rfl (nI_1 _) (by decide) rfl (fun ls hl => ?_)
        refine lv_goto (tgt := 91) hx hb dL_law_290 (by decide) ?_
        rw [e0, e1] at hl
        refine W.widen (k := 1000 + 10 * (k + 1)) (n := 20000 + 500 * (k + 1)) (by omega) (by omega) ?_
        exact ih (k + 1) ad2 v2 ls _ _ _ (by omega) ⟨hI, hS⟩ hn2 hok2 hmc2 e0 e1 (by omega) hw (lv_sub hl [6, 7, 8, 9, 0] rfl)
      · have c_15 := mt (nI_eq (a := k % 10) (b := 9) (by omega) (by omega)).mpr c_15
        refine lv_goto (tgt := 287) hx hb dL_law_227 (by decide) ?_
        refine lv_iinc (v := nI (k + 1)) (lv' := [(4, .int (nI (k + 1))), (8, .int (nI (vN v 4))), (7, .int (nI (smR (fun c => bN (vC v c).1) 6))), (6, .int (nI (vN v 2))), (5, .int x9), (0, .ref b), (1, .ref (ad2 8)), (2, .int (nI (vN v 0))), (3, .int (nI (vN v 1)))]) hx hb dL_law_287 hl (k := 8) rfl (nI_1 _) (by decide) rfl (fun ls hl => ?_)
        refine lv_goto (tgt := 91) hx hb dL_law_290 (by decide) ?_
        refine W.widen (k := 1000 + 10 * (k + 1)) (n := 20000 + 500 * (k + 1)) (by omega) (by omega) ?_
        exact ih (k + 1) ad2 v2 ls _ _ _ (by omega) ⟨hI, hS⟩ hn2 hok2 hmc2 e0 e1 (by omega) hw (lv_sub hl [5, 6, 7, 8, 0] rfl)

theorem hd_X6_init : yX6_init.cls ≠ "java/lang/invoke/MethodHandle" ∧ yX6_init.cls ≠ "java/lang/invoke/VarHandle" ∧ (parseMethodDescriptor yX6_init.desc).map (fun d => d.parameters.length) = some 0 := by decide +kernel
theorem hd_X6_machine : yX6_machine.cls ≠ "java/lang/invoke/MethodHandle" ∧ yX6_machine.cls ≠ "java/lang/invoke/VarHandle" ∧ (parseMethodDescriptor yX6_machine.desc).map (fun d => d.parameters.length) = some 2 := by decide +kernel
theorem hd_X6_changes : yX6_changes.cls ≠ "java/lang/invoke/MethodHandle" ∧ yX6_changes.cls ≠ "java/lang/invoke/VarHandle" ∧ (parseMethodDescriptor yX6_changes.desc).map (fun d => d.parameters.length) = some 1 := by decide +kernel
theorem hd_X6_rule : yX6_rule.cls ≠ "java/lang/invoke/MethodHandle" ∧ yX6_rule.cls ≠ "java/lang/invoke/VarHandle" ∧ (parseMethodDescriptor yX6_rule.desc).map (fun d => d.parameters.length) = some 2 := by decide +kernel
set_option maxHeartbeats 16000000 in
set_option maxRecDepth 100000 in
theorem lwl_all {p : Program} {l : Launch} {e : Env} {s : State} {m : MethodId} {below : List Frame} {meth : Method} {cd : Code} {b L : Nat} {xs : Nat → Int32} {E : rc_E} {A : Nat → Prop} (hst : l.stackTraces = false) (hAe : ∀ q, A q → s.heap.size ≤ q) (hA : ∀ q, s.heap.size ≤ q → A q) (hAm : rc_Amb E A s s.heap) (hx : p.tables.exec = Jvm.exec) (hb : cd.code = cL_law) (hr : meth.sig.returnType = ret) (hml : cd.maxLocals = 11) (hown : s.vm.findClass RL = some m.cls) (hlocks : meth.locks = false) (hX : va_X b L xs s s.heap) (hbz : b < s.heap.size) (hbA : ¬ A b) (hL : L ≤ 260) {ls : Array Slot} (hl : lv_has ls 11 [(0, .ref b)]) : W p l e room_1 s m #[Value.ref b] below meth cd s.heap [] 0 0 (lw_Z below #[Value.ref b] s) (F0 m 0 ls []) := by
  have hw : tg_W E A s (fun _ => none) s.heap [] := ⟨⟨⟨0, fun _ _ => rfl⟩, fun t t' x x' h => (by cases h), fun t x h => (by cases h)⟩, fun t x h => (by cases h), va_S.rf⟩
  refine tg_new 8 (C := RX6) (ci := 7) hx hb hown hAm hA hw lyX6 tyX6 tyX6_ok rfl qw_25 qw_26 qw_1 [.null, .null, .null, .null, .null, .null, .null, .int 0, .int 0, .int 0, .int 0, .int 0, .int 0] rfl (Nat.le_of_ble_eq_true rfl) (Nat.le_of_ble_eq_true rfl) dL_law_0 (fun q_1 G_2 H g_3 o_4 hw => ?_)
  have kq_1 : G_2 8 = some (q_1, .inr (7, [.null, .null, .null, .null, .null, .null, .null, .int 0, .int 0, .int 0, .int 0, .int 0, .int 0])) := g_3
  refine lv_dup hx hb dL_law_3 rfl ?_
  refine tg_callv (va_runI (As := []) (rest := [.ref q_1]) (Ts := []) ⟨hx, hb, hml, hown, fun _ h9 => absurd h9 List.not_mem_nil⟩ (in_court l E _ G_2 kq_1) (rc_cwI hAm qw_27 qw_1 qw_29 qw_28 rfl rfl rfl hd_X6_init ⟨Nat.le_of_ble_eq_true rfl, Nat.le_of_ble_eq_true rfl⟩) (tg_preS hAm hA hw) rfl rfl hl.1 rfl (lv_room (Nat.le_of_ble_eq_true rfl)) dL_law_4 ⟨Nat.le_of_ble_eq_true rfl, Nat.le_of_ble_eq_true rfl⟩) hA hw (fun G_5 H locs hp hw => ?_)
  obtain ⟨ad, rfl, hsi⟩ := hp
  have hsi := hsi (fun _ => (0, 0))
  have hco := hsi.1
  refine lv_astore_n (lv' := [(1, .ref (ad 8)), (0, .ref b)]) hx hb dL_law_7 rfl hl (by decide) rfl (fun ls hl => ?_)
  refine lv_aload_n hx hb dL_law_8 rfl (lv_at hl 0 rfl) ?_
  refine lv_iconst (v := 1) hx hb dL_law_9 (by decide) ?_
  refine lv_aload_n hx hb dL_law_10 rfl (lv_at hl 1 rfl) ?_
  refine lv_iconst (v := 0) hx hb dL_law_11 (by decide) ?_
  refine tg_callRi (va_runS (As := [.ref b, .int 0]) (rest := [.int 1, .ref (ad 8)]) (Ts := []) ⟨hx, hb, hml, hown, fun _ h9 => absurd h9 List.not_mem_nil⟩ (sc_cell l E _ G_5 b L xs 0 (by omega) hL) (rc_cwS hAm qw_622 qw_0 qw_624 qw_623 rfl rfl hd_L_cell ⟨Nat.le_of_ble_eq_true rfl, Nat.le_of_ble_eq_true rfl⟩) (sc_preX hAm hA hX hbz hbA hw) rfl rfl hl.1 rfl (lv_room (Nat.le_of_ble_eq_true rfl)) dL_law_12 ⟨Nat.le_of_ble_eq_true rfl, Nat.le_of_ble_eq_true rfl⟩) hA hw (fun H locs hw => ?_)
  refine lv_bipush (v := 30) hx hb dL_law_15 (by decide) ?_
  have hbl := bl_lt (cl xs L 0) (n := 30) (by omega)
  refine tg_callRi (va_runS (As := [.int (cl xs L 0), .int 30]) (rest := [.int 1, .ref (ad 8)]) (Ts := []) ⟨hx, hb, hml, hown, fun _ h9 => absurd h9 List.not_mem_nil⟩ (lw_below l E _ G_5 (cl xs L 0) 30 (by omega) (by omega)) (rc_cwS hAm qw_618 qw_0 qw_620 qw_619 rfl rfl hd_L_below ⟨Nat.le_of_ble_eq_true rfl, Nat.le_of_ble_eq_true rfl⟩) (tg_preS hAm hA hw) rfl rfl hl.1 rfl (lv_room (Nat.le_of_ble_eq_true rfl)) dL_law_17 ⟨Nat.le_of_ble_eq_true rfl, Nat.le_of_ble_eq_true rfl⟩) hA hw (fun H locs hw => ?_)
  refine lv_iadd hx hb dL_law_20 ?_
  refine rc_topi (nI (1 + bl (cl xs L 0) 30)) (nI_add 1 (bl (cl xs L 0) 30)) ?_
  refine lv_bipush (v := 100) hx hb dL_law_21 (by decide) ?_
  refine tg_calli (va_runV (As := [.int (nI (1 + bl (cl xs L 0) 30)), .int 100]) (rest := []) (Ts := []) ⟨hx, hb, hml, hown, fun _ h9 => absurd h9 List.not_mem_nil⟩ (pu_machine l E _ ad (fun _ => (0, 0)) 0 1 G_5 hsi (by omega) (by omega) (by omega) (1 + bl (cl xs L 0) 30) 100 (by omega) (by omega) (by omega) (by omega)) (rc_cwV hAm qw_265 qw_1 qw_268 qw_266 qw_267 rfl rfl hd_X6_machine ⟨Nat.le_of_ble_eq_true rfl, Nat.le_of_ble_eq_true rfl⟩) (tg_preV hAm hA hw hco (q := vwCl[7]) rfl) rfl rfl hl.1 rfl (lv_room (Nat.le_of_ble_eq_true rfl)) dL_law_23 ⟨Nat.le_of_ble_eq_true rfl, Nat.le_of_ble_eq_true rfl⟩) hA hw (fun r_8 G_7 H locs hp hw => ?_)
  obtain ⟨ad1, e8, hsi⟩ := hp
  rw [← e8] at hl
  have hco := hsi.1
  refine lv_pop hx hb dL_law_26 rfl ?_
  refine lv_aload_n hx hb dL_law_27 rfl (lv_at hl 0 rfl) ?_
  refine lv_iconst (v := 1) hx hb dL_law_28 (by decide) ?_
  refine lv_aload_n hx hb dL_law_29 rfl (lv_at hl 1 rfl) ?_
  refine lv_iconst (v := 0) hx hb dL_law_30 (by decide) ?_
  refine tg_callRi (va_runS (As := [.ref b, .int 0]) (rest := [.int 1, .ref (ad1 8)]) (Ts := []) ⟨hx, hb, hml, hown, fun _ h9 => absurd h9 List.not_mem_nil⟩ (sc_cell l E _ G_7 b L xs 0 (by omega) hL) (rc_cwS hAm qw_622 qw_0 qw_624 qw_623 rfl rfl hd_L_cell ⟨Nat.le_of_ble_eq_true rfl, Nat.le_of_ble_eq_true rfl⟩) (sc_preX hAm hA hX hbz hbA hw) rfl rfl hl.1 rfl (lv_room (Nat.le_of_ble_eq_true rfl)) dL_law_31 ⟨Nat.le_of_ble_eq_true rfl, Nat.le_of_ble_eq_true rfl⟩) hA hw (fun H locs hw => ?_)
  refine lv_iconst (v := 5) hx hb dL_law_34 (by decide) ?_
  refine lv_ishr hx hb dL_law_35 ?_
  refine rc_topi (shr (cl xs L 0) 5) rfl ?_
  refine lv_bipush (v := 30) hx hb dL_law_36 (by decide) ?_
  have hbl := bl_lt (shr (cl xs L 0) 5) (n := 30) (by omega)
  refine tg_callRi (va_runS (As := [.int (shr (cl xs L 0) 5), .int 30]) (rest := [.int 1, .ref (ad1 8)]) (Ts := []) ⟨hx, hb, hml, hown, fun _ h9 => absurd h9 List.not_mem_nil⟩ (lw_below l E _ G_7 (shr (cl xs L 0) 5) 30 (by omega) (by omega)) (rc_cwS hAm qw_618 qw_0 qw_620 qw_619 rfl rfl hd_L_below ⟨Nat.le_of_ble_eq_true rfl, Nat.le_of_ble_eq_true rfl⟩) (tg_preS hAm hA hw) rfl rfl hl.1 rfl (lv_room (Nat.le_of_ble_eq_true rfl)) dL_law_38 ⟨Nat.le_of_ble_eq_true rfl, Nat.le_of_ble_eq_true rfl⟩) hA hw (fun H locs hw => ?_)
  refine lv_iadd hx hb dL_law_41 ?_
  refine rc_topi (nI (1 + bl (shr (cl xs L 0) 5) 30)) (nI_add 1 (bl (shr (cl xs L 0) 5) 30)) ?_
  refine lv_bipush (v := 90) hx hb dL_law_42 (by decide) ?_
  refine tg_calli (va_runV (As := [.int (nI (1 + bl (shr (cl xs L 0) 5) 30)), .int 90]) (rest := []) (Ts := []) ⟨hx, hb, hml, hown, fun _ h9 => absurd h9 List.not_mem_nil⟩ (pu_machine l E _ ad1 (prU (fun _ => (0, 0)) 0 (1 + bl (cl xs L 0) 30) 100) 1 1 G_7 hsi (by omega) (by omega) (by omega) (1 + bl (shr (cl xs L 0) 5) 30) 90 (by omega) (by omega) (by omega) (by omega)) (rc_cwV hAm qw_265 qw_1 qw_268 qw_266 qw_267 rfl rfl hd_X6_machine ⟨Nat.le_of_ble_eq_true rfl, Nat.le_of_ble_eq_true rfl⟩) (tg_preV hAm hA hw hco (q := vwCl[7]) rfl) rfl rfl hl.1 rfl (lv_room (Nat.le_of_ble_eq_true rfl)) dL_law_44 ⟨Nat.le_of_ble_eq_true rfl, Nat.le_of_ble_eq_true rfl⟩) hA hw (fun r_10 G_9 H locs hp hw => ?_)
  obtain ⟨ad2, e8, hsi⟩ := hp
  rw [← e8] at hl
  have hco := hsi.1
  refine lv_pop hx hb dL_law_47 rfl ?_
  refine lv_aload_n hx hb dL_law_48 rfl (lv_at hl 0 rfl) ?_
  refine lv_iconst (v := 5) hx hb dL_law_49 (by decide) ?_
  refine tg_calli (va_runV (As := [.int 5]) (rest := []) (Ts := []) ⟨hx, hb, hml, hown, fun _ h9 => absurd h9 List.not_mem_nil⟩ (pu_changes l E _ ad2 (prU (prU (fun _ => (0, 0)) 0 (1 + bl (cl xs L 0) 30) 100) 1 (1 + bl (shr (cl xs L 0) 5) 30) 90) 2 G_9 hsi (by omega)) (rc_cwV hAm qw_401 qw_1 qw_404 qw_402 qw_403 rfl rfl hd_X6_changes ⟨Nat.le_of_ble_eq_true rfl, Nat.le_of_ble_eq_true rfl⟩) (tg_preV hAm hA hw hco (q := vwCl[7]) rfl) rfl rfl hl.1 rfl (lv_room (Nat.le_of_ble_eq_true rfl)) dL_law_50 ⟨Nat.le_of_ble_eq_true rfl, Nat.le_of_ble_eq_true rfl⟩) hA hw (fun r_12 G_11 H locs hp hw => ?_)
  obtain ⟨ad3, e8, hsi⟩ := hp
  rw [← e8] at hl
  have hco := hsi.1
  refine lv_pop hx hb dL_law_53 rfl ?_
  refine lv_iconst (v := 2) hx hb dL_law_54 (by decide) ?_
  refine lv_aload_n hx hb dL_law_55 rfl (lv_at hl 1 rfl) ?_
  refine lv_iconst (v := 1) hx hb dL_law_56 (by decide) ?_
  refine tg_callRi (va_runS (As := [.ref b, .int 1]) (rest := [.int 2]) (Ts := []) ⟨hx, hb, hml, hown, fun _ h9 => absurd h9 List.not_mem_nil⟩ (sc_cell l E _ G_11 b L xs 1 (by omega) hL) (rc_cwS hAm qw_622 qw_0 qw_624 qw_623 rfl rfl hd_L_cell ⟨Nat.le_of_ble_eq_true rfl, Nat.le_of_ble_eq_true rfl⟩) (sc_preX hAm hA hX hbz hbA hw) rfl rfl hl.1 rfl (lv_room (Nat.le_of_ble_eq_true rfl)) dL_law_57 ⟨Nat.le_of_ble_eq_true rfl, Nat.le_of_ble_eq_true rfl⟩) hA hw (fun H locs hw => ?_)
  refine lv_iconst (v := 3) hx hb dL_law_60 (by decide) ?_
  have hbl := bl_lt (cl xs L 1) (n := 3) (by omega)
  refine tg_callRi (va_runS (As := [.int (cl xs L 1), .int 3]) (rest := [.int 2]) (Ts := []) ⟨hx, hb, hml, hown, fun _ h9 => absurd h9 List.not_mem_nil⟩ (lw_below l E _ G_11 (cl xs L 1) 3 (by omega) (by omega)) (rc_cwS hAm qw_618 qw_0 qw_620 qw_619 rfl rfl hd_L_below ⟨Nat.le_of_ble_eq_true rfl, Nat.le_of_ble_eq_true rfl⟩) (tg_preS hAm hA hw) rfl rfl hl.1 rfl (lv_room (Nat.le_of_ble_eq_true rfl)) dL_law_61 ⟨Nat.le_of_ble_eq_true rfl, Nat.le_of_ble_eq_true rfl⟩) hA hw (fun H locs hw => ?_)
  refine lv_iadd hx hb dL_law_64 ?_
  refine rc_topi (nI (2 + bl (cl xs L 1) 3)) (nI_add 2 (bl (cl xs L 1) 3)) ?_
  refine lv_istore_n (lv' := [(2, .int (nI (2 + bl (cl xs L 1) 3))), (1, .ref (ad3 8)), (0, .ref b)]) hx hb dL_law_65 rfl hl (by decide) rfl (fun ls hl => ?_)
  refine lv_bipush (v := 20) hx hb dL_law_66 (by decide) ?_
  refine lv_aload_n hx hb dL_law_68 rfl (lv_at hl 2 rfl) ?_
  refine lv_iconst (v := 2) hx hb dL_law_69 (by decide) ?_
  refine tg_callRi (va_runS (As := [.ref b, .int 2]) (rest := [.int 20]) (Ts := []) ⟨hx, hb, hml, hown, fun _ h9 => absurd h9 List.not_mem_nil⟩ (sc_cell l E _ G_11 b L xs 2 (by omega) hL) (rc_cwS hAm qw_622 qw_0 qw_624 qw_623 rfl rfl hd_L_cell ⟨Nat.le_of_ble_eq_true rfl, Nat.le_of_ble_eq_true rfl⟩) (sc_preX hAm hA hX hbz hbA hw) rfl rfl hl.1 rfl (lv_room (Nat.le_of_ble_eq_true rfl)) dL_law_70 ⟨Nat.le_of_ble_eq_true rfl, Nat.le_of_ble_eq_true rfl⟩) hA hw (fun H locs hw => ?_)
  refine lv_sipush (v := 180) hx hb dL_law_73 (by decide) ?_
  have hbl := bl_lt (cl xs L 2) (n := 180) (by omega)
  refine tg_callRi (va_runS (As := [.int (cl xs L 2), .int 180]) (rest := [.int 20]) (Ts := []) ⟨hx, hb, hml, hown, fun _ h9 => absurd h9 List.not_mem_nil⟩ (lw_below l E _ G_11 (cl xs L 2) 180 (by omega) (by omega)) (rc_cwS hAm qw_618 qw_0 qw_620 qw_619 rfl rfl hd_L_below ⟨Nat.le_of_ble_eq_true rfl, Nat.le_of_ble_eq_true rfl⟩) (tg_preS hAm hA hw) rfl rfl hl.1 rfl (lv_room (Nat.le_of_ble_eq_true rfl)) dL_law_76 ⟨Nat.le_of_ble_eq_true rfl, Nat.le_of_ble_eq_true rfl⟩) hA hw (fun H locs hw => ?_)
  refine lv_iadd hx hb dL_law_79 ?_
  refine rc_topi (nI (20 + bl (cl xs L 2) 180)) (nI_add 20 (bl (cl xs L 2) 180)) ?_
  refine lv_istore_n (lv' := [(3, .int (nI (20 + bl (cl xs L 2) 180))), (2, .int (nI (2 + bl (cl xs L 1) 3))), (1, .ref (ad3 8)), (0, .ref b)]) hx hb dL_law_80 rfl hl (by decide) rfl (fun ls hl => ?_)
  obtain ⟨⟨hI, hS⟩, hn, hok, hmc⟩ := hsi.st (pr_ok (by omega) (by omega))
  refine lv_aload_n hx hb dL_law_81 rfl (lv_at hl 2 rfl) ?_
  refine lv_iload_n hx hb dL_law_82 rfl (lv_at hl 1 rfl) ?_
  refine lv_iload_n hx hb dL_law_83 rfl (lv_at hl 0 rfl) ?_
  refine tg_calli (va_runV (As := [.int (nI (2 + bl (cl xs L 1) 3)), .int (nI (20 + bl (cl xs L 2) 180))]) (rest := []) (Ts := []) ⟨hx, hb, hml, hown, fun _ h9 => absurd h9 List.not_mem_nil⟩ (pu_rule l E _ ad3 (vS (prU (prU (fun _ => (0, 0)) 0 (1 + bl (cl xs L 0) 30) 100) 1 (1 + bl (shr (cl xs L 0) 5) 30) 90)) G_11 hI hS hn hok (2 + bl (cl xs L 1) 3) (20 + bl (cl xs L 2) 180) (by omega) (by omega) (by omega) (by omega)) (rc_cwV hAm qw_407 qw_1 qw_410 qw_408 qw_409 rfl rfl hd_X6_rule ⟨Nat.le_of_ble_eq_true rfl, Nat.le_of_ble_eq_true rfl⟩) (tg_preV hAm hA hw hco (q := vwCl[7]) rfl) rfl rfl hl.1 rfl (lv_room (Nat.le_of_ble_eq_true rfl)) dL_law_84 ⟨Nat.le_of_ble_eq_true rfl, Nat.le_of_ble_eq_true rfl⟩) hA hw (fun r_14 G_13 H locs hp hw => ?_)
  obtain ⟨⟨v2, hIS2, hv2, hn2, hok2⟩, -⟩ := hp
  refine lv_pop hx hb dL_law_87 rfl ?_
  refine lv_iconst (v := 0) hx hb dL_law_88 (by decide) ?_
  refine lv_istore (lv' := [(4, .int 0), (3, .int (nI (20 + bl (cl xs L 2) 180))), (2, .int (nI (2 + bl (cl xs L 1) 3))), (1, .ref (ad3 8)), (0, .ref b)]) hx hb dL_law_89 hl (by decide) rfl (fun ls hl => ?_)
  refine W.widen (k := 1000 + 10 * 0) (n := 20000 + 500 * 0) (Nat.le_of_ble_eq_true rfl) (Nat.le_of_ble_eq_true rfl) ?_
  exact lwl_loop hst hAe hA hAm hx hb hr hml hown hlocks hX hbz hbA hL _ _ 60 0 ad3 v2 ls _ _ _ rfl hIS2 hn2 hok2 (mcOK_same (v := setL (vS (prU (prU (fun _ => (0, 0)) 0 (1 + bl (cl xs L 0) 30) 100) 1 (1 + bl (shr (cl xs L 0) 5) 30) 90)) (2 + bl (cl xs L 1) 3) (20 + bl (cl xs L 2) 180)) hmc hv2) (by rw [hv2.vN]; rfl) (by rw [hv2.vN]; rfl) (by rw [hv2.vn]; exact Nat.le_refl _) hw (lv_sub hl [4, 3, 2, 1, 0] rfl)
