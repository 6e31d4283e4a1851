theorem hd_X7_ways : yX7_ways.cls ≠ "java/lang/invoke/MethodHandle" ∧ yX7_ways.cls ≠ "java/lang/invoke/VarHandle" ∧ (parseMethodDescriptor yX7_ways.desc).map (fun d => d.parameters.length) = some 2 := by decide +kernel
set_option maxHeartbeats 4000000 in
set_option maxRecDepth 100000 in
theorem cw_X7_score (l : Launch) (E : rc_E) (sz : Nat) (h0 : Nat) (h1 : Nat) (f0 : Nat → Int32) : rc_Mi l yX7_score [Cond.code yX7_score cX7_score 11 (some FieldType.int)] { frames := 0, cells := 0, slots := 0, locals := 0 } E [.ref h0, .ref h1] [(h0, .inl (E.2.1 0, 0, .inl f0))] sz (S := va_W) (fun (r : Int32) (u : va_W) => (0 = r ∧ u = [(h0, .inl (E.2.1 0, 0, .inl f0))])) (fun u => u) 0 0 := by
  refine rc_ini (cc := cX7_score) (maxL := 11) (ret := (some FieldType.int)) (by decide) rfl (Nat.le_of_ble_eq_true rfl) ?_
  intro p e s m args below meth c ls A hx hb hr hml _ hown hlocks hin hA hAm hw hl
  have hown : s.vm.findClass RX7 = some m.cls := hown
  have hl : lv_has ls 11 [(0, .ref h0), (1, .ref h1)] := hl
  refine lv_iconst (v := 0) hx hb dX7_score_0 (by decide) ?_
  refine lv_istore_n (lv' := [(2, .int 0), (0, .ref h0), (1, .ref h1)]) hx hb dX7_score_1 rfl hl (by decide) rfl (fun ls hl => ?_)
  refine lv_aload_n hx hb dX7_score_2 rfl (lv_at hl 1 rfl) ?_
  refine lv_astore_n (lv' := [(3, .ref h0), (2, .int 0), (0, .ref h0), (1, .ref h1)]) hx hb dX7_score_3 rfl hl (by decide) rfl (fun ls hl => ?_)
  refine lv_aload_n hx hb dX7_score_4 rfl (lv_at hl 0 rfl) ?_
  refine rc_alen hx hb hAm hw 0 0 rfl rfl 0 rfl dX7_score_5 ?_
  refine lv_istore (lv' := [(4, .int 0), (3, .ref h0), (2, .int 0), (0, .ref h0), (1, .ref h1)]) hx hb dX7_score_6 hl (by decide) rfl (fun ls hl => ?_)
  refine lv_iconst (v := 0) hx hb dX7_score_8 (by decide) ?_
  refine lv_istore (lv' := [(5, .int 0), (4, .int 0), (3, .ref h0), (2, .int 0), (0, .ref h0), (1, .ref h1)]) hx hb dX7_score_9 hl (by decide) rfl (fun ls hl => ?_)
  refine lv_iload hx hb dX7_score_11 (lv_at hl 0 rfl) ?_
  refine lv_iload hx hb dX7_score_13 (lv_at hl 1 rfl) ?_
  refine lv_icmp_ge (tgt := 87) hx hb dX7_score_15 (by decide) (fun _ => ?_) (fun c9 => absurd (by decide) c9)
  refine lv_iload_n hx hb dX7_score_87 rfl (lv_at hl 3 rfl) ?_
  exact rc_iret (v := 0) hx hb hr hlocks hw [(h0, .inl (E.2.1 0, 0, .inl f0))] (⟨rfl, rfl⟩) [0] rfl (by decide) (Nat.le_of_ble_eq_true rfl) (Nat.le_of_ble_eq_true rfl) dX7_score_88
theorem hd_X7_score : yX7_score.cls ≠ "java/lang/invoke/MethodHandle" ∧ yX7_score.cls ≠ "java/lang/invoke/VarHandle" ∧ (parseMethodDescriptor yX7_score.desc).map (fun d => d.parameters.length) = some 2 := by decide +kernel
set_option maxHeartbeats 4000000 in
set_option maxRecDepth 100000 in
theorem cw_X7_reckoned (l : Launch) (E : rc_E) (sz : Nat) (h0 : Nat) (h1 : Nat) (f0 : Nat → Int32) : rc_Mr l yX7_reckoned [Cond.code yX7_reckoned cX7_reckoned 6 (some (FieldType.array FieldType.int))] { frames := 5, cells := 4, slots := 6, locals := 137 } E [.ref h0, .ref h1] [(h0, .inl (E.2.1 0, 0, .inl f0)), (h1, .inl (E.2.1 0, 0, .inl f0))] sz (S := va_W) (fun (u : va_W) (r : Nat) => (∃ q2 : Nat, q2 = r ∧ u = [(h0, .inl (E.2.1 0, 0, .inl f0)), (h1, .inl (E.2.1 0, 0, .inl f0)), (q2, .inl (E.2.1 0, 4, .inl (upd (upd (upd (upd (upd (upd (upd (fun _ => 0) 0 0) 1 0) 2 0) 3 0) 1 1) 2 1) 3 1)))])) (fun u => u) 4 6 := by
  refine rc_inr (cc := cX7_reckoned) (maxL := 6) (ret := (some (FieldType.array FieldType.int))) (by decide) rfl (Nat.le_of_ble_eq_true rfl) ?_
  intro p e s m args below meth c ls A hx hb hr hml _ hown hlocks hin hA hAm hw hl
  have hown : s.vm.findClass RX7 = some m.cls := hown
  have hl : lv_has ls 6 [(0, .ref h0), (1, .ref h1)] := hl
  refine lv_aload_n hx hb dX7_reckoned_0 rfl (lv_at hl 0 rfl) ?_
  refine lv_aload_n hx hb dX7_reckoned_1 rfl (lv_at hl 1 rfl) ?_
  refine rc_callr (wr := []) (va_runS (As := [.ref h0, .ref h1]) (rest := []) (Ts := []) ⟨hx, hb, hml, hown, fun _ h9 => absurd h9 List.not_mem_nil⟩ (cw_X7_ways l E _ h0 h1 f0) (rc_cwS hAm qw_1234 qw_13 qw_1236 qw_1235 rfl rfl hd_X7_ways ⟨Nat.le_of_ble_eq_true rfl, Nat.le_of_ble_eq_true rfl⟩) (rc_preS hAm hA hw [0, 1] rfl rfl) rfl rfl hl.1 rfl (lv_room (Nat.le_of_ble_eq_true rfl)) dX7_reckoned_2 ⟨Nat.le_of_ble_eq_true rfl, Nat.le_of_ble_eq_true rfl⟩) hA hw [0, 1] [] rfl rfl rfl (by decide) (fun u_2 r_1 H locs hp hw => ?_)
  obtain ⟨q1, rfl, rfl⟩ := hp
  have hw : rc_W E A s [(h0, .inl (E.2.1 0, 0, .inl f0)), (h1, .inl (E.2.1 0, 0, .inl f0)), (q1, .inl (E.2.1 0, 1, .inl (upd (fun _ => 0) 0 1)))] H locs := hw
  refine lv_astore_n (lv' := [(2, .ref q1), (0, .ref h0), (1, .ref h1)]) hx hb dX7_reckoned_5 rfl hl (by decide) rfl (fun ls hl => ?_)
  refine lv_aload_n hx hb dX7_reckoned_6 rfl (lv_at hl 1 rfl) ?_
  refine lv_aload_n hx hb dX7_reckoned_7 rfl (lv_at hl 2 rfl) ?_
  refine rc_calli (wr := [(h1, .inl (E.2.1 0, 0, .inl f0)), (q1, .inl (E.2.1 0, 1, .inl (upd (fun _ => 0) 0 1)))]) (va_runS (As := [.ref h0, .ref h1]) (rest := []) (Ts := []) ⟨hx, hb, hml, hown, fun _ h9 => absurd h9 List.not_mem_nil⟩ (cw_X7_score l E _ h0 h1 f0) (rc_cwS hAm qw_1280 qw_13 qw_1282 qw_1281 rfl rfl hd_X7_score ⟨Nat.le_of_ble_eq_true rfl, Nat.le_of_ble_eq_true rfl⟩) (rc_preS hAm hA hw [0] rfl rfl) rfl rfl hl.1 rfl (lv_room (Nat.le_of_ble_eq_true rfl)) dX7_reckoned_8 ⟨Nat.le_of_ble_eq_true rfl, Nat.le_of_ble_eq_true rfl⟩) hA hw [0] [1, 2] rfl rfl rfl (by decide) (fun r_3 u_4 H locs hp hw => ?_)
  obtain ⟨rfl, rfl⟩ := hp
  have hw : rc_W E A s [(h1, .inl (E.2.1 0, 0, .inl f0)), (q1, .inl (E.2.1 0, 1, .inl (upd (fun _ => 0) 0 1))), (h0, .inl (E.2.1 0, 0, .inl f0))] H locs := hw
  refine lv_istore_n (lv' := [(3, .int 0), (2, .ref q1), (0, .ref h0), (1, .ref h1)]) hx hb dX7_reckoned_11 rfl hl (by decide) rfl (fun ls hl => ?_)
  refine lv_iconst (v := 4) hx hb dX7_reckoned_12 (by decide) ?_
  refine rc_inew hx hb hAm hA hw qw_108 4 (by decide) (by decide) (Nat.le_of_ble_eq_true rfl) (Nat.le_of_ble_eq_true rfl) (Nat.le_of_ble_eq_true rfl) dX7_reckoned_13 (fun q2 H hw => ?_)
  have hw : rc_W E A s [(h1, .inl (E.2.1 0, 0, .inl f0)), (q1, .inl (E.2.1 0, 1, .inl (upd (fun _ => 0) 0 1))), (h0, .inl (E.2.1 0, 0, .inl f0)), (q2, .inl (E.2.1 0, 4, .inl (fun _ => 0)))] H _ := hw
  refine lv_dup hx hb dX7_reckoned_15 rfl ?_
  refine lv_iconst (v := 0) hx hb dX7_reckoned_16 (by decide) ?_
  refine lv_iload_n hx hb dX7_reckoned_17 rfl (lv_at hl 0 rfl) ?_
  refine rc_iast hx hb hAm hw 3 rfl (vp_in_iff.mpr (by decide)) [(h1, .inl (E.2.1 0, 0, .inl f0)), (q1, .inl (E.2.1 0, 1, .inl (upd (fun _ => 0) 0 1))), (h0, .inl (E.2.1 0, 0, .inl f0)), (q2, .inl (E.2.1 0, 4, .inl (upd (fun _ => 0) 0 0)))] rfl dX7_reckoned_18 (fun H locs hw => ?_)
  refine lv_dup hx hb dX7_reckoned_19 rfl ?_
  refine lv_iconst (v := 1) hx hb dX7_reckoned_20 (by decide) ?_
  refine lv_iconst (v := 0) hx hb dX7_reckoned_21 (by decide) ?_
  refine rc_iast hx hb hAm hw 3 rfl (vp_in_iff.mpr (by decide)) [(h1, .inl (E.2.1 0, 0, .inl f0)), (q1, .inl (E.2.1 0, 1, .inl (upd (fun _ => 0) 0 1))), (h0, .inl (E.2.1 0, 0, .inl f0)), (q2, .inl (E.2.1 0, 4, .inl (upd (upd (fun _ => 0) 0 0) 1 0)))] rfl dX7_reckoned_22 (fun H locs hw => ?_)
  refine lv_dup hx hb dX7_reckoned_23 rfl ?_
  refine lv_iconst (v := 2) hx hb dX7_reckoned_24 (by decide) ?_
  refine lv_iconst (v := 0) hx hb dX7_reckoned_25 (by decide) ?_
  refine rc_iast hx hb hAm hw 3 rfl (vp_in_iff.mpr (by decide)) [(h1, .inl (E.2.1 0, 0, .inl f0)), (q1, .inl (E.2.1 0, 1, .inl (upd (fun _ => 0) 0 1))), (h0, .inl (E.2.1 0, 0, .inl f0)), (q2, .inl (E.2.1 0, 4, .inl (upd (upd (upd (fun _ => 0) 0 0) 1 0) 2 0)))] rfl dX7_reckoned_26 (fun H locs hw => ?_)
  refine lv_dup hx hb dX7_reckoned_27 rfl ?_
  refine lv_iconst (v := 3) hx hb dX7_reckoned_28 (by decide) ?_
  refine lv_iconst (v := 0) hx hb dX7_reckoned_29 (by decide) ?_
  refine rc_iast hx hb hAm hw 3 rfl (vp_in_iff.mpr (by decide)) [(h1, .inl (E.2.1 0, 0, .inl f0)), (q1, .inl (E.2.1 0, 1, .inl (upd (fun _ => 0) 0 1))), (h0, .inl (E.2.1 0, 0, .inl f0)), (q2, .inl (E.2.1 0, 4, .inl (upd (upd (upd (upd (fun _ => 0) 0 0) 1 0) 2 0) 3 0)))] rfl dX7_reckoned_30 (fun H locs hw => ?_)
  refine lv_astore (lv' := [(4, .ref q2), (3, .int 0), (2, .ref q1), (0, .ref h0), (1, .ref h1)]) hx hb dX7_reckoned_31 hl (by decide) rfl (fun ls hl => ?_)
  refine lv_iconst (v := 0) hx hb dX7_reckoned_33 (by decide) ?_
  refine lv_istore (lv' := [(5, .int 0), (4, .ref q2), (3, .int 0), (2, .ref q1), (0, .ref h0), (1, .ref h1)]) hx hb dX7_reckoned_34 hl (by decide) rfl (fun ls hl => ?_)
  refine lv_iload hx hb dX7_reckoned_36 (lv_at hl 0 rfl) ?_
  refine lv_aload_n hx hb dX7_reckoned_38 rfl (lv_at hl 3 rfl) ?_
  refine rc_alen hx hb hAm hw 1 0 rfl rfl 1 rfl dX7_reckoned_39 ?_
  refine lv_icmp_ge (tgt := 102) hx hb dX7_reckoned_40 (by decide) (fun c9 => absurd c9 (by decide)) (fun _ => ?_)
  refine lv_aload hx hb dX7_reckoned_43 (lv_at hl 1 rfl) ?_
  refine lv_iconst (v := 1) hx hb dX7_reckoned_45 (by decide) ?_
  refine lv_dup2_11 hx hb dX7_reckoned_46 rfl rfl ?_
  refine rc_iald hx hb hAm hw 3 rfl (vp_in_iff.mpr (by decide)) dX7_reckoned_47 ?_
  refine rc_topi 0 rfl ?_
  refine lv_iload hx hb dX7_reckoned_48 (lv_at hl 0 rfl) ?_
  refine lv_iload_n hx hb dX7_reckoned_50 rfl (lv_at hl 2 rfl) ?_
  refine lv_icmp_lt (tgt := 61) hx hb dX7_reckoned_51 (by decide) (fun c9 => absurd c9 (by decide)) (fun _ => ?_)
  refine lv_aload_n hx hb dX7_reckoned_54 rfl (lv_at hl 3 rfl) ?_
  refine lv_iload hx hb dX7_reckoned_55 (lv_at hl 0 rfl) ?_
  refine rc_iald hx hb hAm hw 1 rfl (vp_in_iff.mpr (by decide)) dX7_reckoned_57 ?_
  refine rc_topi 1 rfl ?_
  refine lv_goto (tgt := 62) hx hb dX7_reckoned_58 (by decide) ?_
  refine lv_iadd hx hb dX7_reckoned_62 ?_
  refine rc_topi 1 (by decide) ?_
  refine rc_iast hx hb hAm hw 3 rfl (vp_in_iff.mpr (by decide)) [(h1, .inl (E.2.1 0, 0, .inl f0)), (q1, .inl (E.2.1 0, 1, .inl (upd (fun _ => 0) 0 1))), (h0, .inl (E.2.1 0, 0, .inl f0)), (q2, .inl (E.2.1 0, 4, .inl (upd (upd (upd (upd (upd (fun _ => 0) 0 0) 1 0) 2 0) 3 0) 1 1)))] rfl dX7_reckoned_63 (fun H locs hw => ?_)
  refine lv_aload hx hb dX7_reckoned_64 (lv_at hl 1 rfl) ?_
  refine lv_iconst (v := 2) hx hb dX7_reckoned_66 (by decide) ?_
  refine lv_dup2_11 hx hb dX7_reckoned_67 rfl rfl ?_
  refine rc_iald hx hb hAm hw 3 rfl (vp_in_iff.mpr (by decide)) dX7_reckoned_68 ?_
  refine rc_topi 0 rfl ?_
  refine lv_iload hx hb dX7_reckoned_69 (lv_at hl 0 rfl) ?_
  refine lv_iload_n hx hb dX7_reckoned_71 rfl (lv_at hl 2 rfl) ?_
  refine lv_icmp_gt (tgt := 82) hx hb dX7_reckoned_72 (by decide) (fun c9 => absurd c9 (by decide)) (fun _ => ?_)
  refine lv_aload_n hx hb dX7_reckoned_75 rfl (lv_at hl 3 rfl) ?_
  refine lv_iload hx hb dX7_reckoned_76 (lv_at hl 0 rfl) ?_
  refine rc_iald hx hb hAm hw 1 rfl (vp_in_iff.mpr (by decide)) dX7_reckoned_78 ?_
  refine rc_topi 1 rfl ?_
  refine lv_goto (tgt := 83) hx hb dX7_reckoned_79 (by decide) ?_
  refine lv_iadd hx hb dX7_reckoned_83 ?_
  refine rc_topi 1 (by decide) ?_
  refine rc_iast hx hb hAm hw 3 rfl (vp_in_iff.mpr (by decide)) [(h1, .inl (E.2.1 0, 0, .inl f0)), (q1, .inl (E.2.1 0, 1, .inl (upd (fun _ => 0) 0 1))), (h0, .inl (E.2.1 0, 0, .inl f0)), (q2, .inl (E.2.1 0, 4, .inl (upd (upd (upd (upd (upd (upd (fun _ => 0) 0 0) 1 0) 2 0) 3 0) 1 1) 2 1)))] rfl dX7_reckoned_84 (fun H locs hw => ?_)
  refine lv_aload hx hb dX7_reckoned_85 (lv_at hl 1 rfl) ?_
  refine lv_iconst (v := 3) hx hb dX7_reckoned_87 (by decide) ?_
  refine lv_dup2_11 hx hb dX7_reckoned_88 rfl rfl ?_
  refine rc_iald hx hb hAm hw 3 rfl (vp_in_iff.mpr (by decide)) dX7_reckoned_89 ?_
  refine rc_topi 0 rfl ?_
  refine lv_aload_n hx hb dX7_reckoned_90 rfl (lv_at hl 3 rfl) ?_
  refine lv_iload hx hb dX7_reckoned_91 (lv_at hl 0 rfl) ?_
  refine rc_iald hx hb hAm hw 1 rfl (vp_in_iff.mpr (by decide)) dX7_reckoned_93 ?_
  refine rc_topi 1 rfl ?_
  refine lv_iadd hx hb dX7_reckoned_94 ?_
  refine rc_topi 1 (by decide) ?_
  refine rc_iast hx hb hAm hw 3 rfl (vp_in_iff.mpr (by decide)) [(h1, .inl (E.2.1 0, 0, .inl f0)), (q1, .inl (E.2.1 0, 1, .inl (upd (fun _ => 0) 0 1))), (h0, .inl (E.2.1 0, 0, .inl f0)), (q2, .inl (E.2.1 0, 4, .inl (upd (upd (upd (upd (upd (upd (upd (fun _ => 0) 0 0) 1 0) 2 0) 3 0) 1 1) 2 1) 3 1)))] rfl dX7_reckoned_95 (fun H locs hw => ?_)
  refine lv_iinc (v := 1) (lv' := [(5, .int 1), (4, .ref q2), (3, .int 0), (2, .ref q1), (0, .ref h0), (1, .ref h1)]) hx hb dX7_reckoned_96 hl (k := 0) rfl (by decide) (by decide) rfl (fun ls hl => ?_)
  refine lv_goto (tgt := 36) hx hb dX7_reckoned_99 (by decide) ?_
  refine lv_iload hx hb dX7_reckoned_36 (lv_at hl 0 rfl) ?_
  refine lv_aload_n hx hb dX7_reckoned_38 rfl (lv_at hl 3 rfl) ?_
  refine rc_alen hx hb hAm hw 1 0 rfl rfl 1 rfl dX7_reckoned_39 ?_
  refine lv_icmp_ge (tgt := 102) hx hb dX7_reckoned_40 (by decide) (fun _ => ?_) (fun c9 => absurd (by decide) c9)
  refine lv_aload hx hb dX7_reckoned_102 (lv_at hl 1 rfl) ?_
  exact rc_aret (v := q2) hx hb hr (by first | exact Or.inl ⟨_, rfl⟩ | exact Or.inr ⟨_, rfl⟩) hlocks hw [(h0, .inl (E.2.1 0, 0, .inl f0)), (h1, .inl (E.2.1 0, 0, .inl f0)), (q2, .inl (E.2.1 0, 4, .inl (upd (upd (upd (upd (upd (upd (upd (fun _ => 0) 0 0) 1 0) 2 0) 3 0) 1 1) 2 1) 3 1)))] (⟨q2, rfl, rfl⟩) [2, 0, 3] rfl (by decide) (Nat.le_of_ble_eq_true rfl) (Nat.le_of_ble_eq_true rfl) dX7_reckoned_104
theorem hd_X7_reckoned : yX7_reckoned.cls ≠ "java/lang/invoke/MethodHandle" ∧ yX7_reckoned.cls ≠ "java/lang/invoke/VarHandle" ∧ (parseMethodDescriptor yX7_reckoned.desc).map (fun d => d.parameters.length) = some 2 := by decide +kernel
set_option maxHeartbeats 4000000 in
set_option maxRecDepth 100000 in
theorem cw_X7_verdictNow_2 (l : Launch) (E : rc_E) (sz : Nat) (h0 : Nat) (h1 : Nat) (h2 : Nat) (h3 : Nat) (h4 : Nat) (h5 : Nat) : rc_Mi l yX7_verdictNow [Cond.code yX7_verdictNow cX7_verdictNow 4 (some FieldType.int)] { frames := 6, cells := 8, slots := 18, locals := 162 } E [.ref h0, .int 0, .int 0, .int 1] [(h0, .inr (12, [.int 0, .ref h1, .ref h2, .ref h3, .ref h4, .ref h5, .int 1, .int 3, .int 50, .int (-1), .int (-1), .int (-1), .int (-1), .int 0, .int 100, .int 1000, .long 0])), (h3, .inr (4, [.int 0, .ref (E.2.2 0), .int 0]))] sz (S := va_W) (fun (r : Int32) (u : va_W) => (0 = r ∧ u = [(h0, .inr (12, [.int 0, .ref h1, .ref h2, .ref h3, .ref h4, .ref h5, .int 1, .int 3, .int 50, .int (-1), .int (-1), .int (-1), .int (-1), .int 0, .int 100, .int 1000, .long 0])), (h3, .inr (4, [.int 0, .ref (E.2.2 0), .int 0]))])) (fun u => u) 8 18 := by
  refine rc_ini (cc := cX7_verdictNow) (maxL := 4) (ret := (some FieldType.int)) (by decide) rfl (Nat.le_of_ble_eq_true rfl) ?_
  intro p e s m args below meth c ls A hx hb hr hml _ hown hlocks hin hA hAm hw hl
  have hown : s.vm.findClass RX7 = some m.cls := hown
  have hl : lv_has ls 4 [(0, .ref h0), (1, .int 0), (2, .int 0), (3, .int 1)] := hl
  refine lv_iload_n hx hb dX7_verdictNow_0 rfl (lv_at hl 3 rfl) ?_
  refine lv_if_ne (tgt := 21) hx hb dX7_verdictNow_1 (by decide) (fun _ => ?_) (fun c9 => absurd c9 (by decide))
  refine lv_aload_n hx hb dX7_verdictNow_21 rfl (lv_at hl 0 rfl) ?_
  refine lv_iload_n hx hb dX7_verdictNow_22 rfl (lv_at hl 1 rfl) ?_
  refine rc_callr (wr := []) (va_runV (As := [.int 0]) (rest := []) (Ts := []) ⟨hx, hb, hml, hown, fun _ h9 => absurd h9 List.not_mem_nil⟩ (cw_X7_sample_ l E _ h0 h1 h2 h3 h4 h5) (rc_cwV hAm qw_967 qw_13 qw_970 qw_969 qs_54 rfl rfl hd_X7_sample_ ⟨Nat.le_of_ble_eq_true rfl, Nat.le_of_ble_eq_true rfl⟩) (rc_preV hAm hA hw [0, 1] rfl rfl 0 rfl (q := vwCl[12]) rfl) rfl rfl hl.1 rfl (lv_room (Nat.le_of_ble_eq_true rfl)) dX7_verdictNow_23 ⟨Nat.le_of_ble_eq_true rfl, Nat.le_of_ble_eq_true rfl⟩) hA hw [0, 1] [] rfl rfl rfl (by decide) (fun u_2 r_1 H locs hp hw => ?_)
  obtain ⟨q1, rfl, rfl⟩ := hp
  have hw : rc_W E A s [(h0, .inr (12, [.int 0, .ref h1, .ref h2, .ref h3, .ref h4, .ref h5, .int 1, .int 3, .int 50, .int (-1), .int (-1), .int (-1), .int (-1), .int 0, .int 100, .int 1000, .long 0])), (h3, .inr (4, [.int 0, .ref (E.2.2 0), .int 0])), (q1, .inl (E.2.1 0, 0, .inl (va_cpy (fun _ => 0) (fun _ => 0) 6 0 0)))] H locs := hw
  refine lv_aload_n hx hb dX7_verdictNow_26 rfl (lv_at hl 0 rfl) ?_
  refine lv_iload_n hx hb dX7_verdictNow_27 rfl (lv_at hl 2 rfl) ?_
  refine rc_callr (wr := [(q1, .inl (E.2.1 0, 0, .inl (va_cpy (fun _ => 0) (fun _ => 0) 6 0 0)))]) (va_runV (As := [.int 0]) (rest := [.ref q1]) (Ts := []) ⟨hx, hb, hml, hown, fun _ h9 => absurd h9 List.not_mem_nil⟩ (cw_X7_sample_ l E _ h0 h1 h2 h3 h4 h5) (rc_cwV hAm qw_967 qw_13 qw_970 qw_969 qs_54 rfl rfl hd_X7_sample_ ⟨Nat.le_of_ble_eq_true rfl, Nat.le_of_ble_eq_true rfl⟩) (rc_preV hAm hA hw [0, 1] rfl rfl 0 rfl (q := vwCl[12]) rfl) rfl rfl hl.1 rfl (lv_room (Nat.le_of_ble_eq_true rfl)) dX7_verdictNow_28 ⟨Nat.le_of_ble_eq_true rfl, Nat.le_of_ble_eq_true rfl⟩) hA hw [0, 1] [2] rfl rfl rfl (by decide) (fun u_4 r_3 H locs hp hw => ?_)
  obtain ⟨q2, rfl, rfl⟩ := hp
  have hw : rc_W E A s [(q1, .inl (E.2.1 0, 0, .inl (va_cpy (fun _ => 0) (fun _ => 0) 6 0 0))), (h0, .inr (12, [.int 0, .ref h1, .ref h2, .ref h3, .ref h4, .ref h5, .int 1, .int 3, .int 50, .int (-1), .int (-1), .int (-1), .int (-1), .int 0, .int 100, .int 1000, .long 0])), (h3, .inr (4, [.int 0, .ref (E.2.2 0), .int 0])), (q2, .inl (E.2.1 0, 0, .inl (va_cpy (fun _ => 0) (fun _ => 0) 6 0 0)))] H locs := hw
  refine rc_callr (wr := [(h0, .inr (12, [.int 0, .ref h1, .ref h2, .ref h3, .ref h4, .ref h5, .int 1, .int 3, .int 50, .int (-1), .int (-1), .int (-1), .int (-1), .int 0, .int 100, .int 1000, .long 0])), (h3, .inr (4, [.int 0, .ref (E.2.2 0), .int 0]))]) (va_runS (As := [.ref q1, .ref q2]) (rest := []) (Ts := []) ⟨hx, hb, hml, hown, fun _ h9 => absurd h9 List.not_mem_nil⟩ (cw_X7_reckoned l E _ q1 q2 (va_cpy (fun _ => 0) (fun _ => 0) 6 0 0)) (rc_cwS hAm qw_1231 qw_13 qw_1233 qw_1232 rfl rfl hd_X7_reckoned ⟨Nat.le_of_ble_eq_true rfl, Nat.le_of_ble_eq_true rfl⟩) (rc_preS hAm hA hw [0, 3] rfl rfl) rfl rfl hl.1 rfl (lv_room (Nat.le_of_ble_eq_true rfl)) dX7_verdictNow_31 ⟨Nat.le_of_ble_eq_true rfl, Nat.le_of_ble_eq_true rfl⟩) hA hw [0, 3] [1, 2] rfl rfl rfl (by decide) (fun u_6 r_5 H locs hp hw => ?_)
  obtain ⟨q3, rfl, rfl⟩ := hp
  have hw : rc_W E A s [(h0, .inr (12, [.int 0, .ref h1, .ref h2, .ref h3, .ref h4, .ref h5, .int 1, .int 3, .int 50, .int (-1), .int (-1), .int (-1), .int (-1), .int 0, .int 100, .int 1000, .long 0])), (h3, .inr (4, [.int 0, .ref (E.2.2 0), .int 0])), (q1, .inl (E.2.1 0, 0, .inl (va_cpy (fun _ => 0) (fun _ => 0) 6 0 0))), (q2, .inl (E.2.1 0, 0, .inl (va_cpy (fun _ => 0) (fun _ => 0) 6 0 0))), (q3, .inl (E.2.1 0, 4, .inl (upd (upd (upd (upd (upd (upd (upd (fun _ => 0) 0 0) 1 0) 2 0) 3 0) 1 1) 2 1) 3 1)))] H locs := hw
  refine lv_iload_n hx hb dX7_verdictNow_34 rfl (lv_at hl 3 rfl) ?_
  refine lv_iconst (v := 1) hx hb dX7_verdictNow_35 (by decide) ?_
  refine lv_isub hx hb dX7_verdictNow_36 ?_
  refine rc_topi 0 (by decide) ?_
  refine rc_iald hx hb hAm hw 4 rfl (vp_in_iff.mpr (by decide)) dX7_verdictNow_37 ?_
  refine rc_topi 0 rfl ?_
  exact rc_iret (v := 0) hx hb hr hlocks hw [(h0, .inr (12, [.int 0, .ref h1, .ref h2, .ref h3, .ref h4, .ref h5, .int 1, .int 3, .int 50, .int (-1), .int (-1), .int (-1), .int (-1), .int 0, .int 100, .int 1000, .long 0])), (h3, .inr (4, [.int 0, .ref (E.2.2 0), .int 0]))] (⟨rfl, rfl⟩) [0, 1] rfl (by decide) (Nat.le_of_ble_eq_true rfl) (Nat.le_of_ble_eq_true rfl) dX7_verdictNow_38
set_option maxHeartbeats 4000000 in
set_option maxRecDepth 100000 in
theorem cw_X7_verdictNow_3 (l : Launch) (E : rc_E) (sz : Nat) (h0 : Nat) (h1 : Nat) (h2 : Nat) (h3 : Nat) (h4 : Nat) (h5 : Nat) : rc_Mi l yX7_verdictNow [Cond.code yX7_verdictNow cX7_verdictNow 4 (some FieldType.int)] { frames := 6, cells := 8, slots := 18, locals := 162 } E [.ref h0, .int 0, .int 0, .int 2] [(h0, .inr (12, [.int 0, .ref h1, .ref h2, .ref h3, .ref h4, .ref h5, .int 1, .int 3, .int 50, .int (-1), .int (-1), .int (-1), .int (-1), .int 0, .int 100, .int 1000, .long 0])), (h3, .inr (4, [.int 0, .ref (E.2.2 0), .int 0]))] sz (S := va_W) (fun (r : Int32) (u : va_W) => (1 = r ∧ u = [(h0, .inr (12, [.int 0, .ref h1, .ref h2, .ref h3, .ref h4, .ref h5, .int 1, .int 3, .int 50, .int (-1), .int (-1), .int (-1), .int (-1), .int 0, .int 100, .int 1000, .long 0])), (h3, .inr (4, [.int 0, .ref (E.2.2 0), .int 0]))])) (fun u => u) 8 18 := by
  refine rc_ini (cc := cX7_verdictNow) (maxL := 4) (ret := (some FieldType.int)) (by decide) rfl (Nat.le_of_ble_eq_true rfl) ?_
  intro p e s m args below meth c ls A hx hb hr hml _ hown hlocks hin hA hAm hw hl
  have hown : s.vm.findClass RX7 = some m.cls := hown
  have hl : lv_has ls 4 [(0, .ref h0), (1, .int 0), (2, .int 0), (3, .int 2)] := hl
  refine lv_iload_n hx hb dX7_verdictNow_0 rfl (lv_at hl 3 rfl) ?_
  refine lv_if_ne (tgt := 21) hx hb dX7_verdictNow_1 (by decide) (fun _ => ?_) (fun c9 => absurd c9 (by decide))
  refine lv_aload_n hx hb dX7_verdictNow_21 rfl (lv_at hl 0 rfl) ?_
  refine lv_iload_n hx hb dX7_verdictNow_22 rfl (lv_at hl 1 rfl) ?_
  refine rc_callr (wr := []) (va_runV (As := [.int 0]) (rest := []) (Ts := []) ⟨hx, hb, hml, hown, fun _ h9 => absurd h9 List.not_mem_nil⟩ (cw_X7_sample_ l E _ h0 h1 h2 h3 h4 h5) (rc_cwV hAm qw_967 qw_13 qw_970 qw_969 qs_54 rfl rfl hd_X7_sample_ ⟨Nat.le_of_ble_eq_true rfl, Nat.le_of_ble_eq_true rfl⟩) (rc_preV hAm hA hw [0, 1] rfl rfl 0 rfl (q := vwCl[12]) rfl) rfl rfl hl.1 rfl (lv_room (Nat.le_of_ble_eq_true rfl)) dX7_verdictNow_23 ⟨Nat.le_of_ble_eq_true rfl, Nat.le_of_ble_eq_true rfl⟩) hA hw [0, 1] [] rfl rfl rfl (by decide) (fun u_2 r_1 H locs hp hw => ?_)
  obtain ⟨q1, rfl, rfl⟩ := hp
  have hw : rc_W E A s [(h0, .inr (12, [.int 0, .ref h1, .ref h2, .ref h3, .ref h4, .ref h5, .int 1, .int 3, .int 50, .int (-1), .int (-1), .int (-1), .int (-1), .int 0, .int 100, .int 1000, .long 0])), (h3, .inr (4, [.int 0, .ref (E.2.2 0), .int 0])), (q1, .inl (E.2.1 0, 0, .inl (va_cpy (fun _ => 0) (fun _ => 0) 6 0 0)))] H locs := hw
  refine lv_aload_n hx hb dX7_verdictNow_26 rfl (lv_at hl 0 rfl) ?_
  refine lv_iload_n hx hb dX7_verdictNow_27 rfl (lv_at hl 2 rfl) ?_
  refine rc_callr (wr := [(q1, .inl (E.2.1 0, 0, .inl (va_cpy (fun _ => 0) (fun _ => 0) 6 0 0)))]) (va_runV (As := [.int 0]) (rest := [.ref q1]) (Ts := []) ⟨hx, hb, hml, hown, fun _ h9 => absurd h9 List.not_mem_nil⟩ (cw_X7_sample_ l E _ h0 h1 h2 h3 h4 h5) (rc_cwV hAm qw_967 qw_13 qw_970 qw_969 qs_54 rfl rfl hd_X7_sample_ ⟨Nat.le_of_ble_eq_true rfl, Nat.le_of_ble_eq_true rfl⟩) (rc_preV hAm hA hw [0, 1] rfl rfl 0 rfl (q := vwCl[12]) rfl) rfl rfl hl.1 rfl (lv_room (Nat.le_of_ble_eq_true rfl)) dX7_verdictNow_28 ⟨Nat.le_of_ble_eq_true rfl, Nat.le_of_ble_eq_true rfl⟩) hA hw [0, 1] [2] rfl rfl rfl (by decide) (fun u_4 r_3 H locs hp hw => ?_)
  obtain ⟨q2, rfl, rfl⟩ := hp
  have hw : rc_W E A s [(q1, .inl (E.2.1 0, 0, .inl (va_cpy (fun _ => 0) (fun _ => 0) 6 0 0))), (h0, .inr (12, [.int 0, .ref h1, .ref h2, .ref h3, .ref h4, .ref h5, .int 1, .int 3, .int 50, .int (-1), .int (-1), .int (-1), .int (-1), .int 0, .int 100, .int 1000, .long 0])), (h3, .inr (4, [.int 0, .ref (E.2.2 0), .int 0])), (q2, .inl (E.2.1 0, 0, .inl (va_cpy (fun _ => 0) (fun _ => 0) 6 0 0)))] H locs := hw
  refine rc_callr (wr := [(h0, .inr (12, [.int 0, .ref h1, .ref h2, .ref h3, .ref h4, .ref h5, .int 1, .int 3, .int 50, .int (-1), .int (-1), .int (-1), .int (-1), .int 0, .int 100, .int 1000, .long 0])), (h3, .inr (4, [.int 0, .ref (E.2.2 0), .int 0]))]) (va_runS (As := [.ref q1, .ref q2]) (rest := []) (Ts := []) ⟨hx, hb, hml, hown, fun _ h9 => absurd h9 List.not_mem_nil⟩ (cw_X7_reckoned l E _ q1 q2 (va_cpy (fun _ => 0) (fun _ => 0) 6 0 0)) (rc_cwS hAm qw_1231 qw_13 qw_1233 qw_1232 rfl rfl hd_X7_reckoned ⟨Nat.le_of_ble_eq_true rfl, Nat.le_of_ble_eq_true rfl⟩) (rc_preS hAm hA hw [0, 3] rfl rfl) rfl rfl hl.1 rfl (lv_room (Nat.le_of_ble_eq_true rfl)) dX7_verdictNow_31 ⟨Nat.le_of_ble_eq_true rfl, Nat.le_of_ble_eq_true rfl⟩) hA hw [0, 3] [1, 2] rfl rfl rfl (by decide) (fun u_6 r_5 H locs hp hw => ?_)
  obtain ⟨q3, rfl, rfl⟩ := hp
  have hw : rc_W E A s [(h0, .inr (12, [.int 0, .ref h1, .ref h2, .ref h3, .ref h4, .ref h5, .int 1, .int 3, .int 50, .int (-1), .int (-1), .int (-1), .int (-1), .int 0, .int 100, .int 1000, .long 0])), (h3, .inr (4, [.int 0, .ref (E.2.2 0), .int 0])), (q1, .inl (E.2.1 0, 0, .inl (va_cpy (fun _ => 0) (fun _ => 0) 6 0 0))), (q2, .inl (E.2.1 0, 0, .inl (va_cpy (fun _ => 0) (fun _ => 0) 6 0 0))), (q3, .inl (E.2.1 0, 4, .inl (upd (upd (upd (upd (upd (upd (upd (fun _ => 0) 0 0) 1 0) 2 0) 3 0) 1 1) 2 1) 3 1)))] H locs := hw
  refine lv_iload_n hx hb dX7_verdictNow_34 rfl (lv_at hl 3 rfl) ?_
  refine lv_iconst (v := 1) hx hb dX7_verdictNow_35 (by decide) ?_
  refine lv_isub hx hb dX7_verdictNow_36 ?_
  refine rc_topi 1 (by decide) ?_
  refine rc_iald hx hb hAm hw 4 rfl (vp_in_iff.mpr (by decide)) dX7_verdictNow_37 ?_
  refine rc_topi 1 rfl ?_
  exact rc_iret (v := 1) hx hb hr hlocks hw [(h0, .inr (12, [.int 0, .ref h1, .ref h2, .ref h3, .ref h4, .ref h5, .int 1, .int 3, .int 50, .int (-1), .int (-1), .int (-1), .int (-1), .int 0, .int 100, .int 1000, .long 0])), (h3, .inr (4, [.int 0, .ref (E.2.2 0), .int 0]))] (⟨rfl, rfl⟩) [0, 1] rfl (by decide) (Nat.le_of_ble_eq_true rfl) (Nat.le_of_ble_eq_true rfl) dX7_verdictNow_38
set_option maxHeartbeats 4000000 in
set_option maxRecDepth 100000 in
theorem cw_X7_verdictNow_4 (l : Launch) (E : rc_E) (sz : Nat) (h0 : Nat) (h1 : Nat) (h2 : Nat) (h3 : Nat) (h4 : Nat) (h5 : Nat) : rc_Mi l yX7_verdictNow [Cond.code yX7_verdictNow cX7_verdictNow 4 (some FieldType.int)] { frames := 6, cells := 8, slots := 18, locals := 162 } E [.ref h0, .int 0, .int 0, .int 3] [(h0, .inr (12, [.int 0, .ref h1, .ref h2, .ref h3, .ref h4, .ref h5, .int 1, .int 3, .int 50, .int (-1), .int (-1), .int (-1), .int (-1), .int 0, .int 100, .int 1000, .long 0])), (h3, .inr (4, [.int 0, .ref (E.2.2 0), .int 0]))] sz (S := va_W) (fun (r : Int32) (u : va_W) => (1 = r ∧ u = [(h0, .inr (12, [.int 0, .ref h1, .ref h2, .ref h3, .ref h4, .ref h5, .int 1, .int 3, .int 50, .int (-1), .int (-1), .int (-1), .int (-1), .int 0, .int 100, .int 1000, .long 0])), (h3, .inr (4, [.int 0, .ref (E.2.2 0), .int 0]))])) (fun u => u) 8 18 := by
  refine rc_ini (cc := cX7_verdictNow) (maxL := 4) (ret := (some FieldType.int)) (by decide) rfl (Nat.le_of_ble_eq_true rfl) ?_
  intro p e s m args below meth c ls A hx hb hr hml _ hown hlocks hin hA hAm hw hl
  have hown : s.vm.findClass RX7 = some m.cls := hown
  have hl : lv_has ls 4 [(0, .ref h0), (1, .int 0), (2, .int 0), (3, .int 3)] := hl
  refine lv_iload_n hx hb dX7_verdictNow_0 rfl (lv_at hl 3 rfl) ?_
  refine lv_if_ne (tgt := 21) hx hb dX7_verdictNow_1 (by decide) (fun _ => ?_) (fun c9 => absurd c9 (by decide))
  refine lv_aload_n hx hb dX7_verdictNow_21 rfl (lv_at hl 0 rfl) ?_
  refine lv_iload_n hx hb dX7_verdictNow_22 rfl (lv_at hl 1 rfl) ?_
  refine rc_callr (wr := []) (va_runV (As := [.int 0]) (rest := []) (Ts := []) ⟨hx, hb, hml, hown, fun _ h9 => absurd h9 List.not_mem_nil⟩ (cw_X7_sample_ l E _ h0 h1 h2 h3 h4 h5) (rc_cwV hAm qw_967 qw_13 qw_970 qw_969 qs_54 rfl rfl hd_X7_sample_ ⟨Nat.le_of_ble_eq_true rfl, Nat.le_of_ble_eq_true rfl⟩) (rc_preV hAm hA hw [0, 1] rfl rfl 0 rfl (q := vwCl[12]) rfl) rfl rfl hl.1 rfl (lv_room (Nat.le_of_ble_eq_true rfl)) dX7_verdictNow_23 ⟨Nat.le_of_ble_eq_true rfl, Nat.le_of_ble_eq_true rfl⟩) hA hw [0, 1] [] rfl rfl rfl (by decide) (fun u_2 r_1 H locs hp hw => ?_)
  obtain ⟨q1, rfl, rfl⟩ := hp
  have hw : rc_W E A s [(h0, .inr (12, [.int 0, .ref h1, .ref h2, .ref h3, .ref h4, .ref h5, .int 1, .int 3, .int 50, .int (-1), .int (-1), .int (-1), .int (-1), .int 0, .int 100, .int 1000, .long 0])), (h3, .inr (4, [.int 0, .ref (E.2.2 0), .int 0])), (q1, .inl (E.2.1 0, 0, .inl (va_cpy (fun _ => 0) (fun _ => 0) 6 0 0)))] H locs := hw
  refine lv_aload_n hx hb dX7_verdictNow_26 rfl (lv_at hl 0 rfl) ?_
  refine lv_iload_n hx hb dX7_verdictNow_27 rfl (lv_at hl 2 rfl) ?_
  refine rc_callr (wr := [(q1, .inl (E.2.1 0, 0, .inl (va_cpy (fun _ => 0) (fun _ => 0) 6 0 0)))]) (va_runV (As := [.int 0]) (rest := [.ref q1]) (Ts := []) ⟨hx, hb, hml, hown, fun _ h9 => absurd h9 List.not_mem_nil⟩ (cw_X7_sample_ l E _ h0 h1 h2 h3 h4 h5) (rc_cwV hAm qw_967 qw_13 qw_970 qw_969 qs_54 rfl rfl hd_X7_sample_ ⟨Nat.le_of_ble_eq_true rfl, Nat.le_of_ble_eq_true rfl⟩) (rc_preV hAm hA hw [0, 1] rfl rfl 0 rfl (q := vwCl[12]) rfl) rfl rfl hl.1 rfl (lv_room (Nat.le_of_ble_eq_true rfl)) dX7_verdictNow_28 ⟨Nat.le_of_ble_eq_true rfl, Nat.le_of_ble_eq_true rfl⟩) hA hw [0, 1] [2] rfl rfl rfl (by decide) (fun u_4 r_3 H locs hp hw => ?_)
  obtain ⟨q2, rfl, rfl⟩ := hp
  have hw : rc_W E A s [(q1, .inl (E.2.1 0, 0, .inl (va_cpy (fun _ => 0) (fun _ => 0) 6 0 0))), (h0, .inr (12, [.int 0, .ref h1, .ref h2, .ref h3, .ref h4, .ref h5, .int 1, .int 3, .int 50, .int (-1), .int (-1), .int (-1), .int (-1), .int 0, .int 100, .int 1000, .long 0])), (h3, .inr (4, [.int 0, .ref (E.2.2 0), .int 0])), (q2, .inl (E.2.1 0, 0, .inl (va_cpy (fun _ => 0) (fun _ => 0) 6 0 0)))] H locs := hw
  refine rc_callr (wr := [(h0, .inr (12, [.int 0, .ref h1, .ref h2, .ref h3, .ref h4, .ref h5, .int 1, .int 3, .int 50, .int (-1), .int (-1), .int (-1), .int (-1), .int 0, .int 100, .int 1000, .long 0])), (h3, .inr (4, [.int 0, .ref (E.2.2 0), .int 0]))]) (va_runS (As := [.ref q1, .ref q2]) (rest := []) (Ts := []) ⟨hx, hb, hml, hown, fun _ h9 => absurd h9 List.not_mem_nil⟩ (cw_X7_reckoned l E _ q1 q2 (va_cpy (fun _ => 0) (fun _ => 0) 6 0 0)) (rc_cwS hAm qw_1231 qw_13 qw_1233 qw_1232 rfl rfl hd_X7_reckoned ⟨Nat.le_of_ble_eq_true rfl, Nat.le_of_ble_eq_true rfl⟩) (rc_preS hAm hA hw [0, 3] rfl rfl) rfl rfl hl.1 rfl (lv_room (Nat.le_of_ble_eq_true rfl)) dX7_verdictNow_31 ⟨Nat.le_of_ble_eq_true rfl, Nat.le_of_ble_eq_true rfl⟩) hA hw [0, 3] [1, 2] rfl rfl rfl (by decide) (fun u_6 r_5 H locs hp hw => ?_)
  obtain ⟨q3, rfl, rfl⟩ := hp
  have hw : rc_W E A s [(h0, .inr (12, [.int 0, .ref h1, .ref h2, .ref h3, .ref h4, .ref h5, .int 1, .int 3, .int 50, .int (-1), .int (-1), .int (-1), .int (-1), .int 0, .int 100, .int 1000, .long 0])), (h3, .inr (4, [.int 0, .ref (E.2.2 0), .int 0])), (q1, .inl (E.2.1 0, 0, .inl (va_cpy (fun _ => 0) (fun _ => 0) 6 0 0))), (q2, .inl (E.2.1 0, 0, .inl (va_cpy (fun _ => 0) (fun _ => 0) 6 0 0))), (q3, .inl (E.2.1 0, 4, .inl (upd (upd (upd (upd (upd (upd (upd (fun _ => 0) 0 0) 1 0) 2 0) 3 0) 1 1) 2 1) 3 1)))] H locs := hw
  refine lv_iload_n hx hb dX7_verdictNow_34 rfl (lv_at hl 3 rfl) ?_
  refine lv_iconst (v := 1) hx hb dX7_verdictNow_35 (by decide) ?_
  refine lv_isub hx hb dX7_verdictNow_36 ?_
  refine rc_topi 2 (by decide) ?_
  refine rc_iald hx hb hAm hw 4 rfl (vp_in_iff.mpr (by decide)) dX7_verdictNow_37 ?_
  refine rc_topi 1 rfl ?_
  exact rc_iret (v := 1) hx hb hr hlocks hw [(h0, .inr (12, [.int 0, .ref h1, .ref h2, .ref h3, .ref h4, .ref h5, .int 1, .int 3, .int 50, .int (-1), .int (-1), .int (-1), .int (-1), .int 0, .int 100, .int 1000, .long 0])), (h3, .inr (4, [.int 0, .ref (E.2.2 0), .int 0]))] (⟨rfl, rfl⟩) [0, 1] rfl (by decide) (Nat.le_of_ble_eq_true rfl) (Nat.le_of_ble_eq_true rfl) dX7_verdictNow_38
set_option maxHeartbeats 4000000 in
set_option maxRecDepth 100000 in
theorem cw_X7_verdictNow_5 (l : Launch) (E : rc_E) (sz : Nat) (h0 : Nat) (h1 : Nat) (h2 : Nat) (h3 : Nat) (h4 : Nat) (h5 : Nat) : rc_Mi l yX7_verdictNow [Cond.code yX7_verdictNow cX7_verdictNow 4 (some FieldType.int)] { frames := 6, cells := 8, slots := 18, locals := 162 } E [.ref h0, .int 0, .int 0, .int 4] [(h0, .inr (12, [.int 0, .ref h1, .ref h2, .ref h3, .ref h4, .ref h5, .int 1, .int 3, .int 50, .int (-1), .int (-1), .int (-1), .int (-1), .int 0, .int 100, .int 1000, .long 0])), (h3, .inr (4, [.int 0, .ref (E.2.2 0), .int 0]))] sz (S := va_W) (fun (r : Int32) (u : va_W) => (1 = r ∧ u = [(h0, .inr (12, [.int 0, .ref h1, .ref h2, .ref h3, .ref h4, .ref h5, .int 1, .int 3, .int 50, .int (-1), .int (-1), .int (-1), .int (-1), .int 0, .int 100, .int 1000, .long 0])), (h3, .inr (4, [.int 0, .ref (E.2.2 0), .int 0]))])) (fun u => u) 8 18 := by
  refine rc_ini (cc := cX7_verdictNow) (maxL := 4) (ret := (some FieldType.int)) (by decide) rfl (Nat.le_of_ble_eq_true rfl) ?_
  intro p e s m args below meth c ls A hx hb hr hml _ hown hlocks hin hA hAm hw hl
  have hown : s.vm.findClass RX7 = some m.cls := hown
  have hl : lv_has ls 4 [(0, .ref h0), (1, .int 0), (2, .int 0), (3, .int 4)] := hl
  refine lv_iload_n hx hb dX7_verdictNow_0 rfl (lv_at hl 3 rfl) ?_
  refine lv_if_ne (tgt := 21) hx hb dX7_verdictNow_1 (by decide) (fun _ => ?_) (fun c9 => absurd c9 (by decide))
  refine lv_aload_n hx hb dX7_verdictNow_21 rfl (lv_at hl 0 rfl) ?_
  refine lv_iload_n hx hb dX7_verdictNow_22 rfl (lv_at hl 1 rfl) ?_
  refine rc_callr (wr := []) (va_runV (As := [.int 0]) (rest := []) (Ts := []) ⟨hx, hb, hml, hown, fun _ h9 => absurd h9 List.not_mem_nil⟩ (cw_X7_sample_ l E _ h0 h1 h2 h3 h4 h5) (rc_cwV hAm qw_967 qw_13 qw_970 qw_969 qs_54 rfl rfl hd_X7_sample_ ⟨Nat.le_of_ble_eq_true rfl, Nat.le_of_ble_eq_true rfl⟩) (rc_preV hAm hA hw [0, 1] rfl rfl 0 rfl (q := vwCl[12]) rfl) rfl rfl hl.1 rfl (lv_room (Nat.le_of_ble_eq_true rfl)) dX7_verdictNow_23 ⟨Nat.le_of_ble_eq_true rfl, Nat.le_of_ble_eq_true rfl⟩) hA hw [0, 1] [] rfl rfl rfl (by decide) (fun u_2 r_1 H locs hp hw => ?_)
  obtain ⟨q1, rfl, rfl⟩ := hp
  have hw : rc_W E A s [(h0, .inr (12, [.int 0, .ref h1, .ref h2, .ref h3, .ref h4, .ref h5, .int 1, .int 3, .int 50, .int (-1), .int (-1), .int (-1), .int (-1), .int 0, .int 100, .int 1000, .long 0])), (h3, .inr (4, [.int 0, .ref (E.2.2 0), .int 0])), (q1, .inl (E.2.1 0, 0, .inl (va_cpy (fun _ => 0) (fun _ => 0) 6 0 0)))] H locs := hw
  refine lv_aload_n hx hb dX7_verdictNow_26 rfl (lv_at hl 0 rfl) ?_
  refine lv_iload_n hx hb dX7_verdictNow_27 rfl (lv_at hl 2 rfl) ?_
  refine rc_callr (wr := [(q1, .inl (E.2.1 0, 0, .inl (va_cpy (fun _ => 0) (fun _ => 0) 6 0 0)))]) (va_runV (As := [.int 0]) (rest := [.ref q1]) (Ts := []) ⟨hx, hb, hml, hown, fun _ h9 => absurd h9 List.not_mem_nil⟩ (cw_X7_sample_ l E _ h0 h1 h2 h3 h4 h5) (rc_cwV hAm qw_967 qw_13 qw_970 qw_969 qs_54 rfl rfl hd_X7_sample_ ⟨Nat.le_of_ble_eq_true rfl, Nat.le_of_ble_eq_true rfl⟩) (rc_preV hAm hA hw [0, 1] rfl rfl 0 rfl (q := vwCl[12]) rfl) rfl rfl hl.1 rfl (lv_room (Nat.le_of_ble_eq_true rfl)) dX7_verdictNow_28 ⟨Nat.le_of_ble_eq_true rfl, Nat.le_of_ble_eq_true rfl⟩) hA hw [0, 1] [2] rfl rfl rfl (by decide) (fun u_4 r_3 H locs hp hw => ?_)
  obtain ⟨q2, rfl, rfl⟩ := hp
  have hw : rc_W E A s [(q1, .inl (E.2.1 0, 0, .inl (va_cpy (fun _ => 0) (fun _ => 0) 6 0 0))), (h0, .inr (12, [.int 0, .ref h1, .ref h2, .ref h3, .ref h4, .ref h5, .int 1, .int 3, .int 50, .int (-1), .int (-1), .int (-1), .int (-1), .int 0, .int 100, .int 1000, .long 0])), (h3, .inr (4, [.int 0, .ref (E.2.2 0), .int 0])), (q2, .inl (E.2.1 0, 0, .inl (va_cpy (fun _ => 0) (fun _ => 0) 6 0 0)))] H locs := hw
  refine rc_callr (wr := [(h0, .inr (12, [.int 0, .ref h1, .ref h2, .ref h3, .ref h4, .ref h5, .int 1, .int 3, .int 50, .int (-1), .int (-1), .int (-1), .int (-1), .int 0, .int 100, .int 1000, .long 0])), (h3, .inr (4, [.int 0, .ref (E.2.2 0), .int 0]))]) (va_runS (As := [.ref q1, .ref q2]) (rest := []) (Ts := []) ⟨hx, hb, hml, hown, fun _ h9 => absurd h9 List.not_mem_nil⟩ (cw_X7_reckoned l E _ q1 q2 (va_cpy (fun _ => 0) (fun _ => 0) 6 0 0)) (rc_cwS hAm qw_1231 qw_13 qw_1233 qw_1232 rfl rfl hd_X7_reckoned ⟨Nat.le_of_ble_eq_true rfl, Nat.le_of_ble_eq_true rfl⟩) (rc_preS hAm hA hw [0, 3] rfl rfl) rfl rfl hl.1 rfl (lv_room (Nat.le_of_ble_eq_true rfl)) dX7_verdictNow_31 ⟨Nat.le_of_ble_eq_true rfl, Nat.le_of_ble_eq_true rfl⟩) hA hw [0, 3] [1, 2] rfl rfl rfl (by decide) (fun u_6 r_5 H locs hp hw => ?_)
  obtain ⟨q3, rfl, rfl⟩ := hp
  have hw : rc_W E A s [(h0, .inr (12, [.int 0, .ref h1, .ref h2, .ref h3, .ref h4, .ref h5, .int 1, .int 3, .int 50, .int (-1), .int (-1), .int (-1), .int (-1), .int 0, .int 100, .int 1000, .long 0])), (h3, .inr (4, [.int 0, .ref (E.2.2 0), .int 0])), (q1, .inl (E.2.1 0, 0, .inl (va_cpy (fun _ => 0) (fun _ => 0) 6 0 0))), (q2, .inl (E.2.1 0, 0, .inl (va_cpy (fun _ => 0) (fun _ => 0) 6 0 0))), (q3, .inl (E.2.1 0, 4, .inl (upd (upd (upd (upd (upd (upd (upd (fun _ => 0) 0 0) 1 0) 2 0) 3 0) 1 1) 2 1) 3 1)))] H locs := hw
  refine lv_iload_n hx hb dX7_verdictNow_34 rfl (lv_at hl 3 rfl) ?_
  refine lv_iconst (v := 1) hx hb dX7_verdictNow_35 (by decide) ?_
  refine lv_isub hx hb dX7_verdictNow_36 ?_
  refine rc_topi 3 (by decide) ?_
  refine rc_iald hx hb hAm hw 4 rfl (vp_in_iff.mpr (by decide)) dX7_verdictNow_37 ?_
  refine rc_topi 1 rfl ?_
  exact rc_iret (v := 1) hx hb hr hlocks hw [(h0, .inr (12, [.int 0, .ref h1, .ref h2, .ref h3, .ref h4, .ref h5, .int 1, .int 3, .int 50, .int (-1), .int (-1), .int (-1), .int (-1), .int 0, .int 100, .int 1000, .long 0])), (h3, .inr (4, [.int 0, .ref (E.2.2 0), .int 0]))] (⟨rfl, rfl⟩) [0, 1] rfl (by decide) (Nat.le_of_ble_eq_true rfl) (Nat.le_of_ble_eq_true rfl) dX7_verdictNow_38
set_option maxHeartbeats 4000000 in
set_option maxRecDepth 100000 in
theorem cw_X7_verdict (l : Launch) (E : rc_E) (sz : Nat) (h0 : Nat) (x0 : Int32) (x1 : Int32) (x2 : Int32) (h1 : Nat) (h2 : Nat) (h3 : Nat) (h4 : Nat) (h5 : Nat) : rc_Mi l yX7_verdict [Cond.code yX7_verdict cX7_verdict 4 (some FieldType.int)] { frames := 7, cells := 8, slots := 18, locals := 185 } E [.ref h0, .int x0, .int x1, .int x2] [(h0, .inr (12, [.int 0, .ref h1, .ref h2, .ref h3, .ref h4, .ref h5, .int 1, .int 3, .int 50, .int (-1), .int (-1), .int (-1), .int (-1), .int 0, .int 100, .int 1000, .long 0])), (h3, .inr (4, [.int 0, .ref (E.2.2 0), .int 0]))] sz (S := va_W) (fun (r : Int32) (u : va_W) => (x0 < 0 ∧ 0 = r ∧ u = [(h0, .inr (12, [.int 1, .ref h1, .ref h2, .ref h3, .ref h4, .ref h5, .int 1, .int 3, .int 50, .int (-1), .int (-1), .int (-1), .int (-1), .int 0, .int 100, .int 1000, .long 0])), (h3, .inr (4, [.int 0, .ref (E.2.2 0), .int 0]))]) ∨ (¬ x0 < 0 ∧ 0 < x0 ∧ 0 = r ∧ u = [(h0, .inr (12, [.int 1, .ref h1, .ref h2, .ref h3, .ref h4, .ref h5, .int 1, .int 3, .int 50, .int (-1), .int (-1), .int (-1), .int (-1), .int 0, .int 100, .int 1000, .long 0])), (h3, .inr (4, [.int 0, .ref (E.2.2 0), .int 0]))]) ∨ (x1 < 0 ∧ x0 = 0 ∧ 0 = r ∧ u = [(h0, .inr (12, [.int 1, .ref h1, .ref h2, .ref h3, .ref h4, .ref h5, .int 1, .int 3, .int 50, .int (-1), .int (-1), .int (-1), .int (-1), .int 0, .int 100, .int 1000, .long 0])), (h3, .inr (4, [.int 0, .ref (E.2.2 0), .int 0]))]) ∨ (¬ x1 < 0 ∧ 0 < x1 ∧ x0 = 0 ∧ 0 = r ∧ u = [(h0, .inr (12, [.int 1, .ref h1, .ref h2, .ref h3, .ref h4, .ref h5, .int 1, .int 3, .int 50, .int (-1), .int (-1), .int (-1), .int (-1), .int 0, .int 100, .int 1000, .long 0])), (h3, .inr (4, [.int 0, .ref (E.2.2 0), .int 0]))]) ∨ (x2 < 0 ∧ x0 = 0 ∧ x1 = 0 ∧ 0 = r ∧ u = [(h0, .inr (12, [.int 2, .ref h1, .ref h2, .ref h3, .ref h4, .ref h5, .int 1, .int 3, .int 50, .int (-1), .int (-1), .int (-1), .int (-1), .int 0, .int 100, .int 1000, .long 0])), (h3, .inr (4, [.int 0, .ref (E.2.2 0), .int 0]))]) ∨ (¬ x2 < 0 ∧ 4 < x2 ∧ x0 = 0 ∧ x1 = 0 ∧ 0 = r ∧ u = [(h0, .inr (12, [.int 2, .ref h1, .ref h2, .ref h3, .ref h4, .ref h5, .int 1, .int 3, .int 50, .int (-1), .int (-1), .int (-1), .int (-1), .int 0, .int 100, .int 1000, .long 0])), (h3, .inr (4, [.int 0, .ref (E.2.2 0), .int 0]))]) ∨ (x0 = 0 ∧ x1 = 0 ∧ x2 = 0 ∧ 0 = r ∧ u = [(h0, .inr (12, [.int 0, .ref h1, .ref h2, .ref h3, .ref h4, .ref h5, .int 1, .int 3, .int 50, .int (-1), .int (-1), .int (-1), .int (-1), .int 0, .int 100, .int 1000, .long 0])), (h3, .inr (4, [.int 0, .ref (E.2.2 0), .int 0]))]) ∨ (x0 = 0 ∧ x1 = 0 ∧ x2 = 1 ∧ 0 = r ∧ u = [(h0, .inr (12, [.int 0, .ref h1, .ref h2, .ref h3, .ref h4, .ref h5, .int 1, .int 3, .int 50, .int (-1), .int (-1), .int (-1), .int (-1), .int 0, .int 100, .int 1000, .long 0])), (h3, .inr (4, [.int 0, .ref (E.2.2 0), .int 0]))]) ∨ (x0 = 0 ∧ x1 = 0 ∧ x2 = 2 ∧ 1 = r ∧ u = [(h0, .inr (12, [.int 0, .ref h1, .ref h2, .ref h3, .ref h4, .ref h5, .int 1, .int 3, .int 50, .int (-1), .int (-1), .int (-1), .int (-1), .int 0, .int 100, .int 1000, .long 0])), (h3, .inr (4, [.int 0, .ref (E.2.2 0), .int 0]))]) ∨ (x0 = 0 ∧ x1 = 0 ∧ x2 = 3 ∧ 1 = r ∧ u = [(h0, .inr (12, [.int 0, .ref h1, .ref h2, .ref h3, .ref h4, .ref h5, .int 1, .int 3, .int 50, .int (-1), .int (-1), .int (-1), .int (-1), .int 0, .int 100, .int 1000, .long 0])), (h3, .inr (4, [.int 0, .ref (E.2.2 0), .int 0]))]) ∨ (x0 = 0 ∧ x1 = 0 ∧ x2 = 4 ∧ 1 = r ∧ u = [(h0, .inr (12, [.int 0, .ref h1, .ref h2, .ref h3, .ref h4, .ref h5, .int 1, .int 3, .int 50, .int (-1), .int (-1), .int (-1), .int (-1), .int 0, .int 100, .int 1000, .long 0])), (h3, .inr (4, [.int 0, .ref (E.2.2 0), .int 0]))])) (fun u => u) 8 18 := by
  refine rc_ini (cc := cX7_verdict) (maxL := 4) (ret := (some FieldType.int)) (by decide) rfl (Nat.le_of_ble_eq_true rfl) ?_
  intro p e s m args below meth c ls A hx hb hr hml _ hown hlocks hin hA hAm hw hl
  have hown : s.vm.findClass RX7 = some m.cls := hown
  have hl : lv_has ls 4 [(0, .ref h0), (1, .int x0), (2, .int x1), (3, .int x2)] := hl
  refine lv_aload_n hx hb dX7_verdict_0 rfl (lv_at hl 0 rfl) ?_
  refine lv_iconst (v := 0) hx hb dX7_verdict_1 (by decide) ?_
  refine rc_put hx hb hown hAm hw lyX7 tyX7 tyX7_ok nmX7 0 rfl rfl 0 (by decide) qw_860 (fun _ h9 => h9) rfl rfl (by decide +kernel) (Nat.le_of_ble_eq_true rfl) [(h0, .inr (12, [.int 0, .ref h1, .ref h2, .ref h3, .ref h4, .ref h5, .int 1, .int 3, .int 50, .int (-1), .int (-1), .int (-1), .int (-1), .int 0, .int 100, .int 1000, .long 0])), (h3, .inr (4, [.int 0, .ref (E.2.2 0), .int 0]))] rfl dX7_verdict_2 (fun H locs hw => ?_)
  refine lv_aload_n hx hb dX7_verdict_5 rfl (lv_at hl 0 rfl) ?_
  refine lv_iload_n hx hb dX7_verdict_6 rfl (lv_at hl 1 rfl) ?_
  refine rc_calli (wr := [(h3, .inr (4, [.int 0, .ref (E.2.2 0), .int 0]))]) (va_runV (As := [.int x0]) (rest := []) (Ts := []) ⟨hx, hb, hml, hown, fun _ h9 => absurd h9 List.not_mem_nil⟩ (cw_X7_isChange l E _ h0 x0 h1 h2 h3 h4 h5) (rc_cwV hAm qw_1353 qw_13 qw_1356 qw_1355 qs_62 rfl rfl hd_X7_isChange ⟨Nat.le_of_ble_eq_true rfl, Nat.le_of_ble_eq_true rfl⟩) (rc_preV hAm hA hw [0] rfl rfl 0 rfl (q := vwCl[12]) rfl) rfl rfl hl.1 rfl (lv_room (Nat.le_of_ble_eq_true rfl)) dX7_verdict_7 ⟨Nat.le_of_ble_eq_true rfl, Nat.le_of_ble_eq_true rfl⟩) hA hw [0] [1] rfl rfl rfl (by decide) (fun r_1 u_2 H locs hp hw => ?_)
  rcases hp with ⟨c_3, rfl, rfl⟩ | ⟨c_4, c_5, rfl, rfl⟩ | ⟨c_6, rfl, rfl⟩
  · have hw : rc_W E A s [(h3, .inr (4, [.int 0, .ref (E.2.2 0), .int 0])), (h0, .inr (12, [.int 0, .ref h1, .ref h2, .ref h3, .ref h4, .ref h5, .int 1, .int 3, .int 50, .int (-1), .int (-1), .int (-1), .int (-1), .int 0, .int 100, .int 1000, .long 0]))] H locs := hw
    refine lv_if_eq (tgt := 21) hx hb dX7_verdict_10 (by decide) (fun _ => ?_) (fun c9 => absurd (by decide) c9)
    refine lv_aload_n hx hb dX7_verdict_21 rfl (lv_at hl 0 rfl) ?_
    refine lv_iconst (v := 1) hx hb dX7_verdict_22 (by decide) ?_
    refine rc_calli (wr := [(h3, .inr (4, [.int 0, .ref (E.2.2 0), .int 0]))]) (va_runV (As := [.int 1]) (rest := []) (Ts := []) ⟨hx, hb, hml, hown, fun _ h9 => absurd h9 List.not_mem_nil⟩ (cw_X7_refuse l E _ h0 h1 h2 h3 h4 h5) (rc_cwV hAm qw_924 qw_13 qw_927 qw_926 qs_50 rfl rfl hd_X7_refuse ⟨Nat.le_of_ble_eq_true rfl, Nat.le_of_ble_eq_true rfl⟩) (rc_preV hAm hA hw [1] rfl rfl 1 rfl (q := vwCl[12]) rfl) rfl rfl hl.1 rfl (lv_room (Nat.le_of_ble_eq_true rfl)) dX7_verdict_23 ⟨Nat.le_of_ble_eq_true rfl, Nat.le_of_ble_eq_true rfl⟩) hA hw [1] [0] rfl rfl rfl (by decide) (fun r_7 u_8 H locs hp hw => ?_)
    obtain ⟨rfl, rfl⟩ := hp
    have hw : rc_W E A s [(h3, .inr (4, [.int 0, .ref (E.2.2 0), .int 0])), (h0, .inr (12, [.int 1, .ref h1, .ref h2, .ref h3, .ref h4, .ref h5, .int 1, .int 3, .int 50, .int (-1), .int (-1), .int (-1), .int (-1), .int 0, .int 100, .int 1000, .long 0]))] H locs := hw
    exact rc_iret (v := 0) hx hb hr hlocks hw [(h0, .inr (12, [.int 1, .ref h1, .ref h2, .ref h3, .ref h4, .ref h5, .int 1, .int 3, .int 50, .int (-1), .int (-1), .int (-1), .int (-1), .int 0, .int 100, .int 1000, .long 0])), (h3, .inr (4, [.int 0, .ref (E.2.2 0), .int 0]))] (Or.inl ⟨c_3, rfl, rfl⟩) [1, 0] rfl (by decide) (Nat.le_of_ble_eq_true rfl) (Nat.le_of_ble_eq_true rfl) dX7_verdict_26
  · have hw : rc_W E A s [(h3, .inr (4, [.int 0, .ref (E.2.2 0), .int 0])), (h0, .inr (12, [.int 0, .ref h1, .ref h2, .ref h3, .ref h4, .ref h5, .int 1, .int 3, .int 50, .int (-1), .int (-1), .int (-1), .int (-1), .int 0, .int 100, .int 1000, .long 0]))] H locs := hw
    refine lv_if_eq (tgt := 21) hx hb dX7_verdict_10 (by decide) (fun _ => ?_) (fun c9 => absurd (by decide) c9)
    refine lv_aload_n hx hb dX7_verdict_21 rfl (lv_at hl 0 rfl) ?_
    refine lv_iconst (v := 1) hx hb dX7_verdict_22 (by decide) ?_
    refine rc_calli (wr := [(h3, .inr (4, [.int 0, .ref (E.2.2 0), .int 0]))]) (va_runV (As := [.int 1]) (rest := []) (Ts := []) ⟨hx, hb, hml, hown, fun _ h9 => absurd h9 List.not_mem_nil⟩ (cw_X7_refuse l E _ h0 h1 h2 h3 h4 h5) (rc_cwV hAm qw_924 qw_13 qw_927 qw_926 qs_50 rfl rfl hd_X7_refuse ⟨Nat.le_of_ble_eq_true rfl, Nat.le_of_ble_eq_true rfl⟩) (rc_preV hAm hA hw [1] rfl rfl 1 rfl (q := vwCl[12]) rfl) rfl rfl hl.1 rfl (lv_room (Nat.le_of_ble_eq_true rfl)) dX7_verdict_23 ⟨Nat.le_of_ble_eq_true rfl, Nat.le_of_ble_eq_true rfl⟩) hA hw [1] [0] rfl rfl rfl (by decide) (fun r_9 u_10 H locs hp hw => ?_)
    obtain ⟨rfl, rfl⟩ := hp
    have hw : rc_W E A s [(h3, .inr (4, [.int 0, .ref (E.2.2 0), .int 0])), (h0, .inr (12, [.int 1, .ref h1, .ref h2, .ref h3, .ref h4, .ref h5, .int 1, .int 3, .int 50, .int (-1), .int (-1), .int (-1), .int (-1), .int 0, .int 100, .int 1000, .long 0]))] H locs := hw
    exact rc_iret (v := 0) hx hb hr hlocks hw [(h0, .inr (12, [.int 1, .ref h1, .ref h2, .ref h3, .ref h4, .ref h5, .int 1, .int 3, .int 50, .int (-1), .int (-1), .int (-1), .int (-1), .int 0, .int 100, .int 1000, .long 0])), (h3, .inr (4, [.int 0, .ref (E.2.2 0), .int 0]))] (Or.inr (Or.inl ⟨c_4, c_5, rfl, rfl⟩)) [1, 0] rfl (by decide) (Nat.le_of_ble_eq_true rfl) (Nat.le_of_ble_eq_true rfl) dX7_verdict_26
  · obtain rfl : x0 = 0 := rc_eqc (b := 0) rfl (by have g_c_6 := rc_g5 (b := 0) c_6 rfl; omega)
    have hw : rc_W E A s [(h3, .inr (4, [.int 0, .ref (E.2.2 0), .int 0])), (h0, .inr (12, [.int 0, .ref h1, .ref h2, .ref h3, .ref h4, .ref h5, .int 1, .int 3, .int 50, .int (-1), .int (-1), .int (-1), .int (-1), .int 0, .int 100, .int 1000, .long 0]))] H locs := hw
    refine lv_if_eq (tgt := 21) hx hb dX7_verdict_10 (by decide) (fun c9 => absurd c9 (by decide)) (fun _ => ?_)
    refine lv_aload_n hx hb dX7_verdict_13 rfl (lv_at hl 0 rfl) ?_
    refine lv_iload_n hx hb dX7_verdict_14 rfl (lv_at hl 2 rfl) ?_
    refine rc_calli (wr := [(h3, .inr (4, [.int 0, .ref (E.2.2 0), .int 0]))]) (va_runV (As := [.int x1]) (rest := []) (Ts := []) ⟨hx, hb, hml, hown, fun _ h9 => absurd h9 List.not_mem_nil⟩ (cw_X7_isChange l E _ h0 x1 h1 h2 h3 h4 h5) (rc_cwV hAm qw_1353 qw_13 qw_1356 qw_1355 qs_62 rfl rfl hd_X7_isChange ⟨Nat.le_of_ble_eq_true rfl, Nat.le_of_ble_eq_true rfl⟩) (rc_preV hAm hA hw [1] rfl rfl 1 rfl (q := vwCl[12]) rfl) rfl rfl hl.1 rfl (lv_room (Nat.le_of_ble_eq_true rfl)) dX7_verdict_15 ⟨Nat.le_of_ble_eq_true rfl, Nat.le_of_ble_eq_true rfl⟩) hA hw [1] [0] rfl rfl rfl (by decide) (fun r_11 u_12 H locs hp hw => ?_)
    rcases hp with ⟨c_13, rfl, rfl⟩ | ⟨c_14, c_15, rfl, rfl⟩ | ⟨c_16, rfl, rfl⟩
    · have hw : rc_W E A s [(h3, .inr (4, [.int 0, .ref (E.2.2 0), .int 0])), (h0, .inr (12, [.int 0, .ref h1, .ref h2, .ref h3, .ref h4, .ref h5, .int 1, .int 3, .int 50, .int (-1), .int (-1), .int (-1), .int (-1), .int 0, .int 100, .int 1000, .long 0]))] H locs := hw
      refine lv_if_ne (tgt := 27) hx hb dX7_verdict_18 (by decide) (fun c9 => absurd (by decide) c9) (fun _ => ?_)
      refine lv_aload_n hx hb dX7_verdict_21 rfl (lv_at hl 0 rfl) ?_
      refine lv_iconst (v := 1) hx hb dX7_verdict_22 (by decide) ?_
      refine rc_calli (wr := [(h3, .inr (4, [.int 0, .ref (E.2.2 0), .int 0]))]) (va_runV (As := [.int 1]) (rest := []) (Ts := []) ⟨hx, hb, hml, hown, fun _ h9 => absurd h9 List.not_mem_nil⟩ (cw_X7_refuse l E _ h0 h1 h2 h3 h4 h5) (rc_cwV hAm qw_924 qw_13 qw_927 qw_926 qs_50 rfl rfl hd_X7_refuse ⟨Nat.le_of_ble_eq_true rfl, Nat.le_of_ble_eq_true rfl⟩) (rc_preV hAm hA hw [1] rfl rfl 1 rfl (q := vwCl[12]) rfl) rfl rfl hl.1 rfl (lv_room (Nat.le_of_ble_eq_true rfl)) dX7_verdict_23 ⟨Nat.le_of_ble_eq_true rfl, Nat.le_of_ble_eq_true rfl⟩) hA hw [1] [0] rfl rfl rfl (by decide) (fun r_17 u_18 H locs hp hw => ?_)
      obtain ⟨rfl, rfl⟩ := hp
      have hw : rc_W E A s [(h3, .inr (4, [.int 0, .ref (E.2.2 0), .int 0])), (h0, .inr (12, [.int 1, .ref h1, .ref h2, .ref h3, .ref h4, .ref h5, .int 1, .int 3, .int 50, .int (-1), .int (-1), .int (-1), .int (-1), .int 0, .int 100, .int 1000, .long 0]))] H locs := hw
      exact rc_iret (v := 0) hx hb hr hlocks hw [(h0, .inr (12, [.int 1, .ref h1, .ref h2, .ref h3, .ref h4, .ref h5, .int 1, .int 3, .int 50, .int (-1), .int (-1), .int (-1), .int (-1), .int 0, .int 100, .int 1000, .long 0])), (h3, .inr (4, [.int 0, .ref (E.2.2 0), .int 0]))] (Or.inr (Or.inr (Or.inl ⟨c_13, rfl, rfl, rfl⟩))) [1, 0] rfl (by decide) (Nat.le_of_ble_eq_true rfl) (Nat.le_of_ble_eq_true rfl) dX7_verdict_26
    · have hw : rc_W E A s [(h3, .inr (4, [.int 0, .ref (E.2.2 0), .int 0])), (h0, .inr (12, [.int 0, .ref h1, .ref h2, .ref h3, .ref h4, .ref h5, .int 1, .int 3, .int 50, .int (-1), .int (-1), .int (-1), .int (-1), .int 0, .int 100, .int 1000, .long 0]))] H locs := hw
      refine lv_if_ne (tgt := 27) hx hb dX7_verdict_18 (by decide) (fun c9 => absurd (by decide) c9) (fun _ => ?_)
      refine lv_aload_n hx hb dX7_verdict_21 rfl (lv_at hl 0 rfl) ?_
      refine lv_iconst (v := 1) hx hb dX7_verdict_22 (by decide) ?_
      refine rc_calli (wr := [(h3, .inr (4, [.int 0, .ref (E.2.2 0), .int 0]))]) (va_runV (As := [.int 1]) (rest := []) (Ts := []) ⟨hx, hb, hml, hown, fun _ h9 => absurd h9 List.not_mem_nil⟩ (cw_X7_refuse l E _ h0 h1 h2 h3 h4 h5) (rc_cwV hAm qw_924 qw_13 qw_927 qw_926 qs_50 rfl rfl hd_X7_refuse ⟨Nat.le_of_ble_eq_true rfl, Nat.le_of_ble_eq_true rfl⟩) (rc_preV hAm hA hw [1] rfl rfl 1 rfl (q := vwCl[12]) rfl) rfl rfl hl.1 rfl (lv_room (Nat.le_of_ble_eq_true rfl)) dX7_verdict_23 ⟨Nat.le_of_ble_eq_true rfl, Nat.le_of_ble_eq_true rfl⟩) hA hw [1] [0] rfl rfl rfl (by decide) (fun r_19 u_20 H locs hp hw => ?_)
      obtain ⟨rfl, rfl⟩ := hp
      have hw : rc_W E A s [(h3, .inr (4, [.int 0, .ref (E.2.2 0), .int 0])), (h0, .inr (12, [.int 1, .ref h1, .ref h2, .ref h3, .ref h4, .ref h5, .int 1, .int 3, .int 50, .int (-1), .int (-1), .int (-1), .int (-1), .int 0, .int 100, .int 1000, .long 0]))] H locs := hw
      exact rc_iret (v := 0) hx hb hr hlocks hw [(h0, .inr (12, [.int 1, .ref h1, .ref h2, .ref h3, .ref h4, .ref h5, .int 1, .int 3, .int 50, .int (-1), .int (-1), .int (-1), .int (-1), .int 0, .int 100, .int 1000, .long 0])), (h3, .inr (4, [.int 0, .ref (E.2.2 0), .int 0]))] (Or.inr (Or.inr (Or.inr (Or.inl ⟨c_14, c_15, rfl, rfl, rfl⟩)))) [1, 0] rfl (by decide) (Nat.le_of_ble_eq_true rfl) (Nat.le_of_ble_eq_true rfl) dX7_verdict_26
    · obtain rfl : x1 = 0 := rc_eqc (b := 0) rfl (by have g_c_16 := rc_g5 (b := 0) c_16 rfl; omega)
      have hw : rc_W E A s [(h3, .inr (4, [.int 0, .ref (E.2.2 0), .int 0])), (h0, .inr (12, [.int 0, .ref h1, .ref h2, .ref h3, .ref h4, .ref h5, .int 1, .int 3, .int 50, .int (-1), .int (-1), .int (-1), .int (-1), .int 0, .int 100, .int 1000, .long 0]))] H locs := hw
      refine lv_if_ne (tgt := 27) hx hb dX7_verdict_18 (by decide) (fun _ => ?_) (fun c9 => absurd c9 (by decide))
      refine lv_iload_n hx hb dX7_verdict_27 rfl (lv_at hl 3 rfl) ?_
      refine lv_iconst (v := 0) hx hb dX7_verdict_28 (by decide) ?_
      refine lv_iconst (v := 4) hx hb dX7_verdict_29 (by decide) ?_
      refine rc_calli (wr := [(h3, .inr (4, [.int 0, .ref (E.2.2 0), .int 0])), (h0, .inr (12, [.int 0, .ref h1, .ref h2, .ref h3, .ref h4, .ref h5, .int 1, .int 3, .int 50, .int (-1), .int (-1), .int (-1), .int (-1), .int 0, .int 100, .int 1000, .long 0]))]) (va_runS (As := [.int x2, .int 0, .int 4]) (rest := []) (Ts := []) ⟨hx, hb, hml, hown, fun _ h9 => absurd h9 List.not_mem_nil⟩ (cw_X7_is_4 l E _ x2) (rc_cwS hAm qw_921 qw_13 qw_923 qw_922 rfl rfl hd_X7_is ⟨Nat.le_of_ble_eq_true rfl, Nat.le_of_ble_eq_true rfl⟩) (rc_preS hAm hA hw [] rfl rfl) rfl rfl hl.1 rfl (lv_room (Nat.le_of_ble_eq_true rfl)) dX7_verdict_30 ⟨Nat.le_of_ble_eq_true rfl, Nat.le_of_ble_eq_true rfl⟩) hA hw [] [0, 1] rfl rfl rfl (by decide) (fun r_21 u_22 H locs hp hw => ?_)
      rcases hp with ⟨c_23, rfl, rfl⟩ | ⟨c_24, c_25, rfl, rfl⟩ | ⟨c_26, c_27, rfl, rfl⟩
      · have hw : rc_W E A s [(h3, .inr (4, [.int 0, .ref (E.2.2 0), .int 0])), (h0, .inr (12, [.int 0, .ref h1, .ref h2, .ref h3, .ref h4, .ref h5, .int 1, .int 3, .int 50, .int (-1), .int (-1), .int (-1), .int (-1), .int 0, .int 100, .int 1000, .long 0]))] H locs := hw
        refine lv_if_eq (tgt := 46) hx hb dX7_verdict_33 (by decide) (fun _ => ?_) (fun c9 => absurd (by decide) c9)
        refine lv_aload_n hx hb dX7_verdict_46 rfl (lv_at hl 0 rfl) ?_
        refine lv_iconst (v := 2) hx hb dX7_verdict_47 (by decide) ?_
        refine rc_calli (wr := [(h3, .inr (4, [.int 0, .ref (E.2.2 0), .int 0]))]) (va_runV (As := [.int 2]) (rest := []) (Ts := []) ⟨hx, hb, hml, hown, fun _ h9 => absurd h9 List.not_mem_nil⟩ (cw_X7_refuse_2 l E _ h0 h1 h2 h3 h4 h5) (rc_cwV hAm qw_924 qw_13 qw_927 qw_926 qs_50 rfl rfl hd_X7_refuse ⟨Nat.le_of_ble_eq_true rfl, Nat.le_of_ble_eq_true rfl⟩) (rc_preV hAm hA hw [1] rfl rfl 1 rfl (q := vwCl[12]) rfl) rfl rfl hl.1 rfl (lv_room (Nat.le_of_ble_eq_true rfl)) dX7_verdict_48 ⟨Nat.le_of_ble_eq_true rfl, Nat.le_of_ble_eq_true rfl⟩) hA hw [1] [0] rfl rfl rfl (by decide) (fun r_28 u_29 H locs hp hw => ?_)
        obtain ⟨rfl, rfl⟩ := hp
        have hw : rc_W E A s [(h3, .inr (4, [.int 0, .ref (E.2.2 0), .int 0])), (h0, .inr (12, [.int 2, .ref h1, .ref h2, .ref h3, .ref h4, .ref h5, .int 1, .int 3, .int 50, .int (-1), .int (-1), .int (-1), .int (-1), .int 0, .int 100, .int 1000, .long 0]))] H locs := hw
        exact rc_iret (v := 0) hx hb hr hlocks hw [(h0, .inr (12, [.int 2, .ref h1, .ref h2, .ref h3, .ref h4, .ref h5, .int 1, .int 3, .int 50, .int (-1), .int (-1), .int (-1), .int (-1), .int 0, .int 100, .int 1000, .long 0])), (h3, .inr (4, [.int 0, .ref (E.2.2 0), .int 0]))] (Or.inr (Or.inr (Or.inr (Or.inr (Or.inl ⟨c_23, rfl, rfl, rfl, rfl⟩))))) [1, 0] rfl (by decide) (Nat.le_of_ble_eq_true rfl) (Nat.le_of_ble_eq_true rfl) dX7_verdict_51
      · have hw : rc_W E A s [(h3, .inr (4, [.int 0, .ref (E.2.2 0), .int 0])), (h0, .inr (12, [.int 0, .ref h1, .ref h2, .ref h3, .ref h4, .ref h5, .int 1, .int 3, .int 50, .int (-1), .int (-1), .int (-1), .int (-1), .int 0, .int 100, .int 1000, .long 0]))] H locs := hw
        refine lv_if_eq (tgt := 46) hx hb dX7_verdict_33 (by decide) (fun _ => ?_) (fun c9 => absurd (by decide) c9)
        refine lv_aload_n hx hb dX7_verdict_46 rfl (lv_at hl 0 rfl) ?_
        refine lv_iconst (v := 2) hx hb dX7_verdict_47 (by decide) ?_
        refine rc_calli (wr := [(h3, .inr (4, [.int 0, .ref (E.2.2 0), .int 0]))]) (va_runV (As := [.int 2]) (rest := []) (Ts := []) ⟨hx, hb, hml, hown, fun _ h9 => absurd h9 List.not_mem_nil⟩ (cw_X7_refuse_2 l E _ h0 h1 h2 h3 h4 h5) (rc_cwV hAm qw_924 qw_13 qw_927 qw_926 qs_50 rfl rfl hd_X7_refuse ⟨Nat.le_of_ble_eq_true rfl, Nat.le_of_ble_eq_true rfl⟩) (rc_preV hAm hA hw [1] rfl rfl 1 rfl (q := vwCl[12]) rfl) rfl rfl hl.1 rfl (lv_room (Nat.le_of_ble_eq_true rfl)) dX7_verdict_48 ⟨Nat.le_of_ble_eq_true rfl, Nat.le_of_ble_eq_true rfl⟩) hA hw [1] [0] rfl rfl rfl (by decide) (fun r_30 u_31 H locs hp hw => ?_)
        obtain ⟨rfl, rfl⟩ := hp
        have hw : rc_W E A s [(h3, .inr (4, [.int 0, .ref (E.2.2 0), .int 0])), (h0, .inr (12, [.int 2, .ref h1, .ref h2, .ref h3, .ref h4, .ref h5, .int 1, .int 3, .int 50, .int (-1), .int (-1), .int (-1), .int (-1), .int 0, .int 100, .int 1000, .long 0]))] H locs := hw
        exact rc_iret (v := 0) hx hb hr hlocks hw [(h0, .inr (12, [.int 2, .ref h1, .ref h2, .ref h3, .ref h4, .ref h5, .int 1, .int 3, .int 50, .int (-1), .int (-1), .int (-1), .int (-1), .int 0, .int 100, .int 1000, .long 0])), (h3, .inr (4, [.int 0, .ref (E.2.2 0), .int 0]))] (Or.inr (Or.inr (Or.inr (Or.inr (Or.inr (Or.inl ⟨c_24, c_25, rfl, rfl, rfl, rfl⟩)))))) [1, 0] rfl (by decide) (Nat.le_of_ble_eq_true rfl) (Nat.le_of_ble_eq_true rfl) dX7_verdict_51
      · have hw : rc_W E A s [(h3, .inr (4, [.int 0, .ref (E.2.2 0), .int 0])), (h0, .inr (12, [.int 0, .ref h1, .ref h2, .ref h3, .ref h4, .ref h5, .int 1, .int 3, .int 50, .int (-1), .int (-1), .int (-1), .int (-1), .int 0, .int 100, .int 1000, .long 0]))] H locs := hw
        refine lv_if_eq (tgt := 46) hx hb dX7_verdict_33 (by decide) (fun c9 => absurd c9 (by decide)) (fun _ => ?_)
        refine lv_aload_n hx hb dX7_verdict_36 rfl (lv_at hl 0 rfl) ?_
        refine lv_iload_n hx hb dX7_verdict_37 rfl (lv_at hl 1 rfl) ?_
        refine lv_iload_n hx hb dX7_verdict_38 rfl (lv_at hl 2 rfl) ?_
        refine lv_iload_n hx hb dX7_verdict_39 rfl (lv_at hl 3 rfl) ?_
        rcases Decidable.em (x2 = 0) with c_32 | c_32
        · obtain rfl : x2 = 0 := rc_eqc (b := 0) rfl (rc_g5 c_32 rfl)
          refine rc_calli (wr := []) (va_runV (As := [.int 0, .int 0, .int 0]) (rest := []) (Ts := []) ⟨hx, hb, hml, hown, fun _ h9 => absurd h9 List.not_mem_nil⟩ (cw_X7_verdictNow l E _ h0 h1 h2 h3 h4 h5) (rc_cwV hAm qw_963 qw_13 qw_966 qw_965 qs_53 rfl rfl hd_X7_verdictNow ⟨Nat.le_of_ble_eq_true rfl, Nat.le_of_ble_eq_true rfl⟩) (rc_preV hAm hA hw [1, 0] rfl rfl 1 rfl (q := vwCl[12]) rfl) rfl rfl hl.1 rfl (lv_room (Nat.le_of_ble_eq_true rfl)) dX7_verdict_40 ⟨Nat.le_of_ble_eq_true rfl, Nat.le_of_ble_eq_true rfl⟩) hA hw [1, 0] [] rfl rfl rfl (by decide) (fun r_33 u_34 H locs hp hw => ?_)
          obtain ⟨rfl, rfl⟩ := hp
          have hw : rc_W E A s [(h0, .inr (12, [.int 0, .ref h1, .ref h2, .ref h3, .ref h4, .ref h5, .int 1, .int 3, .int 50, .int (-1), .int (-1), .int (-1), .int (-1), .int 0, .int 100, .int 1000, .long 0])), (h3, .inr (4, [.int 0, .ref (E.2.2 0), .int 0]))] H locs := hw
          refine lv_goto (tgt := 51) hx hb dX7_verdict_43 (by decide) ?_
          exact rc_iret (v := 0) hx hb hr hlocks hw [(h0, .inr (12, [.int 0, .ref h1, .ref h2, .ref h3, .ref h4, .ref h5, .int 1, .int 3, .int 50, .int (-1), .int (-1), .int (-1), .int (-1), .int 0, .int 100, .int 1000, .long 0])), (h3, .inr (4, [.int 0, .ref (E.2.2 0), .int 0]))] (Or.inr (Or.inr (Or.inr (Or.inr (Or.inr (Or.inr (Or.inl ⟨rfl, rfl, rfl, rfl, rfl⟩))))))) [0, 1] rfl (by decide) (Nat.le_of_ble_eq_true rfl) (Nat.le_of_ble_eq_true rfl) dX7_verdict_51
        · rcases Decidable.em (x2 = 1) with c_35 | c_35
          · obtain rfl : x2 = 1 := rc_eqc (b := 1) rfl (rc_g5 c_35 rfl)
            refine rc_calli (wr := []) (va_runV (As := [.int 0, .int 0, .int 1]) (rest := []) (Ts := []) ⟨hx, hb, hml, hown, fun _ h9 => absurd h9 List.not_mem_nil⟩ (cw_X7_verdictNow_2 l E _ h0 h1 h2 h3 h4 h5) (rc_cwV hAm qw_963 qw_13 qw_966 qw_965 qs_53 rfl rfl hd_X7_verdictNow ⟨Nat.le_of_ble_eq_true rfl, Nat.le_of_ble_eq_true rfl⟩) (rc_preV hAm hA hw [1, 0] rfl rfl 1 rfl (q := vwCl[12]) rfl) rfl rfl hl.1 rfl (lv_room (Nat.le_of_ble_eq_true rfl)) dX7_verdict_40 ⟨Nat.le_of_ble_eq_true rfl, Nat.le_of_ble_eq_true rfl⟩) hA hw [1, 0] [] rfl rfl rfl (by decide) (fun r_36 u_37 H locs hp hw => ?_)
            obtain ⟨rfl, rfl⟩ := hp
            have hw : rc_W E A s [(h0, .inr (12, [.int 0, .ref h1, .ref h2, .ref h3, .ref h4, .ref h5, .int 1, .int 3, .int 50, .int (-1), .int (-1), .int (-1), .int (-1), .int 0, .int 100, .int 1000, .long 0])), (h3, .inr (4, [.int 0, .ref (E.2.2 0), .int 0]))] H locs := hw
            refine lv_goto (tgt := 51) hx hb dX7_verdict_43 (by decide) ?_
            exact rc_iret (v := 0) hx hb hr hlocks hw [(h0, .inr (12, [.int 0, .ref h1, .ref h2, .ref h3, .ref h4, .ref h5, .int 1, .int 3, .int 50, .int (-1), .int (-1), .int (-1), .int (-1), .int 0, .int 100, .int 1000, .long 0])), (h3, .inr (4, [.int 0, .ref (E.2.2 0), .int 0]))] (Or.inr (Or.inr (Or.inr (Or.inr (Or.inr (Or.inr (Or.inr (Or.inl ⟨rfl, rfl, rfl, rfl, rfl⟩)))))))) [0, 1] rfl (by decide) (Nat.le_of_ble_eq_true rfl) (Nat.le_of_ble_eq_true rfl) dX7_verdict_51
          · rcases Decidable.em (x2 = 2) with c_38 | c_38
            · obtain rfl : x2 = 2 := rc_eqc (b := 2) rfl (rc_g5 c_38 rfl)
              refine rc_calli (wr := []) (va_runV (As := [.int 0, .int 0, .int 2]) (rest := []) (Ts := []) ⟨hx, hb, hml, hown, fun _ h9 => absurd h9 List.not_mem_nil⟩ (cw_X7_verdictNow_3 l E _ h0 h1 h2 h3 h4 h5) (rc_cwV hAm qw_963 qw_13 qw_966 qw_965 qs_53 rfl rfl hd_X7_verdictNow ⟨Nat.le_of_ble_eq_true rfl, Nat.le_of_ble_eq_true rfl⟩) (rc_preV hAm hA hw [1, 0] rfl rfl 1 rfl (q := vwCl[12]) rfl) rfl rfl hl.1 rfl (lv_room (Nat.le_of_ble_eq_true rfl)) dX7_verdict_40 ⟨Nat.le_of_ble_eq_true rfl, Nat.le_of_ble_eq_true rfl⟩) hA hw [1, 0] [] rfl rfl rfl (by decide) (fun r_39 u_40 H locs hp hw => ?_)
              obtain ⟨rfl, rfl⟩ := hp
              have hw : rc_W E A s [(h0, .inr (12, [.int 0, .ref h1, .ref h2, .ref h3, .ref h4, .ref h5, .int 1, .int 3, .int 50, .int (-1), .int (-1), .int (-1), .int (-1), .int 0, .int 100, .int 1000, .long 0])), (h3, .inr (4, [.int 0, .ref (E.2.2 0), .int 0]))] H locs := hw
              refine lv_goto (tgt := 51) hx hb dX7_verdict_43 (by decide) ?_
              exact rc_iret (v := 1) hx hb hr hlocks hw [(h0, .inr (12, [.int 0, .ref h1, .ref h2, .ref h3, .ref h4, .ref h5, .int 1, .int 3, .int 50, .int (-1), .int (-1), .int (-1), .int (-1), .int 0, .int 100, .int 1000, .long 0])), (h3, .inr (4, [.int 0, .ref (E.2.2 0), .int 0]))] (Or.inr (Or.inr (Or.inr (Or.inr (Or.inr (Or.inr (Or.inr (Or.inr (Or.inl ⟨rfl, rfl, rfl, rfl, rfl⟩))))))))) [0, 1] rfl (by decide) (Nat.le_of_ble_eq_true rfl) (Nat.le_of_ble_eq_true rfl) dX7_verdict_51
            · rcases Decidable.em (x2 = 3) with c_41 | c_41
              · obtain rfl : x2 = 3 := rc_eqc (b := 3) rfl (rc_g5 c_41 rfl)
                refine rc_calli (wr := []) (va_runV (As := [.int 0, .int 0, .int 3]) (rest := []) (Ts := []) ⟨hx, hb, hml, hown, fun _ h9 => absurd h9 List.not_mem_nil⟩ (cw_X7_verdictNow_4 l E _ h0 h1 h2 h3 h4 h5) (rc_cwV hAm qw_963 qw_13 qw_966 qw_965 qs_53 rfl rfl hd_X7_verdictNow ⟨Nat.le_of_ble_eq_true rfl, Nat.le_of_ble_eq_true rfl⟩) (rc_preV hAm hA hw [1, 0] rfl rfl 1 rfl (q := vwCl[12]) rfl) rfl rfl hl.1 rfl (lv_room (Nat.le_of_ble_eq_true rfl)) dX7_verdict_40 ⟨Nat.le_of_ble_eq_true rfl, Nat.le_of_ble_eq_true rfl⟩) hA hw [1, 0] [] rfl rfl rfl (by decide) (fun r_42 u_43 H locs hp hw => ?_)
                obtain ⟨rfl, rfl⟩ := hp
                have hw : rc_W E A s [(h0, .inr (12, [.int 0, .ref h1, .ref h2, .ref h3, .ref h4, .ref h5, .int 1, .int 3, .int 50, .int (-1), .int (-1), .int (-1), .int (-1), .int 0, .int 100, .int 1000, .long 0])), (h3, .inr (4, [.int 0, .ref (E.2.2 0), .int 0]))] H locs := hw
                refine lv_goto (tgt := 51) hx hb dX7_verdict_43 (by decide) ?_
                exact rc_iret (v := 1) hx hb hr hlocks hw [(h0, .inr (12, [.int 0, .ref h1, .ref h2, .ref h3, .ref h4, .ref h5, .int 1, .int 3, .int 50, .int (-1), .int (-1), .int (-1), .int (-1), .int 0, .int 100, .int 1000, .long 0])), (h3, .inr (4, [.int 0, .ref (E.2.2 0), .int 0]))] (Or.inr (Or.inr (Or.inr (Or.inr (Or.inr (Or.inr (Or.inr (Or.inr (Or.inr (Or.inl ⟨rfl, rfl, rfl, rfl, rfl⟩)))))))))) [0, 1] rfl (by decide) (Nat.le_of_ble_eq_true rfl) (Nat.le_of_ble_eq_true rfl) dX7_verdict_51
              · obtain rfl : x2 = 4 := rc_eqc (b := 4) rfl (by have g_c_26 := rc_n1 (b := 0) c_26 rfl; have g_c_27 := rc_n2 (b := 4) c_27 rfl; have g_c_32 := rc_n5 (b := 0) c_32 rfl; have g_c_35 := rc_n5 (b := 1) c_35 rfl; have g_c_38 := rc_n5 (b := 2) c_38 rfl; have g_c_41 := rc_n5 (b := 3) c_41 rfl; omega)
                refine rc_calli (wr := []) (va_runV (As := [.int 0, .int 0, .int 4]) (rest := []) (Ts := []) ⟨hx, hb, hml, hown, fun _ h9 => absurd h9 List.not_mem_nil⟩ (cw_X7_verdictNow_5 l E _ h0 h1 h2 h3 h4 h5) (rc_cwV hAm qw_963 qw_13 qw_966 qw_965 qs_53 rfl rfl hd_X7_verdictNow ⟨Nat.le_of_ble_eq_true rfl, Nat.le_of_ble_eq_true rfl⟩) (rc_preV hAm hA hw [1, 0] rfl rfl 1 rfl (q := vwCl[12]) rfl) rfl rfl hl.1 rfl (lv_room (Nat.le_of_ble_eq_true rfl)) dX7_verdict_40 ⟨Nat.le_of_ble_eq_true rfl, Nat.le_of_ble_eq_true rfl⟩) hA hw [1, 0] [] rfl rfl rfl (by decide) (fun r_44 u_45 H locs hp hw => ?_)
                obtain ⟨rfl, rfl⟩ := hp
                have hw : rc_W E A s [(h0, .inr (12, [.int 0, .ref h1, .ref h2, .ref h3, .ref h4, .ref h5, .int 1, .int 3, .int 50, .int (-1), .int (-1), .int (-1), .int (-1), .int 0, .int 100, .int 1000, .long 0])), (h3, .inr (4, [.int 0, .ref (E.2.2 0), .int 0]))] H locs := hw
                refine lv_goto (tgt := 51) hx hb dX7_verdict_43 (by decide) ?_
                exact rc_iret (v := 1) hx hb hr hlocks hw [(h0, .inr (12, [.int 0, .ref h1, .ref h2, .ref h3, .ref h4, .ref h5, .int 1, .int 3, .int 50, .int (-1), .int (-1), .int (-1), .int (-1), .int 0, .int 100, .int 1000, .long 0])), (h3, .inr (4, [.int 0, .ref (E.2.2 0), .int 0]))] (Or.inr (Or.inr (Or.inr (Or.inr (Or.inr (Or.inr (Or.inr (Or.inr (Or.inr (Or.inr ⟨rfl, rfl, rfl, rfl, rfl⟩)))))))))) [0, 1] rfl (by decide) (Nat.le_of_ble_eq_true rfl) (Nat.le_of_ble_eq_true rfl) dX7_verdict_51
set_option maxHeartbeats 4000000 in
set_option maxRecDepth 100000 in
theorem cw_X7_doubt (l : Launch) (E : rc_E) (sz : Nat) (h0 : Nat) (x0 : Int32) (x1 : Int32) (h1 : Nat) (h2 : Nat) (h3 : Nat) (h4 : Nat) (h5 : Nat) : rc_Md l yX7_doubt [Cond.code yX7_doubt cX7_doubt 4 (some FieldType.double)] { frames := 6, cells := 8, slots := 18, locals := 162 } E [.ref h0, .int x0, .int x1] [(h0, .inr (12, [.int 0, .ref h1, .ref h2, .ref h3, .ref h4, .ref h5, .int 1, .int 3, .int 50, .int (-1), .int (-1), .int (-1), .int (-1), .int 0, .int 100, .int 1000, .long 0])), (h3, .inr (4, [.int 0, .ref (E.2.2 0), .int 0]))] sz (S := va_W) (fun (r : UInt64) (u : va_W) => (x0 < 0 ∧ FP.dconst0 = r ∧ u = [(h0, .inr (12, [.int 1, .ref h1, .ref h2, .ref h3, .ref h4, .ref h5, .int 1, .int 3, .int 50, .int (-1), .int (-1), .int (-1), .int (-1), .int 0, .int 100, .int 1000, .long 0])), (h3, .inr (4, [.int 0, .ref (E.2.2 0), .int 0]))]) ∨ (¬ x0 < 0 ∧ 0 < x0 ∧ FP.dconst0 = r ∧ u = [(h0, .inr (12, [.int 1, .ref h1, .ref h2, .ref h3, .ref h4, .ref h5, .int 1, .int 3, .int 50, .int (-1), .int (-1), .int (-1), .int (-1), .int 0, .int 100, .int 1000, .long 0])), (h3, .inr (4, [.int 0, .ref (E.2.2 0), .int 0]))]) ∨ (x1 < 0 ∧ x0 = 0 ∧ FP.dconst0 = r ∧ u = [(h0, .inr (12, [.int 1, .ref h1, .ref h2, .ref h3, .ref h4, .ref h5, .int 1, .int 3, .int 50, .int (-1), .int (-1), .int (-1), .int (-1), .int 0, .int 100, .int 1000, .long 0])), (h3, .inr (4, [.int 0, .ref (E.2.2 0), .int 0]))]) ∨ (¬ x1 < 0 ∧ 0 < x1 ∧ x0 = 0 ∧ FP.dconst0 = r ∧ u = [(h0, .inr (12, [.int 1, .ref h1, .ref h2, .ref h3, .ref h4, .ref h5, .int 1, .int 3, .int 50, .int (-1), .int (-1), .int (-1), .int (-1), .int 0, .int 100, .int 1000, .long 0])), (h3, .inr (4, [.int 0, .ref (E.2.2 0), .int 0]))]) ∨ (x0 = 0 ∧ x1 = 0 ∧ FP.ddiv (FP.i2d 1) (FP.i2d 1) = r ∧ u = [(h0, .inr (12, [.int 0, .ref h1, .ref h2, .ref h3, .ref h4, .ref h5, .int 1, .int 3, .int 50, .int (-1), .int (-1), .int (-1), .int (-1), .int 0, .int 100, .int 1000, .long 0])), (h3, .inr (4, [.int 0, .ref (E.2.2 0), .int 0]))])) (fun u => u) 8 18 := by
  refine rc_ind (cc := cX7_doubt) (maxL := 4) (ret := (some FieldType.double)) (by decide) rfl (Nat.le_of_ble_eq_true rfl) ?_
  intro p e s m args below meth c ls A hx hb hr hml _ hown hlocks hin hA hAm hw hl
  have hown : s.vm.findClass RX7 = some m.cls := hown
  have hl : lv_has ls 4 [(0, .ref h0), (1, .int x0), (2, .int x1)] := hl
  refine lv_aload_n hx hb dX7_doubt_0 rfl (lv_at hl 0 rfl) ?_
  refine lv_aload_n hx hb dX7_doubt_1 rfl (lv_at hl 0 rfl) ?_
  refine lv_iload_n hx hb dX7_doubt_2 rfl (lv_at hl 1 rfl) ?_
  refine rc_calli (wr := [(h3, .inr (4, [.int 0, .ref (E.2.2 0), .int 0]))]) (va_runV (As := [.int x0]) (rest := [.ref h0]) (Ts := []) ⟨hx, hb, hml, hown, fun _ h9 => absurd h9 List.not_mem_nil⟩ (cw_X7_isChange l E _ h0 x0 h1 h2 h3 h4 h5) (rc_cwV hAm qw_1353 qw_13 qw_1356 qw_1355 qs_62 rfl rfl hd_X7_isChange ⟨Nat.le_of_ble_eq_true rfl, Nat.le_of_ble_eq_true rfl⟩) (rc_preV hAm hA hw [0] rfl rfl 0 rfl (q := vwCl[12]) rfl) rfl rfl hl.1 rfl (lv_room (Nat.le_of_ble_eq_true rfl)) dX7_doubt_3 ⟨Nat.le_of_ble_eq_true rfl, Nat.le_of_ble_eq_true rfl⟩) hA hw [0] [1] rfl rfl rfl (by decide) (fun r_1 u_2 H locs hp hw => ?_)
  rcases hp with ⟨c_3, rfl, rfl⟩ | ⟨c_4, c_5, rfl, rfl⟩ | ⟨c_6, rfl, rfl⟩
  · have hw : rc_W E A s [(h3, .inr (4, [.int 0, .ref (E.2.2 0), .int 0])), (h0, .inr (12, [.int 0, .ref h1, .ref h2, .ref h3, .ref h4, .ref h5, .int 1, .int 3, .int 50, .int (-1), .int (-1), .int (-1), .int (-1), .int 0, .int 100, .int 1000, .long 0]))] H locs := hw
    refine lv_if_eq (tgt := 21) hx hb dX7_doubt_6 (by decide) (fun _ => ?_) (fun c9 => absurd (by decide) c9)
    refine lv_iconst (v := 1) hx hb dX7_doubt_21 (by decide) ?_
    refine rc_put hx hb hown hAm hw lyX7 tyX7 tyX7_ok nmX7 1 rfl rfl 0 (by decide) qw_860 (fun _ h9 => h9) rfl rfl (by decide +kernel) (Nat.le_of_ble_eq_true rfl) [(h3, .inr (4, [.int 0, .ref (E.2.2 0), .int 0])), (h0, .inr (12, [.int 1, .ref h1, .ref h2, .ref h3, .ref h4, .ref h5, .int 1, .int 3, .int 50, .int (-1), .int (-1), .int (-1), .int (-1), .int 0, .int 100, .int 1000, .long 0]))] rfl dX7_doubt_22 (fun H locs hw => ?_)
    refine lv_aload_n hx hb dX7_doubt_25 rfl (lv_at hl 0 rfl) ?_
    refine rc_get (v := .int 1) hx hb hown hAm hw lyX7 1 rfl rfl 0 (by decide) qw_860 (fun _ h9 => h9) rfl dX7_doubt_26 ?_
    refine lv_if_le (tgt := 34) hx hb dX7_doubt_29 (by decide) (fun c9 => absurd c9 (by decide)) (fun _ => ?_)
    refine lv_dconst0 hx hb dX7_doubt_32 ?_
    exact rc_dret (v := FP.dconst0) hx hb hr hlocks hw [(h0, .inr (12, [.int 1, .ref h1, .ref h2, .ref h3, .ref h4, .ref h5, .int 1, .int 3, .int 50, .int (-1), .int (-1), .int (-1), .int (-1), .int 0, .int 100, .int 1000, .long 0])), (h3, .inr (4, [.int 0, .ref (E.2.2 0), .int 0]))] (Or.inl ⟨c_3, rfl, rfl⟩) [1, 0] rfl (by decide) (Nat.le_of_ble_eq_true rfl) (Nat.le_of_ble_eq_true rfl) dX7_doubt_33
  · have hw : rc_W E A s [(h3, .inr (4, [.int 0, .ref (E.2.2 0), .int 0])), (h0, .inr (12, [.int 0, .ref h1, .ref h2, .ref h3, .ref h4, .ref h5, .int 1, .int 3, .int 50, .int (-1), .int (-1), .int (-1), .int (-1), .int 0, .int 100, .int 1000, .long 0]))] H locs := hw
    refine lv_if_eq (tgt := 21) hx hb dX7_doubt_6 (by decide) (fun _ => ?_) (fun c9 => absurd (by decide) c9)
    refine lv_iconst (v := 1) hx hb dX7_doubt_21 (by decide) ?_
    refine rc_put hx hb hown hAm hw lyX7 tyX7 tyX7_ok nmX7 1 rfl rfl 0 (by decide) qw_860 (fun _ h9 => h9) rfl rfl (by decide +kernel) (Nat.le_of_ble_eq_true rfl) [(h3, .inr (4, [.int 0, .ref (E.2.2 0), .int 0])), (h0, .inr (12, [.int 1, .ref h1, .ref h2, .ref h3, .ref h4, .ref h5, .int 1, .int 3, .int 50, .int (-1), .int (-1), .int (-1), .int (-1), .int 0, .int 100, .int 1000, .long 0]))] rfl dX7_doubt_22 (fun H locs hw => ?_)
    refine lv_aload_n hx hb dX7_doubt_25 rfl (lv_at hl 0 rfl) ?_
    refine rc_get (v := .int 1) hx hb hown hAm hw lyX7 1 rfl rfl 0 (by decide) qw_860 (fun _ h9 => h9) rfl dX7_doubt_26 ?_
    refine lv_if_le (tgt := 34) hx hb dX7_doubt_29 (by decide) (fun c9 => absurd c9 (by decide)) (fun _ => ?_)
    refine lv_dconst0 hx hb dX7_doubt_32 ?_
    exact rc_dret (v := FP.dconst0) hx hb hr hlocks hw [(h0, .inr (12, [.int 1, .ref h1, .ref h2, .ref h3, .ref h4, .ref h5, .int 1, .int 3, .int 50, .int (-1), .int (-1), .int (-1), .int (-1), .int 0, .int 100, .int 1000, .long 0])), (h3, .inr (4, [.int 0, .ref (E.2.2 0), .int 0]))] (Or.inr (Or.inl ⟨c_4, c_5, rfl, rfl⟩)) [1, 0] rfl (by decide) (Nat.le_of_ble_eq_true rfl) (Nat.le_of_ble_eq_true rfl) dX7_doubt_33
  · obtain rfl : x0 = 0 := rc_eqc (b := 0) rfl (by have g_c_6 := rc_g5 (b := 0) c_6 rfl; omega)
    have hw : rc_W E A s [(h3, .inr (4, [.int 0, .ref (E.2.2 0), .int 0])), (h0, .inr (12, [.int 0, .ref h1, .ref h2, .ref h3, .ref h4, .ref h5, .int 1, .int 3, .int 50, .int (-1), .int (-1), .int (-1), .int (-1), .int 0, .int 100, .int 1000, .long 0]))] H locs := hw
    refine lv_if_eq (tgt := 21) hx hb dX7_doubt_6 (by decide) (fun c9 => absurd c9 (by decide)) (fun _ => ?_)
    refine lv_aload_n hx hb dX7_doubt_9 rfl (lv_at hl 0 rfl) ?_
    refine lv_iload_n hx hb dX7_doubt_10 rfl (lv_at hl 2 rfl) ?_
    refine rc_calli (wr := [(h3, .inr (4, [.int 0, .ref (E.2.2 0), .int 0]))]) (va_runV (As := [.int x1]) (rest := [.ref h0]) (Ts := []) ⟨hx, hb, hml, hown, fun _ h9 => absurd h9 List.not_mem_nil⟩ (cw_X7_isChange l E _ h0 x1 h1 h2 h3 h4 h5) (rc_cwV hAm qw_1353 qw_13 qw_1356 qw_1355 qs_62 rfl rfl hd_X7_isChange ⟨Nat.le_of_ble_eq_true rfl, Nat.le_of_ble_eq_true rfl⟩) (rc_preV hAm hA hw [1] rfl rfl 1 rfl (q := vwCl[12]) rfl) rfl rfl hl.1 rfl (lv_room (Nat.le_of_ble_eq_true rfl)) dX7_doubt_11 ⟨Nat.le_of_ble_eq_true rfl, Nat.le_of_ble_eq_true rfl⟩) hA hw [1] [0] rfl rfl rfl (by decide) (fun r_7 u_8 H locs hp hw => ?_)
    rcases hp with ⟨c_9, rfl, rfl⟩ | ⟨c_10, c_11, rfl, rfl⟩ | ⟨c_12, rfl, rfl⟩
    · have hw : rc_W E A s [(h3, .inr (4, [.int 0, .ref (E.2.2 0), .int 0])), (h0, .inr (12, [.int 0, .ref h1, .ref h2, .ref h3, .ref h4, .ref h5, .int 1, .int 3, .int 50, .int (-1), .int (-1), .int (-1), .int (-1), .int 0, .int 100, .int 1000, .long 0]))] H locs := hw
      refine lv_if_eq (tgt := 21) hx hb dX7_doubt_14 (by decide) (fun _ => ?_) (fun c9 => absurd (by decide) c9)
      refine lv_iconst (v := 1) hx hb dX7_doubt_21 (by decide) ?_
      refine rc_put hx hb hown hAm hw lyX7 tyX7 tyX7_ok nmX7 1 rfl rfl 0 (by decide) qw_860 (fun _ h9 => h9) rfl rfl (by decide +kernel) (Nat.le_of_ble_eq_true rfl) [(h3, .inr (4, [.int 0, .ref (E.2.2 0), .int 0])), (h0, .inr (12, [.int 1, .ref h1, .ref h2, .ref h3, .ref h4, .ref h5, .int 1, .int 3, .int 50, .int (-1), .int (-1), .int (-1), .int (-1), .int 0, .int 100, .int 1000, .long 0]))] rfl dX7_doubt_22 (fun H locs hw => ?_)
      refine lv_aload_n hx hb dX7_doubt_25 rfl (lv_at hl 0 rfl) ?_
      refine rc_get (v := .int 1) hx hb hown hAm hw lyX7 1 rfl rfl 0 (by decide) qw_860 (fun _ h9 => h9) rfl dX7_doubt_26 ?_
      refine lv_if_le (tgt := 34) hx hb dX7_doubt_29 (by decide) (fun c9 => absurd c9 (by decide)) (fun _ => ?_)
      refine lv_dconst0 hx hb dX7_doubt_32 ?_
      exact rc_dret (v := FP.dconst0) hx hb hr hlocks hw [(h0, .inr (12, [.int 1, .ref h1, .ref h2, .ref h3, .ref h4, .ref h5, .int 1, .int 3, .int 50, .int (-1), .int (-1), .int (-1), .int (-1), .int 0, .int 100, .int 1000, .long 0])), (h3, .inr (4, [.int 0, .ref (E.2.2 0), .int 0]))] (Or.inr (Or.inr (Or.inl ⟨c_9, rfl, rfl, rfl⟩))) [1, 0] rfl (by decide) (Nat.le_of_ble_eq_true rfl) (Nat.le_of_ble_eq_true rfl) dX7_doubt_33
    · have hw : rc_W E A s [(h3, .inr (4, [.int 0, .ref (E.2.2 0), .int 0])), (h0, .inr (12, [.int 0, .ref h1, .ref h2, .ref h3, .ref h4, .ref h5, .int 1, .int 3, .int 50, .int (-1), .int (-1), .int (-1), .int (-1), .int 0, .int 100, .int 1000, .long 0]))] H locs := hw
      refine lv_if_eq (tgt := 21) hx hb dX7_doubt_14 (by decide) (fun _ => ?_) (fun c9 => absurd (by decide) c9)
      refine lv_iconst (v := 1) hx hb dX7_doubt_21 (by decide) ?_
      refine rc_put hx hb hown hAm hw lyX7 tyX7 tyX7_ok nmX7 1 rfl rfl 0 (by decide) qw_860 (fun _ h9 => h9) rfl rfl (by decide +kernel) (Nat.le_of_ble_eq_true rfl) [(h3, .inr (4, [.int 0, .ref (E.2.2 0), .int 0])), (h0, .inr (12, [.int 1, .ref h1, .ref h2, .ref h3, .ref h4, .ref h5, .int 1, .int 3, .int 50, .int (-1), .int (-1), .int (-1), .int (-1), .int 0, .int 100, .int 1000, .long 0]))] rfl dX7_doubt_22 (fun H locs hw => ?_)
      refine lv_aload_n hx hb dX7_doubt_25 rfl (lv_at hl 0 rfl) ?_
      refine rc_get (v := .int 1) hx hb hown hAm hw lyX7 1 rfl rfl 0 (by decide) qw_860 (fun _ h9 => h9) rfl dX7_doubt_26 ?_
      refine lv_if_le (tgt := 34) hx hb dX7_doubt_29 (by decide) (fun c9 => absurd c9 (by decide)) (fun _ => ?_)
      refine lv_dconst0 hx hb dX7_doubt_32 ?_
      exact rc_dret (v := FP.dconst0) hx hb hr hlocks hw [(h0, .inr (12, [.int 1, .ref h1, .ref h2, .ref h3, .ref h4, .ref h5, .int 1, .int 3, .int 50, .int (-1), .int (-1), .int (-1), .int (-1), .int 0, .int 100, .int 1000, .long 0])), (h3, .inr (4, [.int 0, .ref (E.2.2 0), .int 0]))] (Or.inr (Or.inr (Or.inr (Or.inl ⟨c_10, c_11, rfl, rfl, rfl⟩)))) [1, 0] rfl (by decide) (Nat.le_of_ble_eq_true rfl) (Nat.le_of_ble_eq_true rfl) dX7_doubt_33
    · obtain rfl : x1 = 0 := rc_eqc (b := 0) rfl (by have g_c_12 := rc_g5 (b := 0) c_12 rfl; omega)
      have hw : rc_W E A s [(h3, .inr (4, [.int 0, .ref (E.2.2 0), .int 0])), (h0, .inr (12, [.int 0, .ref h1, .ref h2, .ref h3, .ref h4, .ref h5, .int 1, .int 3, .int 50, .int (-1), .int (-1), .int (-1), .int (-1), .int 0, .int 100, .int 1000, .long 0]))] H locs := hw
      refine lv_if_eq (tgt := 21) hx hb dX7_doubt_14 (by decide) (fun c9 => absurd c9 (by decide)) (fun _ => ?_)
      refine lv_iconst (v := 0) hx hb dX7_doubt_17 (by decide) ?_
      refine lv_goto (tgt := 22) hx hb dX7_doubt_18 (by decide) ?_
      refine rc_put hx hb hown hAm hw lyX7 tyX7 tyX7_ok nmX7 1 rfl rfl 0 (by decide) qw_860 (fun _ h9 => h9) rfl rfl (by decide +kernel) (Nat.le_of_ble_eq_true rfl) [(h3, .inr (4, [.int 0, .ref (E.2.2 0), .int 0])), (h0, .inr (12, [.int 0, .ref h1, .ref h2, .ref h3, .ref h4, .ref h5, .int 1, .int 3, .int 50, .int (-1), .int (-1), .int (-1), .int (-1), .int 0, .int 100, .int 1000, .long 0]))] rfl dX7_doubt_22 (fun H locs hw => ?_)
      refine lv_aload_n hx hb dX7_doubt_25 rfl (lv_at hl 0 rfl) ?_
      refine rc_get (v := .int 0) hx hb hown hAm hw lyX7 1 rfl rfl 0 (by decide) qw_860 (fun _ h9 => h9) rfl dX7_doubt_26 ?_
      refine lv_if_le (tgt := 34) hx hb dX7_doubt_29 (by decide) (fun _ => ?_) (fun c9 => absurd (by decide) c9)
      refine lv_aload_n hx hb dX7_doubt_34 rfl (lv_at hl 0 rfl) ?_
      refine lv_iload_n hx hb dX7_doubt_35 rfl (lv_at hl 1 rfl) ?_
      refine rc_callr (wr := []) (va_runV (As := [.int 0]) (rest := []) (Ts := []) ⟨hx, hb, hml, hown, fun _ h9 => absurd h9 List.not_mem_nil⟩ (cw_X7_sample_ l E _ h0 h1 h2 h3 h4 h5) (rc_cwV hAm qw_967 qw_13 qw_970 qw_969 qs_54 rfl rfl hd_X7_sample_ ⟨Nat.le_of_ble_eq_true rfl, Nat.le_of_ble_eq_true rfl⟩) (rc_preV hAm hA hw [1, 0] rfl rfl 1 rfl (q := vwCl[12]) rfl) rfl rfl hl.1 rfl (lv_room (Nat.le_of_ble_eq_true rfl)) dX7_doubt_36 ⟨Nat.le_of_ble_eq_true rfl, Nat.le_of_ble_eq_true rfl⟩) hA hw [1, 0] [] rfl rfl rfl (by decide) (fun u_14 r_13 H locs hp hw => ?_)
      obtain ⟨q1, rfl, rfl⟩ := hp
      have hw : rc_W E A s [(h0, .inr (12, [.int 0, .ref h1, .ref h2, .ref h3, .ref h4, .ref h5, .int 1, .int 3, .int 50, .int (-1), .int (-1), .int (-1), .int (-1), .int 0, .int 100, .int 1000, .long 0])), (h3, .inr (4, [.int 0, .ref (E.2.2 0), .int 0])), (q1, .inl (E.2.1 0, 0, .inl (va_cpy (fun _ => 0) (fun _ => 0) 6 0 0)))] H locs := hw
      refine lv_aload_n hx hb dX7_doubt_39 rfl (lv_at hl 0 rfl) ?_
      refine lv_iload_n hx hb dX7_doubt_40 rfl (lv_at hl 2 rfl) ?_
      refine rc_callr (wr := [(q1, .inl (E.2.1 0, 0, .inl (va_cpy (fun _ => 0) (fun _ => 0) 6 0 0)))]) (va_runV (As := [.int 0]) (rest := [.ref q1]) (Ts := []) ⟨hx, hb, hml, hown, fun _ h9 => absurd h9 List.not_mem_nil⟩ (cw_X7_sample_ l E _ h0 h1 h2 h3 h4 h5) (rc_cwV hAm qw_967 qw_13 qw_970 qw_969 qs_54 rfl rfl hd_X7_sample_ ⟨Nat.le_of_ble_eq_true rfl, Nat.le_of_ble_eq_true rfl⟩) (rc_preV hAm hA hw [0, 1] rfl rfl 0 rfl (q := vwCl[12]) rfl) rfl rfl hl.1 rfl (lv_room (Nat.le_of_ble_eq_true rfl)) dX7_doubt_41 ⟨Nat.le_of_ble_eq_true rfl, Nat.le_of_ble_eq_true rfl⟩) hA hw [0, 1] [2] rfl rfl rfl (by decide) (fun u_16 r_15 H locs hp hw => ?_)
      obtain ⟨q2, rfl, rfl⟩ := hp
      have hw : rc_W E A s [(q1, .inl (E.2.1 0, 0, .inl (va_cpy (fun _ => 0) (fun _ => 0) 6 0 0))), (h0, .inr (12, [.int 0, .ref h1, .ref h2, .ref h3, .ref h4, .ref h5, .int 1, .int 3, .int 50, .int (-1), .int (-1), .int (-1), .int (-1), .int 0, .int 100, .int 1000, .long 0])), (h3, .inr (4, [.int 0, .ref (E.2.2 0), .int 0])), (q2, .inl (E.2.1 0, 0, .inl (va_cpy (fun _ => 0) (fun _ => 0) 6 0 0)))] H locs := hw
      refine rc_callr (wr := [(h0, .inr (12, [.int 0, .ref h1, .ref h2, .ref h3, .ref h4, .ref h5, .int 1, .int 3, .int 50, .int (-1), .int (-1), .int (-1), .int (-1), .int 0, .int 100, .int 1000, .long 0])), (h3, .inr (4, [.int 0, .ref (E.2.2 0), .int 0]))]) (va_runS (As := [.ref q1, .ref q2]) (rest := []) (Ts := []) ⟨hx, hb, hml, hown, fun _ h9 => absurd h9 List.not_mem_nil⟩ (cw_X7_reckoned l E _ q1 q2 (va_cpy (fun _ => 0) (fun _ => 0) 6 0 0)) (rc_cwS hAm qw_1231 qw_13 qw_1233 qw_1232 rfl rfl hd_X7_reckoned ⟨Nat.le_of_ble_eq_true rfl, Nat.le_of_ble_eq_true rfl⟩) (rc_preS hAm hA hw [0, 3] rfl rfl) rfl rfl hl.1 rfl (lv_room (Nat.le_of_ble_eq_true rfl)) dX7_doubt_44 ⟨Nat.le_of_ble_eq_true rfl, Nat.le_of_ble_eq_true rfl⟩) hA hw [0, 3] [1, 2] rfl rfl rfl (by decide) (fun u_18 r_17 H locs hp hw => ?_)
      obtain ⟨q3, rfl, rfl⟩ := hp
      have hw : rc_W E A s [(h0, .inr (12, [.int 0, .ref h1, .ref h2, .ref h3, .ref h4, .ref h5, .int 1, .int 3, .int 50, .int (-1), .int (-1), .int (-1), .int (-1), .int 0, .int 100, .int 1000, .long 0])), (h3, .inr (4, [.int 0, .ref (E.2.2 0), .int 0])), (q1, .inl (E.2.1 0, 0, .inl (va_cpy (fun _ => 0) (fun _ => 0) 6 0 0))), (q2, .inl (E.2.1 0, 0, .inl (va_cpy (fun _ => 0) (fun _ => 0) 6 0 0))), (q3, .inl (E.2.1 0, 4, .inl (upd (upd (upd (upd (upd (upd (upd (fun _ => 0) 0 0) 1 0) 2 0) 3 0) 1 1) 2 1) 3 1)))] H locs := hw
      refine lv_astore_n (lv' := [(3, .ref q3), (0, .ref h0), (1, .int 0), (2, .int 0)]) hx hb dX7_doubt_47 rfl hl (by decide) rfl (fun ls hl => ?_)
      refine lv_aload_n hx hb dX7_doubt_48 rfl (lv_at hl 0 rfl) ?_
      refine lv_iconst (v := 1) hx hb dX7_doubt_49 (by decide) ?_
      refine rc_iald hx hb hAm hw 4 rfl (vp_in_iff.mpr (by decide)) dX7_doubt_50 ?_
      refine rc_topi 1 rfl ?_
      refine lv_i2d hx hb dX7_doubt_51 ?_
      refine lv_aload_n hx hb dX7_doubt_52 rfl (lv_at hl 0 rfl) ?_
      refine lv_iconst (v := 3) hx hb dX7_doubt_53 (by decide) ?_
      refine rc_iald hx hb hAm hw 4 rfl (vp_in_iff.mpr (by decide)) dX7_doubt_54 ?_
      refine rc_topi 1 rfl ?_
      refine lv_i2d hx hb dX7_doubt_55 ?_
      refine lv_ddiv hx hb dX7_doubt_56 (by unfold vf_n64; decide +kernel) ?_
      exact rc_dret (v := FP.ddiv (FP.i2d 1) (FP.i2d 1)) hx hb hr hlocks hw [(h0, .inr (12, [.int 0, .ref h1, .ref h2, .ref h3, .ref h4, .ref h5, .int 1, .int 3, .int 50, .int (-1), .int (-1), .int (-1), .int (-1), .int 0, .int 100, .int 1000, .long 0])), (h3, .inr (4, [.int 0, .ref (E.2.2 0), .int 0]))] (Or.inr (Or.inr (Or.inr (Or.inr ⟨rfl, rfl, rfl, rfl⟩)))) [0, 1] rfl (by decide) (Nat.le_of_ble_eq_true rfl) (Nat.le_of_ble_eq_true rfl) dX7_doubt_57
set_option maxHeartbeats 4000000 in
set_option maxRecDepth 100000 in
theorem cw_X7_is_5 (l : Launch) (E : rc_E) (sz : Nat) (x0 : Int32) : rc_Mi l yX7_is [Cond.code yX7_is cX7_is 3 (some FieldType.boolean)] { frames := 0, cells := 0, slots := 0, locals := 0 } E [.int x0, .int 2, .int 6] [] sz (S := va_W) (fun (r : Int32) (u : va_W) => (x0 < 2 ∧ 0 = r ∧ u = []) ∨ (¬ x0 < 2 ∧ 6 < x0 ∧ 0 = r ∧ u = []) ∨ (¬ x0 < 2 ∧ ¬ 6 < x0 ∧ 1 = r ∧ u = [])) (fun u => u) 0 0 := by
  refine rc_ini (cc := cX7_is) (maxL := 3) (ret := (some FieldType.boolean)) (by decide) rfl (Nat.le_of_ble_eq_true rfl) ?_
  intro p e s m args below meth c ls A hx hb hr hml _ hown hlocks hin hA hAm hw hl
  have hown : s.vm.findClass RX7 = some m.cls := hown
  have hl : lv_has ls 3 [(0, .int x0), (1, .int 2), (2, .int 6)] := hl
  refine lv_iload_n hx hb dX7_is_0 rfl (lv_at hl 0 rfl) ?_
  refine lv_iload_n hx hb dX7_is_1 rfl (lv_at hl 1 rfl) ?_
  refine lv_icmp_lt (tgt := 14) hx hb dX7_is_2 (by decide) (fun c_1 => ?_) (fun c_1 => ?_)
  · refine lv_iconst (v := 0) hx hb dX7_is_14 (by decide) ?_
    exact rc_zret (v := 0) hx hb hr hlocks hw rfl [] (Or.inl ⟨c_1, rfl, rfl⟩) [] rfl (by decide) (Nat.le_of_ble_eq_true rfl) (Nat.le_of_ble_eq_true rfl) dX7_is_15
  · refine lv_iload_n hx hb dX7_is_5 rfl (lv_at hl 0 rfl) ?_
    refine lv_iload_n hx hb dX7_is_6 rfl (lv_at hl 2 rfl) ?_
    refine lv_icmp_gt (tgt := 14) hx hb dX7_is_7 (by decide) (fun c_2 => ?_) (fun c_2 => ?_)
    · refine lv_iconst (v := 0) hx hb dX7_is_14 (by decide) ?_
      exact rc_zret (v := 0) hx hb hr hlocks hw rfl [] (Or.inr (Or.inl ⟨c_1, c_2, rfl, rfl⟩)) [] rfl (by decide) (Nat.le_of_ble_eq_true rfl) (Nat.le_of_ble_eq_true rfl) dX7_is_15
    · refine lv_iconst (v := 1) hx hb dX7_is_10 (by decide) ?_
      refine lv_goto (tgt := 15) hx hb dX7_is_11 (by decide) ?_
      exact rc_zret (v := 1) hx hb hr hlocks hw rfl [] (Or.inr (Or.inr ⟨c_1, c_2, rfl, rfl⟩)) [] rfl (by decide) (Nat.le_of_ble_eq_true rfl) (Nat.le_of_ble_eq_true rfl) dX7_is_15
set_option maxHeartbeats 4000000 in
set_option maxRecDepth 100000 in
theorem cw_X7_is_6 (l : Launch) (E : rc_E) (sz : Nat) (x0 : Int32) : rc_Mi l yX7_is [Cond.code yX7_is cX7_is 3 (some FieldType.boolean)] { frames := 0, cells := 0, slots := 0, locals := 0 } E [.int x0, .int 1, .int 200] [] sz (S := va_W) (fun (r : Int32) (u : va_W) => (x0 < 1 ∧ 0 = r ∧ u = []) ∨ (¬ x0 < 1 ∧ 200 < x0 ∧ 0 = r ∧ u = []) ∨ (¬ x0 < 1 ∧ ¬ 200 < x0 ∧ 1 = r ∧ u = [])) (fun u => u) 0 0 := by
  refine rc_ini (cc := cX7_is) (maxL := 3) (ret := (some FieldType.boolean)) (by decide) rfl (Nat.le_of_ble_eq_true rfl) ?_
  intro p e s m args below meth c ls A hx hb hr hml _ hown hlocks hin hA hAm hw hl
  have hown : s.vm.findClass RX7 = some m.cls := hown
  have hl : lv_has ls 3 [(0, .int x0), (1, .int 1), (2, .int 200)] := hl
  refine lv_iload_n hx hb dX7_is_0 rfl (lv_at hl 0 rfl) ?_
  refine lv_iload_n hx hb dX7_is_1 rfl (lv_at hl 1 rfl) ?_
  refine lv_icmp_lt (tgt := 14) hx hb dX7_is_2 (by decide) (fun c_1 => ?_) (fun c_1 => ?_)
  · refine lv_iconst (v := 0) hx hb dX7_is_14 (by decide) ?_
    exact rc_zret (v := 0) hx hb hr hlocks hw rfl [] (Or.inl ⟨c_1, rfl, rfl⟩) [] rfl (by decide) (Nat.le_of_ble_eq_true rfl) (Nat.le_of_ble_eq_true rfl) dX7_is_15
  · refine lv_iload_n hx hb dX7_is_5 rfl (lv_at hl 0 rfl) ?_
    refine lv_iload_n hx hb dX7_is_6 rfl (lv_at hl 2 rfl) ?_
    refine lv_icmp_gt (tgt := 14) hx hb dX7_is_7 (by decide) (fun c_2 => ?_) (fun c_2 => ?_)
    · refine lv_iconst (v := 0) hx hb dX7_is_14 (by decide) ?_
      exact rc_zret (v := 0) hx hb hr hlocks hw rfl [] (Or.inr (Or.inl ⟨c_1, c_2, rfl, rfl⟩)) [] rfl (by decide) (Nat.le_of_ble_eq_true rfl) (Nat.le_of_ble_eq_true rfl) dX7_is_15
    · refine lv_iconst (v := 1) hx hb dX7_is_10 (by decide) ?_
      refine lv_goto (tgt := 15) hx hb dX7_is_11 (by decide) ?_
      exact rc_zret (v := 1) hx hb hr hlocks hw rfl [] (Or.inr (Or.inr ⟨c_1, c_2, rfl, rfl⟩)) [] rfl (by decide) (Nat.le_of_ble_eq_true rfl) (Nat.le_of_ble_eq_true rfl) dX7_is_15
set_option maxHeartbeats 4000000 in
set_option maxRecDepth 100000 in
theorem cw_X7_goOn (l : Launch) (E : rc_E) (sz : Nat) (h0 : Nat) (h1 : Nat) (h2 : Nat) (h3 : Nat) (h4 : Nat) (h5 : Nat) (x0 : Int32) (x1 : Int32) : rc_Mv l yX7_goOn [Cond.code yX7_goOn cX7_goOn 3 (none : Option FieldType)] { frames := 0, cells := 0, slots := 0, locals := 0 } E [.ref h0] [(h0, .inr (12, [.int 0, .ref h1, .ref h2, .ref h3, .ref h4, .ref h5, .int 1, .int x0, .int x1, .int (-1), .int (-1), .int (-1), .int (-1), .int 0, .int 100, .int 1000, .long 0]))] sz (S := va_W) (fun (u : va_W) => (u = [(h0, .inr (12, [.int 0, .ref h1, .ref h2, .ref h3, .ref h4, .ref h5, .int 1, .int x0, .int x1, .int (-1), .int (-1), .int (-1), .int (-1), .int 0, .int 100, .int 1000, .long 0]))])) (fun u => u) 0 0 := by
  refine rc_inv (cc := cX7_goOn) (maxL := 3) (ret := (none : Option FieldType)) (by decide) rfl (Nat.le_of_ble_eq_true rfl) ?_
  intro p e s m args below meth c ls A hx hb hr hml _ hown hlocks hin hA hAm hw hl
  have hown : s.vm.findClass RX7 = some m.cls := hown
  have hl : lv_has ls 3 [(0, .ref h0)] := hl
  refine lv_aload_n hx hb dX7_goOn_0 rfl (lv_at hl 0 rfl) ?_
  refine rc_get (v := .int (-1)) hx hb hown hAm hw lyX7 0 rfl rfl 9 (by decide) qw_869 (fun _ h9 => h9) rfl dX7_goOn_1 ?_
  refine lv_iconst (v := (-1)) hx hb dX7_goOn_4 (by decide) ?_
  refine lv_icmp_eq (tgt := 144) hx hb dX7_goOn_5 (by decide) (fun _ => ?_) (fun c9 => absurd (by decide) c9)
  exact rc_vret hx hb hr hlocks hw [(h0, .inr (12, [.int 0, .ref h1, .ref h2, .ref h3, .ref h4, .ref h5, .int 1, .int x0, .int x1, .int (-1), .int (-1), .int (-1), .int (-1), .int 0, .int 100, .int 1000, .long 0]))] (rfl) [0] rfl (by decide) (Nat.le_of_ble_eq_true rfl) (Nat.le_of_ble_eq_true rfl) dX7_goOn_144
theorem hd_X7_goOn : yX7_goOn.cls ≠ "java/lang/invoke/MethodHandle" ∧ yX7_goOn.cls ≠ "java/lang/invoke/VarHandle" ∧ (parseMethodDescriptor yX7_goOn.desc).map (fun d => d.parameters.length) = some 0 := by decide +kernel
set_option maxHeartbeats 4000000 in
set_option maxRecDepth 100000 in
theorem cw_X7_rule (l : Launch) (E : rc_E) (sz : Nat) (h0 : Nat) (x0 : Int32) (x1 : Int32) (h1 : Nat) (h2 : Nat) (h3 : Nat) (h4 : Nat) (h5 : Nat) : rc_Mi l yX7_rule [Cond.code yX7_rule cX7_rule 4 (some FieldType.int)] { frames := 1, cells := 0, slots := 0, locals := 22 } E [.ref h0, .int x0, .int x1] [(h0, .inr (12, [.int 0, .ref h1, .ref h2, .ref h3, .ref h4, .ref h5, .int 1, .int 3, .int 50, .int (-1), .int (-1), .int (-1), .int (-1), .int 0, .int 100, .int 1000, .long 0]))] sz (S := va_W) (fun (r : Int32) (u : va_W) => (x0 < 2 ∧ 0 = r ∧ u = [(h0, .inr (12, [.int 1, .ref h1, .ref h2, .ref h3, .ref h4, .ref h5, .int 1, .int 3, .int 50, .int (-1), .int (-1), .int (-1), .int (-1), .int 0, .int 100, .int 1000, .long 0]))]) ∨ (¬ x0 < 2 ∧ 6 < x0 ∧ 0 = r ∧ u = [(h0, .inr (12, [.int 1, .ref h1, .ref h2, .ref h3, .ref h4, .ref h5, .int 1, .int 3, .int 50, .int (-1), .int (-1), .int (-1), .int (-1), .int 0, .int 100, .int 1000, .long 0]))]) ∨ (¬ x0 < 2 ∧ ¬ 6 < x0 ∧ x1 < 1 ∧ 0 = r ∧ u = [(h0, .inr (12, [.int 1, .ref h1, .ref h2, .ref h3, .ref h4, .ref h5, .int 1, .int 3, .int 50, .int (-1), .int (-1), .int (-1), .int (-1), .int 0, .int 100, .int 1000, .long 0]))]) ∨ (¬ x0 < 2 ∧ ¬ 6 < x0 ∧ ¬ x1 < 1 ∧ 200 < x1 ∧ 0 = r ∧ u = [(h0, .inr (12, [.int 1, .ref h1, .ref h2, .ref h3, .ref h4, .ref h5, .int 1, .int 3, .int 50, .int (-1), .int (-1), .int (-1), .int (-1), .int 0, .int 100, .int 1000, .long 0]))]) ∨ (¬ x0 < 2 ∧ ¬ 6 < x0 ∧ ¬ x1 < 1 ∧ ¬ 200 < x1 ∧ 50 = r ∧ u = [(h0, .inr (12, [.int 0, .ref h1, .ref h2, .ref h3, .ref h4, .ref h5, .int 1, .int x0, .int x1, .int (-1), .int (-1), .int (-1), .int (-1), .int 0, .int 100, .int 1000, .long 0]))])) (fun u => u) 0 0 := by
  refine rc_ini (cc := cX7_rule) (maxL := 4) (ret := (some FieldType.int)) (by decide) rfl (Nat.le_of_ble_eq_true rfl) ?_
  intro p e s m args below meth c ls A hx hb hr hml _ hown hlocks hin hA hAm hw hl
  have hown : s.vm.findClass RX7 = some m.cls := hown
  have hl : lv_has ls 4 [(0, .ref h0), (1, .int x0), (2, .int x1)] := hl
  refine lv_aload_n hx hb dX7_rule_0 rfl (lv_at hl 0 rfl) ?_
  refine lv_iconst (v := 0) hx hb dX7_rule_1 (by decide) ?_
  refine rc_put hx hb hown hAm hw lyX7 tyX7 tyX7_ok nmX7 0 rfl rfl 0 (by decide) qw_860 (fun _ h9 => h9) rfl rfl (by decide +kernel) (Nat.le_of_ble_eq_true rfl) [(h0, .inr (12, [.int 0, .ref h1, .ref h2, .ref h3, .ref h4, .ref h5, .int 1, .int 3, .int 50, .int (-1), .int (-1), .int (-1), .int (-1), .int 0, .int 100, .int 1000, .long 0]))] rfl dX7_rule_2 (fun H locs hw => ?_)
  refine lv_iload_n hx hb dX7_rule_5 rfl (lv_at hl 1 rfl) ?_
  refine lv_iconst (v := 2) hx hb dX7_rule_6 (by decide) ?_
  refine lv_bipush (v := 6) hx hb dX7_rule_7 (by decide) ?_
  refine rc_calli (wr := [(h0, .inr (12, [.int 0, .ref h1, .ref h2, .ref h3, .ref h4, .ref h5, .int 1, .int 3, .int 50, .int (-1), .int (-1), .int (-1), .int (-1), .int 0, .int 100, .int 1000, .long 0]))]) (va_runS (As := [.int x0, .int 2, .int 6]) (rest := []) (Ts := []) ⟨hx, hb, hml, hown, fun _ h9 => absurd h9 List.not_mem_nil⟩ (cw_X7_is_5 l E _ x0) (rc_cwS hAm qw_921 qw_13 qw_923 qw_922 rfl rfl hd_X7_is ⟨Nat.le_of_ble_eq_true rfl, Nat.le_of_ble_eq_true rfl⟩) (rc_preS hAm hA hw [] rfl rfl) rfl rfl hl.1 rfl (lv_room (Nat.le_of_ble_eq_true rfl)) dX7_rule_9 ⟨Nat.le_of_ble_eq_true rfl, Nat.le_of_ble_eq_true rfl⟩) hA hw [] [0] rfl rfl rfl (by decide) (fun r_1 u_2 H locs hp hw => ?_)
  rcases hp with ⟨c_3, rfl, rfl⟩ | ⟨c_4, c_5, rfl, rfl⟩ | ⟨c_6, c_7, rfl, rfl⟩
  · have hw : rc_W E A s [(h0, .inr (12, [.int 0, .ref h1, .ref h2, .ref h3, .ref h4, .ref h5, .int 1, .int 3, .int 50, .int (-1), .int (-1), .int (-1), .int (-1), .int 0, .int 100, .int 1000, .long 0]))] H locs := hw
    refine lv_if_eq (tgt := 26) hx hb dX7_rule_12 (by decide) (fun _ => ?_) (fun c9 => absurd (by decide) c9)
    refine lv_aload_n hx hb dX7_rule_26 rfl (lv_at hl 0 rfl) ?_
    refine lv_iconst (v := 1) hx hb dX7_rule_27 (by decide) ?_
    refine rc_calli (wr := []) (va_runV (As := [.int 1]) (rest := []) (Ts := []) ⟨hx, hb, hml, hown, fun _ h9 => absurd h9 List.not_mem_nil⟩ (cw_X7_refuse l E _ h0 h1 h2 h3 h4 h5) (rc_cwV hAm qw_924 qw_13 qw_927 qw_926 qs_50 rfl rfl hd_X7_refuse ⟨Nat.le_of_ble_eq_true rfl, Nat.le_of_ble_eq_true rfl⟩) (rc_preV hAm hA hw [0] rfl rfl 0 rfl (q := vwCl[12]) rfl) rfl rfl hl.1 rfl (lv_room (Nat.le_of_ble_eq_true rfl)) dX7_rule_28 ⟨Nat.le_of_ble_eq_true rfl, Nat.le_of_ble_eq_true rfl⟩) hA hw [0] [] rfl rfl rfl (by decide) (fun r_8 u_9 H locs hp hw => ?_)
    obtain ⟨rfl, rfl⟩ := hp
    have hw : rc_W E A s [(h0, .inr (12, [.int 1, .ref h1, .ref h2, .ref h3, .ref h4, .ref h5, .int 1, .int 3, .int 50, .int (-1), .int (-1), .int (-1), .int (-1), .int 0, .int 100, .int 1000, .long 0]))] H locs := hw
    exact rc_iret (v := 0) hx hb hr hlocks hw [(h0, .inr (12, [.int 1, .ref h1, .ref h2, .ref h3, .ref h4, .ref h5, .int 1, .int 3, .int 50, .int (-1), .int (-1), .int (-1), .int (-1), .int 0, .int 100, .int 1000, .long 0]))] (Or.inl ⟨c_3, rfl, rfl⟩) [0] rfl (by decide) (Nat.le_of_ble_eq_true rfl) (Nat.le_of_ble_eq_true rfl) dX7_rule_31
  · have hw : rc_W E A s [(h0, .inr (12, [.int 0, .ref h1, .ref h2, .ref h3, .ref h4, .ref h5, .int 1, .int 3, .int 50, .int (-1), .int (-1), .int (-1), .int (-1), .int 0, .int 100, .int 1000, .long 0]))] H locs := hw
    refine lv_if_eq (tgt := 26) hx hb dX7_rule_12 (by decide) (fun _ => ?_) (fun c9 => absurd (by decide) c9)
    refine lv_aload_n hx hb dX7_rule_26 rfl (lv_at hl 0 rfl) ?_
    refine lv_iconst (v := 1) hx hb dX7_rule_27 (by decide) ?_
    refine rc_calli (wr := []) (va_runV (As := [.int 1]) (rest := []) (Ts := []) ⟨hx, hb, hml, hown, fun _ h9 => absurd h9 List.not_mem_nil⟩ (cw_X7_refuse l E _ h0 h1 h2 h3 h4 h5) (rc_cwV hAm qw_924 qw_13 qw_927 qw_926 qs_50 rfl rfl hd_X7_refuse ⟨Nat.le_of_ble_eq_true rfl, Nat.le_of_ble_eq_true rfl⟩) (rc_preV hAm hA hw [0] rfl rfl 0 rfl (q := vwCl[12]) rfl) rfl rfl hl.1 rfl (lv_room (Nat.le_of_ble_eq_true rfl)) dX7_rule_28 ⟨Nat.le_of_ble_eq_true rfl, Nat.le_of_ble_eq_true rfl⟩) hA hw [0] [] rfl rfl rfl (by decide) (fun r_10 u_11 H locs hp hw => ?_)
    obtain ⟨rfl, rfl⟩ := hp
    have hw : rc_W E A s [(h0, .inr (12, [.int 1, .ref h1, .ref h2, .ref h3, .ref h4, .ref h5, .int 1, .int 3, .int 50, .int (-1), .int (-1), .int (-1), .int (-1), .int 0, .int 100, .int 1000, .long 0]))] H locs := hw
    exact rc_iret (v := 0) hx hb hr hlocks hw [(h0, .inr (12, [.int 1, .ref h1, .ref h2, .ref h3, .ref h4, .ref h5, .int 1, .int 3, .int 50, .int (-1), .int (-1), .int (-1), .int (-1), .int 0, .int 100, .int 1000, .long 0]))] (Or.inr (Or.inl ⟨c_4, c_5, rfl, rfl⟩)) [0] rfl (by decide) (Nat.le_of_ble_eq_true rfl) (Nat.le_of_ble_eq_true rfl) dX7_rule_31
  · have hw : rc_W E A s [(h0, .inr (12, [.int 0, .ref h1, .ref h2, .ref h3, .ref h4, .ref h5, .int 1, .int 3, .int 50, .int (-1), .int (-1), .int (-1), .int (-1), .int 0, .int 100, .int 1000, .long 0]))] H locs := hw
    refine lv_if_eq (tgt := 26) hx hb dX7_rule_12 (by decide) (fun c9 => absurd c9 (by decide)) (fun _ => ?_)
    refine lv_iload_n hx hb dX7_rule_15 rfl (lv_at hl 2 rfl) ?_
    refine lv_iconst (v := 1) hx hb dX7_rule_16 (by decide) ?_
    refine lv_sipush (v := 200) hx hb dX7_rule_17 (by decide) ?_
    refine rc_calli (wr := [(h0, .inr (12, [.int 0, .ref h1, .ref h2, .ref h3, .ref h4, .ref h5, .int 1, .int 3, .int 50, .int (-1), .int (-1), .int (-1), .int (-1), .int 0, .int 100, .int 1000, .long 0]))]) (va_runS (As := [.int x1, .int 1, .int 200]) (rest := []) (Ts := []) ⟨hx, hb, hml, hown, fun _ h9 => absurd h9 List.not_mem_nil⟩ (cw_X7_is_6 l E _ x1) (rc_cwS hAm qw_921 qw_13 qw_923 qw_922 rfl rfl hd_X7_is ⟨Nat.le_of_ble_eq_true rfl, Nat.le_of_ble_eq_true rfl⟩) (rc_preS hAm hA hw [] rfl rfl) rfl rfl hl.1 rfl (lv_room (Nat.le_of_ble_eq_true rfl)) dX7_rule_20 ⟨Nat.le_of_ble_eq_true rfl, Nat.le_of_ble_eq_true rfl⟩) hA hw [] [0] rfl rfl rfl (by decide) (fun r_12 u_13 H locs hp hw => ?_)
    rcases hp with ⟨c_14, rfl, rfl⟩ | ⟨c_15, c_16, rfl, rfl⟩ | ⟨c_17, c_18, rfl, rfl⟩
    · have hw : rc_W E A s [(h0, .inr (12, [.int 0, .ref h1, .ref h2, .ref h3, .ref h4, .ref h5, .int 1, .int 3, .int 50, .int (-1), .int (-1), .int (-1), .int (-1), .int 0, .int 100, .int 1000, .long 0]))] H locs := hw
      refine lv_if_ne (tgt := 32) hx hb dX7_rule_23 (by decide) (fun c9 => absurd (by decide) c9) (fun _ => ?_)
      refine lv_aload_n hx hb dX7_rule_26 rfl (lv_at hl 0 rfl) ?_
      refine lv_iconst (v := 1) hx hb dX7_rule_27 (by decide) ?_
      refine rc_calli (wr := []) (va_runV (As := [.int 1]) (rest := []) (Ts := []) ⟨hx, hb, hml, hown, fun _ h9 => absurd h9 List.not_mem_nil⟩ (cw_X7_refuse l E _ h0 h1 h2 h3 h4 h5) (rc_cwV hAm qw_924 qw_13 qw_927 qw_926 qs_50 rfl rfl hd_X7_refuse ⟨Nat.le_of_ble_eq_true rfl, Nat.le_of_ble_eq_true rfl⟩) (rc_preV hAm hA hw [0] rfl rfl 0 rfl (q := vwCl[12]) rfl) rfl rfl hl.1 rfl (lv_room (Nat.le_of_ble_eq_true rfl)) dX7_rule_28 ⟨Nat.le_of_ble_eq_true rfl, Nat.le_of_ble_eq_true rfl⟩) hA hw [0] [] rfl rfl rfl (by decide) (fun r_19 u_20 H locs hp hw => ?_)
      obtain ⟨rfl, rfl⟩ := hp
      have hw : rc_W E A s [(h0, .inr (12, [.int 1, .ref h1, .ref h2, .ref h3, .ref h4, .ref h5, .int 1, .int 3, .int 50, .int (-1), .int (-1), .int (-1), .int (-1), .int 0, .int 100, .int 1000, .long 0]))] H locs := hw
      exact rc_iret (v := 0) hx hb hr hlocks hw [(h0, .inr (12, [.int 1, .ref h1, .ref h2, .ref h3, .ref h4, .ref h5, .int 1, .int 3, .int 50, .int (-1), .int (-1), .int (-1), .int (-1), .int 0, .int 100, .int 1000, .long 0]))] (Or.inr (Or.inr (Or.inl ⟨c_6, c_7, c_14, rfl, rfl⟩))) [0] rfl (by decide) (Nat.le_of_ble_eq_true rfl) (Nat.le_of_ble_eq_true rfl) dX7_rule_31
    · have hw : rc_W E A s [(h0, .inr (12, [.int 0, .ref h1, .ref h2, .ref h3, .ref h4, .ref h5, .int 1, .int 3, .int 50, .int (-1), .int (-1), .int (-1), .int (-1), .int 0, .int 100, .int 1000, .long 0]))] H locs := hw
      refine lv_if_ne (tgt := 32) hx hb dX7_rule_23 (by decide) (fun c9 => absurd (by decide) c9) (fun _ => ?_)
      refine lv_aload_n hx hb dX7_rule_26 rfl (lv_at hl 0 rfl) ?_
      refine lv_iconst (v := 1) hx hb dX7_rule_27 (by decide) ?_
      refine rc_calli (wr := []) (va_runV (As := [.int 1]) (rest := []) (Ts := []) ⟨hx, hb, hml, hown, fun _ h9 => absurd h9 List.not_mem_nil⟩ (cw_X7_refuse l E _ h0 h1 h2 h3 h4 h5) (rc_cwV hAm qw_924 qw_13 qw_927 qw_926 qs_50 rfl rfl hd_X7_refuse ⟨Nat.le_of_ble_eq_true rfl, Nat.le_of_ble_eq_true rfl⟩) (rc_preV hAm hA hw [0] rfl rfl 0 rfl (q := vwCl[12]) rfl) rfl rfl hl.1 rfl (lv_room (Nat.le_of_ble_eq_true rfl)) dX7_rule_28 ⟨Nat.le_of_ble_eq_true rfl, Nat.le_of_ble_eq_true rfl⟩) hA hw [0] [] rfl rfl rfl (by decide) (fun r_21 u_22 H locs hp hw => ?_)
      obtain ⟨rfl, rfl⟩ := hp
      have hw : rc_W E A s [(h0, .inr (12, [.int 1, .ref h1, .ref h2, .ref h3, .ref h4, .ref h5, .int 1, .int 3, .int 50, .int (-1), .int (-1), .int (-1), .int (-1), .int 0, .int 100, .int 1000, .long 0]))] H locs := hw
      exact rc_iret (v := 0) hx hb hr hlocks hw [(h0, .inr (12, [.int 1, .ref h1, .ref h2, .ref h3, .ref h4, .ref h5, .int 1, .int 3, .int 50, .int (-1), .int (-1), .int (-1), .int (-1), .int 0, .int 100, .int 1000, .long 0]))] (Or.inr (Or.inr (Or.inr (Or.inl ⟨c_6, c_7, c_15, c_16, rfl, rfl⟩)))) [0] rfl (by decide) (Nat.le_of_ble_eq_true rfl) (Nat.le_of_ble_eq_true rfl) dX7_rule_31
    · have hw : rc_W E A s [(h0, .inr (12, [.int 0, .ref h1, .ref h2, .ref h3, .ref h4, .ref h5, .int 1, .int 3, .int 50, .int (-1), .int (-1), .int (-1), .int (-1), .int 0, .int 100, .int 1000, .long 0]))] H locs := hw
      refine lv_if_ne (tgt := 32) hx hb dX7_rule_23 (by decide) (fun _ => ?_) (fun c9 => absurd c9 (by decide))
      refine lv_aload_n hx hb dX7_rule_32 rfl (lv_at hl 0 rfl) ?_
      refine rc_get (v := .int 50) hx hb hown hAm hw lyX7 0 rfl rfl 8 (by decide) qw_868 (fun _ h9 => h9) rfl dX7_rule_33 ?_
      refine lv_istore_n (lv' := [(3, .int 50), (0, .ref h0), (1, .int x0), (2, .int x1)]) hx hb dX7_rule_36 rfl hl (by decide) rfl (fun ls hl => ?_)
      refine lv_aload_n hx hb dX7_rule_37 rfl (lv_at hl 1 rfl) ?_
      refine lv_iload_n hx hb dX7_rule_38 rfl (lv_at hl 2 rfl) ?_
      refine rc_put hx hb hown hAm hw lyX7 tyX7 tyX7_ok nmX7 0 rfl rfl 7 (by decide) qw_867 (fun _ h9 => h9) rfl rfl rfl (Nat.le_of_ble_eq_true rfl) [(h0, .inr (12, [.int 0, .ref h1, .ref h2, .ref h3, .ref h4, .ref h5, .int 1, .int x0, .int 50, .int (-1), .int (-1), .int (-1), .int (-1), .int 0, .int 100, .int 1000, .long 0]))] rfl dX7_rule_39 (fun H locs hw => ?_)
      refine lv_aload_n hx hb dX7_rule_42 rfl (lv_at hl 1 rfl) ?_
      refine lv_iload_n hx hb dX7_rule_43 rfl (lv_at hl 3 rfl) ?_
      refine rc_put hx hb hown hAm hw lyX7 tyX7 tyX7_ok nmX7 0 rfl rfl 8 (by decide) qw_868 (fun _ h9 => h9) rfl rfl rfl (Nat.le_of_ble_eq_true rfl) [(h0, .inr (12, [.int 0, .ref h1, .ref h2, .ref h3, .ref h4, .ref h5, .int 1, .int x0, .int x1, .int (-1), .int (-1), .int (-1), .int (-1), .int 0, .int 100, .int 1000, .long 0]))] rfl dX7_rule_44 (fun H locs hw => ?_)
      refine lv_aload_n hx hb dX7_rule_47 rfl (lv_at hl 1 rfl) ?_
      refine rc_callv (wr := []) (va_runV (As := []) (rest := []) (Ts := []) ⟨hx, hb, hml, hown, fun _ h9 => absurd h9 List.not_mem_nil⟩ (cw_X7_goOn l E _ h0 h1 h2 h3 h4 h5 x0 x1) (rc_cwV hAm qw_959 qw_13 qw_962 qw_961 qs_52 rfl rfl hd_X7_goOn ⟨Nat.le_of_ble_eq_true rfl, Nat.le_of_ble_eq_true rfl⟩) (rc_preV hAm hA hw [0] rfl rfl 0 rfl (q := vwCl[12]) rfl) rfl rfl hl.1 rfl (lv_room (Nat.le_of_ble_eq_true rfl)) dX7_rule_48 ⟨Nat.le_of_ble_eq_true rfl, Nat.le_of_ble_eq_true rfl⟩) hA hw [0] [] rfl rfl rfl (by decide) (fun u_24 H locs hp hw => ?_)
      obtain ⟨rfl⟩ := hp
      have hw : rc_W E A s [(h0, .inr (12, [.int 0, .ref h1, .ref h2, .ref h3, .ref h4, .ref h5, .int 1, .int x0, .int x1, .int (-1), .int (-1), .int (-1), .int (-1), .int 0, .int 100, .int 1000, .long 0]))] H locs := hw
      refine lv_iload_n hx hb dX7_rule_51 rfl (lv_at hl 0 rfl) ?_
      exact rc_iret (v := 50) hx hb hr hlocks hw [(h0, .inr (12, [.int 0, .ref h1, .ref h2, .ref h3, .ref h4, .ref h5, .int 1, .int x0, .int x1, .int (-1), .int (-1), .int (-1), .int (-1), .int 0, .int 100, .int 1000, .long 0]))] (Or.inr (Or.inr (Or.inr (Or.inr ⟨c_6, c_7, c_17, c_18, rfl, rfl⟩)))) [0] rfl (by decide) (Nat.le_of_ble_eq_true rfl) (Nat.le_of_ble_eq_true rfl) dX7_rule_52
set_option maxHeartbeats 4000000 in
set_option maxRecDepth 100000 in
theorem cw_X7_begin (l : Launch) (E : rc_E) (sz : Nat) (h0 : Nat) (x0 : Int32) (x1 : Int32) (h1 : Nat) (h2 : Nat) (h3 : Nat) (h4 : Nat) (h5 : Nat) : rc_Mi l yX7_begin [Cond.code yX7_begin cX7_begin 3 (some FieldType.int)] { frames := 2, cells := 0, slots := 0, locals := 43 } E [.ref h0, .int x0, .int x1] [(h0, .inr (12, [.int 0, .ref h1, .ref h2, .ref h3, .ref h4, .ref h5, .int 1, .int 3, .int 50, .int (-1), .int (-1), .int (-1), .int (-1), .int 0, .int 100, .int 1000, .long 0]))] sz (S := va_W) (fun (r : Int32) (u : va_W) => (x0 < 0 ∧ 0 = r ∧ u = [(h0, .inr (12, [.int 1, .ref h1, .ref h2, .ref h3, .ref h4, .ref h5, .int 1, .int 3, .int 50, .int (-1), .int (-1), .int (-1), .int (-1), .int 0, .int 100, .int 1000, .long 0]))]) ∨ (¬ x0 < 0 ∧ 0 < x0 ∧ 0 = r ∧ u = [(h0, .inr (12, [.int 1, .ref h1, .ref h2, .ref h3, .ref h4, .ref h5, .int 1, .int 3, .int 50, .int (-1), .int (-1), .int (-1), .int (-1), .int 0, .int 100, .int 1000, .long 0]))]) ∨ (x1 < 0 ∧ x0 = 0 ∧ 0 = r ∧ u = [(h0, .inr (12, [.int 1, .ref h1, .ref h2, .ref h3, .ref h4, .ref h5, .int 1, .int 3, .int 50, .int (-1), .int (-1), .int (-1), .int (-1), .int 0, .int 100, .int 1000, .long 0]))]) ∨ (¬ x1 < 0 ∧ 0 < x1 ∧ x0 = 0 ∧ 0 = r ∧ u = [(h0, .inr (12, [.int 1, .ref h1, .ref h2, .ref h3, .ref h4, .ref h5, .int 1, .int 3, .int 50, .int (-1), .int (-1), .int (-1), .int (-1), .int 0, .int 100, .int 1000, .long 0]))]) ∨ (x0 = 0 ∧ x1 = 0 ∧ 0 = r ∧ u = [(h0, .inr (12, [.int 2, .ref h1, .ref h2, .ref h3, .ref h4, .ref h5, .int 1, .int 3, .int 50, .int (-1), .int (-1), .int (-1), .int (-1), .int 0, .int 100, .int 1000, .long 0]))])) (fun u => u) 0 0 := by
  refine rc_ini (cc := cX7_begin) (maxL := 3) (ret := (some FieldType.int)) (by decide) rfl (Nat.le_of_ble_eq_true rfl) ?_
  intro p e s m args below meth c ls A hx hb hr hml _ hown hlocks hin hA hAm hw hl
  have hown : s.vm.findClass RX7 = some m.cls := hown
  have hl : lv_has ls 3 [(0, .ref h0), (1, .int x0), (2, .int x1)] := hl
  refine lv_aload_n hx hb dX7_begin_0 rfl (lv_at hl 0 rfl) ?_
  refine lv_iconst (v := 0) hx hb dX7_begin_1 (by decide) ?_
  refine rc_put hx hb hown hAm hw lyX7 tyX7 tyX7_ok nmX7 0 rfl rfl 0 (by decide) qw_860 (fun _ h9 => h9) rfl rfl (by decide +kernel) (Nat.le_of_ble_eq_true rfl) [(h0, .inr (12, [.int 0, .ref h1, .ref h2, .ref h3, .ref h4, .ref h5, .int 1, .int 3, .int 50, .int (-1), .int (-1), .int (-1), .int (-1), .int 0, .int 100, .int 1000, .long 0]))] rfl dX7_begin_2 (fun H locs hw => ?_)
  refine lv_aload_n hx hb dX7_begin_5 rfl (lv_at hl 0 rfl) ?_
  refine lv_iload_n hx hb dX7_begin_6 rfl (lv_at hl 1 rfl) ?_
  refine rc_calli (wr := []) (va_runV (As := [.int x0]) (rest := []) (Ts := []) ⟨hx, hb, hml, hown, fun _ h9 => absurd h9 List.not_mem_nil⟩ (cw_X7_isChange l E _ h0 x0 h1 h2 h3 h4 h5) (rc_cwV hAm qw_1353 qw_13 qw_1356 qw_1355 qs_62 rfl rfl hd_X7_isChange ⟨Nat.le_of_ble_eq_true rfl, Nat.le_of_ble_eq_true rfl⟩) (rc_preV hAm hA hw [0] rfl rfl 0 rfl (q := vwCl[12]) rfl) rfl rfl hl.1 rfl (lv_room (Nat.le_of_ble_eq_true rfl)) dX7_begin_7 ⟨Nat.le_of_ble_eq_true rfl, Nat.le_of_ble_eq_true rfl⟩) hA hw [0] [] rfl rfl rfl (by decide) (fun r_1 u_2 H locs hp hw => ?_)
  rcases hp with ⟨c_3, rfl, rfl⟩ | ⟨c_4, c_5, rfl, rfl⟩ | ⟨c_6, rfl, rfl⟩
  · have hw : rc_W E A s [(h0, .inr (12, [.int 0, .ref h1, .ref h2, .ref h3, .ref h4, .ref h5, .int 1, .int 3, .int 50, .int (-1), .int (-1), .int (-1), .int (-1), .int 0, .int 100, .int 1000, .long 0]))] H locs := hw
    refine lv_if_eq (tgt := 21) hx hb dX7_begin_10 (by decide) (fun _ => ?_) (fun c9 => absurd (by decide) c9)
    refine lv_aload_n hx hb dX7_begin_21 rfl (lv_at hl 0 rfl) ?_
    refine lv_iconst (v := 1) hx hb dX7_begin_22 (by decide) ?_
    refine rc_calli (wr := []) (va_runV (As := [.int 1]) (rest := []) (Ts := []) ⟨hx, hb, hml, hown, fun _ h9 => absurd h9 List.not_mem_nil⟩ (cw_X7_refuse l E _ h0 h1 h2 h3 h4 h5) (rc_cwV hAm qw_924 qw_13 qw_927 qw_926 qs_50 rfl rfl hd_X7_refuse ⟨Nat.le_of_ble_eq_true rfl, Nat.le_of_ble_eq_true rfl⟩) (rc_preV hAm hA hw [0] rfl rfl 0 rfl (q := vwCl[12]) rfl) rfl rfl hl.1 rfl (lv_room (Nat.le_of_ble_eq_true rfl)) dX7_begin_23 ⟨Nat.le_of_ble_eq_true rfl, Nat.le_of_ble_eq_true rfl⟩) hA hw [0] [] rfl rfl rfl (by decide) (fun r_7 u_8 H locs hp hw => ?_)
    obtain ⟨rfl, rfl⟩ := hp
    have hw : rc_W E A s [(h0, .inr (12, [.int 1, .ref h1, .ref h2, .ref h3, .ref h4, .ref h5, .int 1, .int 3, .int 50, .int (-1), .int (-1), .int (-1), .int (-1), .int 0, .int 100, .int 1000, .long 0]))] H locs := hw
    exact rc_iret (v := 0) hx hb hr hlocks hw [(h0, .inr (12, [.int 1, .ref h1, .ref h2, .ref h3, .ref h4, .ref h5, .int 1, .int 3, .int 50, .int (-1), .int (-1), .int (-1), .int (-1), .int 0, .int 100, .int 1000, .long 0]))] (Or.inl ⟨c_3, rfl, rfl⟩) [0] rfl (by decide) (Nat.le_of_ble_eq_true rfl) (Nat.le_of_ble_eq_true rfl) dX7_begin_26
  · have hw : rc_W E A s [(h0, .inr (12, [.int 0, .ref h1, .ref h2, .ref h3, .ref h4, .ref h5, .int 1, .int 3, .int 50, .int (-1), .int (-1), .int (-1), .int (-1), .int 0, .int 100, .int 1000, .long 0]))] H locs := hw
    refine lv_if_eq (tgt := 21) hx hb dX7_begin_10 (by decide) (fun _ => ?_) (fun c9 => absurd (by decide) c9)
    refine lv_aload_n hx hb dX7_begin_21 rfl (lv_at hl 0 rfl) ?_
    refine lv_iconst (v := 1) hx hb dX7_begin_22 (by decide) ?_
    refine rc_calli (wr := []) (va_runV (As := [.int 1]) (rest := []) (Ts := []) ⟨hx, hb, hml, hown, fun _ h9 => absurd h9 List.not_mem_nil⟩ (cw_X7_refuse l E _ h0 h1 h2 h3 h4 h5) (rc_cwV hAm qw_924 qw_13 qw_927 qw_926 qs_50 rfl rfl hd_X7_refuse ⟨Nat.le_of_ble_eq_true rfl, Nat.le_of_ble_eq_true rfl⟩) (rc_preV hAm hA hw [0] rfl rfl 0 rfl (q := vwCl[12]) rfl) rfl rfl hl.1 rfl (lv_room (Nat.le_of_ble_eq_true rfl)) dX7_begin_23 ⟨Nat.le_of_ble_eq_true rfl, Nat.le_of_ble_eq_true rfl⟩) hA hw [0] [] rfl rfl rfl (by decide) (fun r_9 u_10 H locs hp hw => ?_)
    obtain ⟨rfl, rfl⟩ := hp
    have hw : rc_W E A s [(h0, .inr (12, [.int 1, .ref h1, .ref h2, .ref h3, .ref h4, .ref h5, .int 1, .int 3, .int 50, .int (-1), .int (-1), .int (-1), .int (-1), .int 0, .int 100, .int 1000, .long 0]))] H locs := hw
    exact rc_iret (v := 0) hx hb hr hlocks hw [(h0, .inr (12, [.int 1, .ref h1, .ref h2, .ref h3, .ref h4, .ref h5, .int 1, .int 3, .int 50, .int (-1), .int (-1), .int (-1), .int (-1), .int 0, .int 100, .int 1000, .long 0]))] (Or.inr (Or.inl ⟨c_4, c_5, rfl, rfl⟩)) [0] rfl (by decide) (Nat.le_of_ble_eq_true rfl) (Nat.le_of_ble_eq_true rfl) dX7_begin_26
  · obtain rfl : x0 = 0 := rc_eqc (b := 0) rfl (by have g_c_6 := rc_g5 (b := 0) c_6 rfl; omega)
    have hw : rc_W E A s [(h0, .inr (12, [.int 0, .ref h1, .ref h2, .ref h3, .ref h4, .ref h5, .int 1, .int 3, .int 50, .int (-1), .int (-1), .int (-1), .int (-1), .int 0, .int 100, .int 1000, .long 0]))] H locs := hw
    refine lv_if_eq (tgt := 21) hx hb dX7_begin_10 (by decide) (fun c9 => absurd c9 (by decide)) (fun _ => ?_)
    refine lv_aload_n hx hb dX7_begin_13 rfl (lv_at hl 0 rfl) ?_
    refine lv_iload_n hx hb dX7_begin_14 rfl (lv_at hl 2 rfl) ?_
    refine rc_calli (wr := []) (va_runV (As := [.int x1]) (rest := []) (Ts := []) ⟨hx, hb, hml, hown, fun _ h9 => absurd h9 List.not_mem_nil⟩ (cw_X7_isChange l E _ h0 x1 h1 h2 h3 h4 h5) (rc_cwV hAm qw_1353 qw_13 qw_1356 qw_1355 qs_62 rfl rfl hd_X7_isChange ⟨Nat.le_of_ble_eq_true rfl, Nat.le_of_ble_eq_true rfl⟩) (rc_preV hAm hA hw [0] rfl rfl 0 rfl (q := vwCl[12]) rfl) rfl rfl hl.1 rfl (lv_room (Nat.le_of_ble_eq_true rfl)) dX7_begin_15 ⟨Nat.le_of_ble_eq_true rfl, Nat.le_of_ble_eq_true rfl⟩) hA hw [0] [] rfl rfl rfl (by decide) (fun r_11 u_12 H locs hp hw => ?_)
    rcases hp with ⟨c_13, rfl, rfl⟩ | ⟨c_14, c_15, rfl, rfl⟩ | ⟨c_16, rfl, rfl⟩
    · have hw : rc_W E A s [(h0, .inr (12, [.int 0, .ref h1, .ref h2, .ref h3, .ref h4, .ref h5, .int 1, .int 3, .int 50, .int (-1), .int (-1), .int (-1), .int (-1), .int 0, .int 100, .int 1000, .long 0]))] H locs := hw
      refine lv_if_ne (tgt := 27) hx hb dX7_begin_18 (by decide) (fun c9 => absurd (by decide) c9) (fun _ => ?_)
      refine lv_aload_n hx hb dX7_begin_21 rfl (lv_at hl 0 rfl) ?_
      refine lv_iconst (v := 1) hx hb dX7_begin_22 (by decide) ?_
      refine rc_calli (wr := []) (va_runV (As := [.int 1]) (rest := []) (Ts := []) ⟨hx, hb, hml, hown, fun _ h9 => absurd h9 List.not_mem_nil⟩ (cw_X7_refuse l E _ h0 h1 h2 h3 h4 h5) (rc_cwV hAm qw_924 qw_13 qw_927 qw_926 qs_50 rfl rfl hd_X7_refuse ⟨Nat.le_of_ble_eq_true rfl, Nat.le_of_ble_eq_true rfl⟩) (rc_preV hAm hA hw [0] rfl rfl 0 rfl (q := vwCl[12]) rfl) rfl rfl hl.1 rfl (lv_room (Nat.le_of_ble_eq_true rfl)) dX7_begin_23 ⟨Nat.le_of_ble_eq_true rfl, Nat.le_of_ble_eq_true rfl⟩) hA hw [0] [] rfl rfl rfl (by decide) (fun r_17 u_18 H locs hp hw => ?_)
      obtain ⟨rfl, rfl⟩ := hp
      have hw : rc_W E A s [(h0, .inr (12, [.int 1, .ref h1, .ref h2, .ref h3, .ref h4, .ref h5, .int 1, .int 3, .int 50, .int (-1), .int (-1), .int (-1), .int (-1), .int 0, .int 100, .int 1000, .long 0]))] H locs := hw
      exact rc_iret (v := 0) hx hb hr hlocks hw [(h0, .inr (12, [.int 1, .ref h1, .ref h2, .ref h3, .ref h4, .ref h5, .int 1, .int 3, .int 50, .int (-1), .int (-1), .int (-1), .int (-1), .int 0, .int 100, .int 1000, .long 0]))] (Or.inr (Or.inr (Or.inl ⟨c_13, rfl, rfl, rfl⟩))) [0] rfl (by decide) (Nat.le_of_ble_eq_true rfl) (Nat.le_of_ble_eq_true rfl) dX7_begin_26
    · have hw : rc_W E A s [(h0, .inr (12, [.int 0, .ref h1, .ref h2, .ref h3, .ref h4, .ref h5, .int 1, .int 3, .int 50, .int (-1), .int (-1), .int (-1), .int (-1), .int 0, .int 100, .int 1000, .long 0]))] H locs := hw
      refine lv_if_ne (tgt := 27) hx hb dX7_begin_18 (by decide) (fun c9 => absurd (by decide) c9) (fun _ => ?_)
      refine lv_aload_n hx hb dX7_begin_21 rfl (lv_at hl 0 rfl) ?_
      refine lv_iconst (v := 1) hx hb dX7_begin_22 (by decide) ?_
      refine rc_calli (wr := []) (va_runV (As := [.int 1]) (rest := []) (Ts := []) ⟨hx, hb, hml, hown, fun _ h9 => absurd h9 List.not_mem_nil⟩ (cw_X7_refuse l E _ h0 h1 h2 h3 h4 h5) (rc_cwV hAm qw_924 qw_13 qw_927 qw_926 qs_50 rfl rfl hd_X7_refuse ⟨Nat.le_of_ble_eq_true rfl, Nat.le_of_ble_eq_true rfl⟩) (rc_preV hAm hA hw [0] rfl rfl 0 rfl (q := vwCl[12]) rfl) rfl rfl hl.1 rfl (lv_room (Nat.le_of_ble_eq_true rfl)) dX7_begin_23 ⟨Nat.le_of_ble_eq_true rfl, Nat.le_of_ble_eq_true rfl⟩) hA hw [0] [] rfl rfl rfl (by decide) (fun r_19 u_20 H locs hp hw => ?_)
      obtain ⟨rfl, rfl⟩ := hp
      have hw : rc_W E A s [(h0, .inr (12, [.int 1, .ref h1, .ref h2, .ref h3, .ref h4, .ref h5, .int 1, .int 3, .int 50, .int (-1), .int (-1), .int (-1), .int (-1), .int 0, .int 100, .int 1000, .long 0]))] H locs := hw
      exact rc_iret (v := 0) hx hb hr hlocks hw [(h0, .inr (12, [.int 1, .ref h1, .ref h2, .ref h3, .ref h4, .ref h5, .int 1, .int 3, .int 50, .int (-1), .int (-1), .int (-1), .int (-1), .int 0, .int 100, .int 1000, .long 0]))] (Or.inr (Or.inr (Or.inr (Or.inl ⟨c_14, c_15, rfl, rfl, rfl⟩)))) [0] rfl (by decide) (Nat.le_of_ble_eq_true rfl) (Nat.le_of_ble_eq_true rfl) dX7_begin_26
    · obtain rfl : x1 = 0 := rc_eqc (b := 0) rfl (by have g_c_16 := rc_g5 (b := 0) c_16 rfl; omega)
      have hw : rc_W E A s [(h0, .inr (12, [.int 0, .ref h1, .ref h2, .ref h3, .ref h4, .ref h5, .int 1, .int 3, .int 50, .int (-1), .int (-1), .int (-1), .int (-1), .int 0, .int 100, .int 1000, .long 0]))] H locs := hw
      refine lv_if_ne (tgt := 27) hx hb dX7_begin_18 (by decide) (fun _ => ?_) (fun c9 => absurd c9 (by decide))
      refine lv_iload_n hx hb dX7_begin_27 rfl (lv_at hl 2 rfl) ?_
      refine lv_iload_n hx hb dX7_begin_28 rfl (lv_at hl 1 rfl) ?_
      refine lv_icmp_gt (tgt := 38) hx hb dX7_begin_29 (by decide) (fun c9 => absurd c9 (by decide)) (fun _ => ?_)
      refine lv_aload_n hx hb dX7_begin_32 rfl (lv_at hl 0 rfl) ?_
      refine lv_iconst (v := 2) hx hb dX7_begin_33 (by decide) ?_
      refine rc_calli (wr := []) (va_runV (As := [.int 2]) (rest := []) (Ts := []) ⟨hx, hb, hml, hown, fun _ h9 => absurd h9 List.not_mem_nil⟩ (cw_X7_refuse_2 l E _ h0 h1 h2 h3 h4 h5) (rc_cwV hAm qw_924 qw_13 qw_927 qw_926 qs_50 rfl rfl hd_X7_refuse ⟨Nat.le_of_ble_eq_true rfl, Nat.le_of_ble_eq_true rfl⟩) (rc_preV hAm hA hw [0] rfl rfl 0 rfl (q := vwCl[12]) rfl) rfl rfl hl.1 rfl (lv_room (Nat.le_of_ble_eq_true rfl)) dX7_begin_34 ⟨Nat.le_of_ble_eq_true rfl, Nat.le_of_ble_eq_true rfl⟩) hA hw [0] [] rfl rfl rfl (by decide) (fun r_21 u_22 H locs hp hw => ?_)
      obtain ⟨rfl, rfl⟩ := hp
      have hw : rc_W E A s [(h0, .inr (12, [.int 2, .ref h1, .ref h2, .ref h3, .ref h4, .ref h5, .int 1, .int 3, .int 50, .int (-1), .int (-1), .int (-1), .int (-1), .int 0, .int 100, .int 1000, .long 0]))] H locs := hw
      exact rc_iret (v := 0) hx hb hr hlocks hw [(h0, .inr (12, [.int 2, .ref h1, .ref h2, .ref h3, .ref h4, .ref h5, .int 1, .int 3, .int 50, .int (-1), .int (-1), .int (-1), .int (-1), .int 0, .int 100, .int 1000, .long 0]))] (Or.inr (Or.inr (Or.inr (Or.inr ⟨rfl, rfl, rfl, rfl⟩)))) [0] rfl (by decide) (Nat.le_of_ble_eq_true rfl) (Nat.le_of_ble_eq_true rfl) dX7_begin_37
set_option maxHeartbeats 4000000 in
set_option maxRecDepth 100000 in
theorem cw_X7_drop (l : Launch) (E : rc_E) (sz : Nat) (h0 : Nat) (h1 : Nat) (h2 : Nat) (h3 : Nat) (h4 : Nat) (h5 : Nat) : rc_Mi l yX7_drop [Cond.code yX7_drop cX7_drop 2 (some FieldType.int)] { frames := 1, cells := 0, slots := 0, locals := 21 } E [.ref h0] [(h0, .inr (12, [.int 0, .ref h1, .ref h2, .ref h3, .ref h4, .ref h5, .int 1, .int 3, .int 50, .int (-1), .int (-1), .int (-1), .int (-1), .int 0, .int 100, .int 1000, .long 0]))] sz (S := va_W) (fun (r : Int32) (u : va_W) => (0 = r ∧ u = [(h0, .inr (12, [.int 1, .ref h1, .ref h2, .ref h3, .ref h4, .ref h5, .int 1, .int 3, .int 50, .int (-1), .int (-1), .int (-1), .int (-1), .int 0, .int 100, .int 1000, .long 0]))])) (fun u => u) 0 0 := by
  refine rc_ini (cc := cX7_drop) (maxL := 2) (ret := (some FieldType.int)) (by decide) rfl (Nat.le_of_ble_eq_true rfl) ?_
  intro p e s m args below meth c ls A hx hb hr hml _ hown hlocks hin hA hAm hw hl
  have hown : s.vm.findClass RX7 = some m.cls := hown
  have hl : lv_has ls 2 [(0, .ref h0)] := hl
  refine lv_aload_n hx hb dX7_drop_0 rfl (lv_at hl 0 rfl) ?_
  refine lv_iconst (v := 0) hx hb dX7_drop_1 (by decide) ?_
  refine rc_put hx hb hown hAm hw lyX7 tyX7 tyX7_ok nmX7 0 rfl rfl 0 (by decide) qw_860 (fun _ h9 => h9) rfl rfl (by decide +kernel) (Nat.le_of_ble_eq_true rfl) [(h0, .inr (12, [.int 0, .ref h1, .ref h2, .ref h3, .ref h4, .ref h5, .int 1, .int 3, .int 50, .int (-1), .int (-1), .int (-1), .int (-1), .int 0, .int 100, .int 1000, .long 0]))] rfl dX7_drop_2 (fun H locs hw => ?_)
  refine lv_aload_n hx hb dX7_drop_5 rfl (lv_at hl 0 rfl) ?_
  refine rc_get (v := .int (-1)) hx hb hown hAm hw lyX7 0 rfl rfl 9 (by decide) qw_869 (fun _ h9 => h9) rfl dX7_drop_6 ?_
  refine lv_iconst (v := (-1)) hx hb dX7_drop_9 (by decide) ?_
  refine lv_icmp_ne (tgt := 19) hx hb dX7_drop_10 (by decide) (fun c9 => absurd (by decide) c9) (fun _ => ?_)
  refine lv_aload_n hx hb dX7_drop_13 rfl (lv_at hl 0 rfl) ?_
  refine lv_iconst (v := 1) hx hb dX7_drop_14 (by decide) ?_
  refine rc_calli (wr := []) (va_runV (As := [.int 1]) (rest := []) (Ts := []) ⟨hx, hb, hml, hown, fun _ h9 => absurd h9 List.not_mem_nil⟩ (cw_X7_refuse l E _ h0 h1 h2 h3 h4 h5) (rc_cwV hAm qw_924 qw_13 qw_927 qw_926 qs_50 rfl rfl hd_X7_refuse ⟨Nat.le_of_ble_eq_true rfl, Nat.le_of_ble_eq_true rfl⟩) (rc_preV hAm hA hw [0] rfl rfl 0 rfl (q := vwCl[12]) rfl) rfl rfl hl.1 rfl (lv_room (Nat.le_of_ble_eq_true rfl)) dX7_drop_15 ⟨Nat.le_of_ble_eq_true rfl, Nat.le_of_ble_eq_true rfl⟩) hA hw [0] [] rfl rfl rfl (by decide) (fun r_1 u_2 H locs hp hw => ?_)
  obtain ⟨rfl, rfl⟩ := hp
  have hw : rc_W E A s [(h0, .inr (12, [.int 1, .ref h1, .ref h2, .ref h3, .ref h4, .ref h5, .int 1, .int 3, .int 50, .int (-1), .int (-1), .int (-1), .int (-1), .int 0, .int 100, .int 1000, .long 0]))] H locs := hw
  exact rc_iret (v := 0) hx hb hr hlocks hw [(h0, .inr (12, [.int 1, .ref h1, .ref h2, .ref h3, .ref h4, .ref h5, .int 1, .int 3, .int 50, .int (-1), .int (-1), .int (-1), .int (-1), .int 0, .int 100, .int 1000, .long 0]))] (⟨rfl, rfl⟩) [0] rfl (by decide) (Nat.le_of_ble_eq_true rfl) (Nat.le_of_ble_eq_true rfl) dX7_drop_18
set_option maxHeartbeats 4000000 in
set_option maxRecDepth 100000 in
theorem cw_X7_is_7 (l : Launch) (E : rc_E) (sz : Nat) (x0 : Int32) : rc_Mi l yX7_is [Cond.code yX7_is cX7_is 3 (some FieldType.boolean)] { frames := 0, cells := 0, slots := 0, locals := 0 } E [.int x0, .int 0, .int 3] [] sz (S := va_W) (fun (r : Int32) (u : va_W) => (x0 < 0 ∧ 0 = r ∧ u = []) ∨ (¬ x0 < 0 ∧ 3 < x0 ∧ 0 = r ∧ u = []) ∨ (¬ x0 < 0 ∧ ¬ 3 < x0 ∧ 1 = r ∧ u = [])) (fun u => u) 0 0 := by
  refine rc_ini (cc := cX7_is) (maxL := 3) (ret := (some FieldType.boolean)) (by decide) rfl (Nat.le_of_ble_eq_true rfl) ?_
  intro p e s m args below meth c ls A hx hb hr hml _ hown hlocks hin hA hAm hw hl
  have hown : s.vm.findClass RX7 = some m.cls := hown
  have hl : lv_has ls 3 [(0, .int x0), (1, .int 0), (2, .int 3)] := hl
  refine lv_iload_n hx hb dX7_is_0 rfl (lv_at hl 0 rfl) ?_
  refine lv_iload_n hx hb dX7_is_1 rfl (lv_at hl 1 rfl) ?_
  refine lv_icmp_lt (tgt := 14) hx hb dX7_is_2 (by decide) (fun c_1 => ?_) (fun c_1 => ?_)
  · refine lv_iconst (v := 0) hx hb dX7_is_14 (by decide) ?_
    exact rc_zret (v := 0) hx hb hr hlocks hw rfl [] (Or.inl ⟨c_1, rfl, rfl⟩) [] rfl (by decide) (Nat.le_of_ble_eq_true rfl) (Nat.le_of_ble_eq_true rfl) dX7_is_15
  · refine lv_iload_n hx hb dX7_is_5 rfl (lv_at hl 0 rfl) ?_
    refine lv_iload_n hx hb dX7_is_6 rfl (lv_at hl 2 rfl) ?_
    refine lv_icmp_gt (tgt := 14) hx hb dX7_is_7 (by decide) (fun c_2 => ?_) (fun c_2 => ?_)
    · refine lv_iconst (v := 0) hx hb dX7_is_14 (by decide) ?_
      exact rc_zret (v := 0) hx hb hr hlocks hw rfl [] (Or.inr (Or.inl ⟨c_1, c_2, rfl, rfl⟩)) [] rfl (by decide) (Nat.le_of_ble_eq_true rfl) (Nat.le_of_ble_eq_true rfl) dX7_is_15
    · refine lv_iconst (v := 1) hx hb dX7_is_10 (by decide) ?_
      refine lv_goto (tgt := 15) hx hb dX7_is_11 (by decide) ?_
      exact rc_zret (v := 1) hx hb hr hlocks hw rfl [] (Or.inr (Or.inr ⟨c_1, c_2, rfl, rfl⟩)) [] rfl (by decide) (Nat.le_of_ble_eq_true rfl) (Nat.le_of_ble_eq_true rfl) dX7_is_15
set_option maxHeartbeats 4000000 in
set_option maxRecDepth 100000 in
theorem cw_X7_ofCaseNow (l : Launch) (E : rc_E) (sz : Nat) (h0 : Nat) (x0 : Int32) (h1 : Nat) (h2 : Nat) (h3 : Nat) (h4 : Nat) (h5 : Nat) : rc_Mi l yX7_ofCaseNow [Cond.code yX7_ofCaseNow cX7_ofCaseNow 2 (some FieldType.int)] { frames := 0, cells := 0, slots := 0, locals := 0 } E [.ref h0, .int x0] [(h0, .inr (12, [.int 0, .ref h1, .ref h2, .ref h3, .ref h4, .ref h5, .int 1, .int 3, .int 50, .int (-1), .int (-1), .int (-1), .int (-1), .int 0, .int 100, .int 1000, .long 0]))] sz (S := va_W) (fun (r : Int32) (u : va_W) => (¬ x0 = 0 ∧ ¬ x0 = 1 ∧ ¬ x0 = 2 ∧ (-1) = r ∧ u = [(h0, .inr (12, [.int 0, .ref h1, .ref h2, .ref h3, .ref h4, .ref h5, .int 1, .int 3, .int 50, .int (-1), .int (-1), .int (-1), .int (-1), .int 0, .int 100, .int 1000, .long 0]))]) ∨ (x0 = 2 ∧ (-1) = r ∧ u = [(h0, .inr (12, [.int 0, .ref h1, .ref h2, .ref h3, .ref h4, .ref h5, .int 1, .int 3, .int 50, .int (-1), .int (-1), .int (-1), .int (-1), .int 0, .int 100, .int 1000, .long 0]))]) ∨ (x0 = 1 ∧ (-1) = r ∧ u = [(h0, .inr (12, [.int 0, .ref h1, .ref h2, .ref h3, .ref h4, .ref h5, .int 1, .int 3, .int 50, .int (-1), .int (-1), .int (-1), .int (-1), .int 0, .int 100, .int 1000, .long 0]))]) ∨ (x0 = 0 ∧ (-1) = r ∧ u = [(h0, .inr (12, [.int 0, .ref h1, .ref h2, .ref h3, .ref h4, .ref h5, .int 1, .int 3, .int 50, .int (-1), .int (-1), .int (-1), .int (-1), .int 0, .int 100, .int 1000, .long 0]))])) (fun u => u) 0 0 := by
  refine rc_ini (cc := cX7_ofCaseNow) (maxL := 2) (ret := (some FieldType.int)) (by decide) rfl (Nat.le_of_ble_eq_true rfl) ?_
  intro p e s m args below meth c ls A hx hb hr hml _ hown hlocks hin hA hAm hw hl
  have hown : s.vm.findClass RX7 = some m.cls := hown
  have hl : lv_has ls 2 [(0, .ref h0), (1, .int x0)] := hl
  refine lv_iload_n hx hb dX7_ofCaseNow_0 rfl (lv_at hl 1 rfl) ?_
  refine lv_if_ne (tgt := 11) hx hb dX7_ofCaseNow_1 (by decide) (fun c_1 => ?_) (fun c_1 => ?_)
  · refine lv_iload_n hx hb dX7_ofCaseNow_11 rfl (lv_at hl 1 rfl) ?_
    refine lv_iconst (v := 1) hx hb dX7_ofCaseNow_12 (by decide) ?_
    refine lv_icmp_ne (tgt := 23) hx hb dX7_ofCaseNow_13 (by decide) (fun c_2 => ?_) (fun c_2 => ?_)
    · refine lv_iload_n hx hb dX7_ofCaseNow_23 rfl (lv_at hl 1 rfl) ?_
      refine lv_iconst (v := 2) hx hb dX7_ofCaseNow_24 (by decide) ?_
      refine lv_icmp_ne (tgt := 35) hx hb dX7_ofCaseNow_25 (by decide) (fun c_3 => ?_) (fun c_3 => ?_)
      · refine lv_aload_n hx hb dX7_ofCaseNow_35 rfl (lv_at hl 0 rfl) ?_
        refine rc_get (v := .int (-1)) hx hb hown hAm hw lyX7 0 rfl rfl 12 (by decide) qw_872 (fun _ h9 => h9) rfl dX7_ofCaseNow_36 ?_
        exact rc_iret (v := (-1)) hx hb hr hlocks hw [(h0, .inr (12, [.int 0, .ref h1, .ref h2, .ref h3, .ref h4, .ref h5, .int 1, .int 3, .int 50, .int (-1), .int (-1), .int (-1), .int (-1), .int 0, .int 100, .int 1000, .long 0]))] (Or.inl ⟨c_1, c_2, c_3, rfl, rfl⟩) [0] rfl (by decide) (Nat.le_of_ble_eq_true rfl) (Nat.le_of_ble_eq_true rfl) dX7_ofCaseNow_39
      · obtain rfl : x0 = 2 := rc_eqc (b := 2) rfl (by have g_c_1 := rc_n5 (b := 0) c_1 rfl; have g_c_2 := rc_n5 (b := 1) c_2 rfl; have g_c_3 := rc_g5 (b := 2) c_3 rfl; omega)
        refine lv_aload_n hx hb dX7_ofCaseNow_28 rfl (lv_at hl 0 rfl) ?_
        refine rc_get (v := .int (-1)) hx hb hown hAm hw lyX7 0 rfl rfl 11 (by decide) qw_871 (fun _ h9 => h9) rfl dX7_ofCaseNow_29 ?_
        refine lv_goto (tgt := 39) hx hb dX7_ofCaseNow_32 (by decide) ?_
        exact rc_iret (v := (-1)) hx hb hr hlocks hw [(h0, .inr (12, [.int 0, .ref h1, .ref h2, .ref h3, .ref h4, .ref h5, .int 1, .int 3, .int 50, .int (-1), .int (-1), .int (-1), .int (-1), .int 0, .int 100, .int 1000, .long 0]))] (Or.inr (Or.inl ⟨rfl, rfl, rfl⟩)) [0] rfl (by decide) (Nat.le_of_ble_eq_true rfl) (Nat.le_of_ble_eq_true rfl) dX7_ofCaseNow_39
    · obtain rfl : x0 = 1 := rc_eqc (b := 1) rfl (by have g_c_1 := rc_n5 (b := 0) c_1 rfl; have g_c_2 := rc_g5 (b := 1) c_2 rfl; omega)
      refine lv_aload_n hx hb dX7_ofCaseNow_16 rfl (lv_at hl 0 rfl) ?_
      refine rc_get (v := .int (-1)) hx hb hown hAm hw lyX7 0 rfl rfl 10 (by decide) qw_870 (fun _ h9 => h9) rfl dX7_ofCaseNow_17 ?_
      refine lv_goto (tgt := 39) hx hb dX7_ofCaseNow_20 (by decide) ?_
      exact rc_iret (v := (-1)) hx hb hr hlocks hw [(h0, .inr (12, [.int 0, .ref h1, .ref h2, .ref h3, .ref h4, .ref h5, .int 1, .int 3, .int 50, .int (-1), .int (-1), .int (-1), .int (-1), .int 0, .int 100, .int 1000, .long 0]))] (Or.inr (Or.inr (Or.inl ⟨rfl, rfl, rfl⟩))) [0] rfl (by decide) (Nat.le_of_ble_eq_true rfl) (Nat.le_of_ble_eq_true rfl) dX7_ofCaseNow_39
  · obtain rfl : x0 = 0 := rc_eqc (b := 0) rfl (by have g_c_1 := rc_g5 (b := 0) c_1 rfl; omega)
    refine lv_aload_n hx hb dX7_ofCaseNow_4 rfl (lv_at hl 0 rfl) ?_
    refine rc_get (v := .int (-1)) hx hb hown hAm hw lyX7 0 rfl rfl 9 (by decide) qw_869 (fun _ h9 => h9) rfl dX7_ofCaseNow_5 ?_
    refine lv_goto (tgt := 39) hx hb dX7_ofCaseNow_8 (by decide) ?_
    exact rc_iret (v := (-1)) hx hb hr hlocks hw [(h0, .inr (12, [.int 0, .ref h1, .ref h2, .ref h3, .ref h4, .ref h5, .int 1, .int 3, .int 50, .int (-1), .int (-1), .int (-1), .int (-1), .int 0, .int 100, .int 1000, .long 0]))] (Or.inr (Or.inr (Or.inr ⟨rfl, rfl, rfl⟩))) [0] rfl (by decide) (Nat.le_of_ble_eq_true rfl) (Nat.le_of_ble_eq_true rfl) dX7_ofCaseNow_39
theorem hd_X7_ofCaseNow : yX7_ofCaseNow.cls ≠ "java/lang/invoke/MethodHandle" ∧ yX7_ofCaseNow.cls ≠ "java/lang/invoke/VarHandle" ∧ (parseMethodDescriptor yX7_ofCaseNow.desc).map (fun d => d.parameters.length) = some 1 := by decide +kernel
set_option maxHeartbeats 4000000 in
set_option maxRecDepth 100000 in
theorem cw_X7_ofCase (l : Launch) (E : rc_E) (sz : Nat) (h0 : Nat) (x0 : Int32) (h1 : Nat) (h2 : Nat) (h3 : Nat) (h4 : Nat) (h5 : Nat) : rc_Mi l yX7_ofCase [Cond.code yX7_ofCase cX7_ofCase 2 (some FieldType.int)] { frames := 1, cells := 0, slots := 0, locals := 22 } E [.ref h0, .int x0] [(h0, .inr (12, [.int 0, .ref h1, .ref h2, .ref h3, .ref h4, .ref h5, .int 1, .int 3, .int 50, .int (-1), .int (-1), .int (-1), .int (-1), .int 0, .int 100, .int 1000, .long 0]))] sz (S := va_W) (fun (r : Int32) (u : va_W) => (x0 < 0 ∧ 0 = r ∧ u = [(h0, .inr (12, [.int 1, .ref h1, .ref h2, .ref h3, .ref h4, .ref h5, .int 1, .int 3, .int 50, .int (-1), .int (-1), .int (-1), .int (-1), .int 0, .int 100, .int 1000, .long 0]))]) ∨ (¬ x0 < 0 ∧ 3 < x0 ∧ 0 = r ∧ u = [(h0, .inr (12, [.int 1, .ref h1, .ref h2, .ref h3, .ref h4, .ref h5, .int 1, .int 3, .int 50, .int (-1), .int (-1), .int (-1), .int (-1), .int 0, .int 100, .int 1000, .long 0]))]) ∨ (x0 = 3 ∧ (-1) = r ∧ u = [(h0, .inr (12, [.int 0, .ref h1, .ref h2, .ref h3, .ref h4, .ref h5, .int 1, .int 3, .int 50, .int (-1), .int (-1), .int (-1), .int (-1), .int 0, .int 100, .int 1000, .long 0]))]) ∨ (x0 = 2 ∧ (-1) = r ∧ u = [(h0, .inr (12, [.int 0, .ref h1, .ref h2, .ref h3, .ref h4, .ref h5, .int 1, .int 3, .int 50, .int (-1), .int (-1), .int (-1), .int (-1), .int 0, .int 100, .int 1000, .long 0]))]) ∨ (x0 = 1 ∧ (-1) = r ∧ u = [(h0, .inr (12, [.int 0, .ref h1, .ref h2, .ref h3, .ref h4, .ref h5, .int 1, .int 3, .int 50, .int (-1), .int (-1), .int (-1), .int (-1), .int 0, .int 100, .int 1000, .long 0]))]) ∨ (x0 = 0 ∧ (-1) = r ∧ u = [(h0, .inr (12, [.int 0, .ref h1, .ref h2, .ref h3, .ref h4, .ref h5, .int 1, .int 3, .int 50, .int (-1), .int (-1), .int (-1), .int (-1), .int 0, .int 100, .int 1000, .long 0]))])) (fun u => u) 0 0 := by
  refine rc_ini (cc := cX7_ofCase) (maxL := 2) (ret := (some FieldType.int)) (by decide) rfl (Nat.le_of_ble_eq_true rfl) ?_
  intro p e s m args below meth c ls A hx hb hr hml _ hown hlocks hin hA hAm hw hl
  have hown : s.vm.findClass RX7 = some m.cls := hown
  have hl : lv_has ls 2 [(0, .ref h0), (1, .int x0)] := hl
  refine lv_aload_n hx hb dX7_ofCase_0 rfl (lv_at hl 0 rfl) ?_
  refine lv_iconst (v := 0) hx hb dX7_ofCase_1 (by decide) ?_
  refine rc_put hx hb hown hAm hw lyX7 tyX7 tyX7_ok nmX7 0 rfl rfl 0 (by decide) qw_860 (fun _ h9 => h9) rfl rfl (by decide +kernel) (Nat.le_of_ble_eq_true rfl) [(h0, .inr (12, [.int 0, .ref h1, .ref h2, .ref h3, .ref h4, .ref h5, .int 1, .int 3, .int 50, .int (-1), .int (-1), .int (-1), .int (-1), .int 0, .int 100, .int 1000, .long 0]))] rfl dX7_ofCase_2 (fun H locs hw => ?_)
  refine lv_iload_n hx hb dX7_ofCase_5 rfl (lv_at hl 1 rfl) ?_
  refine lv_iconst (v := 0) hx hb dX7_ofCase_6 (by decide) ?_
  refine lv_iconst (v := 3) hx hb dX7_ofCase_7 (by decide) ?_
  refine rc_calli (wr := [(h0, .inr (12, [.int 0, .ref h1, .ref h2, .ref h3, .ref h4, .ref h5, .int 1, .int 3, .int 50, .int (-1), .int (-1), .int (-1), .int (-1), .int 0, .int 100, .int 1000, .long 0]))]) (va_runS (As := [.int x0, .int 0, .int 3]) (rest := []) (Ts := []) ⟨hx, hb, hml, hown, fun _ h9 => absurd h9 List.not_mem_nil⟩ (cw_X7_is_7 l E _ x0) (rc_cwS hAm qw_921 qw_13 qw_923 qw_922 rfl rfl hd_X7_is ⟨Nat.le_of_ble_eq_true rfl, Nat.le_of_ble_eq_true rfl⟩) (rc_preS hAm hA hw [] rfl rfl) rfl rfl hl.1 rfl (lv_room (Nat.le_of_ble_eq_true rfl)) dX7_ofCase_8 ⟨Nat.le_of_ble_eq_true rfl, Nat.le_of_ble_eq_true rfl⟩) hA hw [] [0] rfl rfl rfl (by decide) (fun r_1 u_2 H locs hp hw => ?_)
  rcases hp with ⟨c_3, rfl, rfl⟩ | ⟨c_4, c_5, rfl, rfl⟩ | ⟨c_6, c_7, rfl, rfl⟩
  · have hw : rc_W E A s [(h0, .inr (12, [.int 0, .ref h1, .ref h2, .ref h3, .ref h4, .ref h5, .int 1, .int 3, .int 50, .int (-1), .int (-1), .int (-1), .int (-1), .int 0, .int 100, .int 1000, .long 0]))] H locs := hw
    refine lv_if_eq (tgt := 22) hx hb dX7_ofCase_11 (by decide) (fun _ => ?_) (fun c9 => absurd (by decide) c9)
    refine lv_aload_n hx hb dX7_ofCase_22 rfl (lv_at hl 0 rfl) ?_
    refine lv_iconst (v := 1) hx hb dX7_ofCase_23 (by decide) ?_
    refine rc_calli (wr := []) (va_runV (As := [.int 1]) (rest := []) (Ts := []) ⟨hx, hb, hml, hown, fun _ h9 => absurd h9 List.not_mem_nil⟩ (cw_X7_refuse l E _ h0 h1 h2 h3 h4 h5) (rc_cwV hAm qw_924 qw_13 qw_927 qw_926 qs_50 rfl rfl hd_X7_refuse ⟨Nat.le_of_ble_eq_true rfl, Nat.le_of_ble_eq_true rfl⟩) (rc_preV hAm hA hw [0] rfl rfl 0 rfl (q := vwCl[12]) rfl) rfl rfl hl.1 rfl (lv_room (Nat.le_of_ble_eq_true rfl)) dX7_ofCase_24 ⟨Nat.le_of_ble_eq_true rfl, Nat.le_of_ble_eq_true rfl⟩) hA hw [0] [] rfl rfl rfl (by decide) (fun r_8 u_9 H locs hp hw => ?_)
    obtain ⟨rfl, rfl⟩ := hp
    have hw : rc_W E A s [(h0, .inr (12, [.int 1, .ref h1, .ref h2, .ref h3, .ref h4, .ref h5, .int 1, .int 3, .int 50, .int (-1), .int (-1), .int (-1), .int (-1), .int 0, .int 100, .int 1000, .long 0]))] H locs := hw
    exact rc_iret (v := 0) hx hb hr hlocks hw [(h0, .inr (12, [.int 1, .ref h1, .ref h2, .ref h3, .ref h4, .ref h5, .int 1, .int 3, .int 50, .int (-1), .int (-1), .int (-1), .int (-1), .int 0, .int 100, .int 1000, .long 0]))] (Or.inl ⟨c_3, rfl, rfl⟩) [0] rfl (by decide) (Nat.le_of_ble_eq_true rfl) (Nat.le_of_ble_eq_true rfl) dX7_ofCase_27
  · have hw : rc_W E A s [(h0, .inr (12, [.int 0, .ref h1, .ref h2, .ref h3, .ref h4, .ref h5, .int 1, .int 3, .int 50, .int (-1), .int (-1), .int (-1), .int (-1), .int 0, .int 100, .int 1000, .long 0]))] H locs := hw
    refine lv_if_eq (tgt := 22) hx hb dX7_ofCase_11 (by decide) (fun _ => ?_) (fun c9 => absurd (by decide) c9)
    refine lv_aload_n hx hb dX7_ofCase_22 rfl (lv_at hl 0 rfl) ?_
    refine lv_iconst (v := 1) hx hb dX7_ofCase_23 (by decide) ?_
    refine rc_calli (wr := []) (va_runV (As := [.int 1]) (rest := []) (Ts := []) ⟨hx, hb, hml, hown, fun _ h9 => absurd h9 List.not_mem_nil⟩ (cw_X7_refuse l E _ h0 h1 h2 h3 h4 h5) (rc_cwV hAm qw_924 qw_13 qw_927 qw_926 qs_50 rfl rfl hd_X7_refuse ⟨Nat.le_of_ble_eq_true rfl, Nat.le_of_ble_eq_true rfl⟩) (rc_preV hAm hA hw [0] rfl rfl 0 rfl (q := vwCl[12]) rfl) rfl rfl hl.1 rfl (lv_room (Nat.le_of_ble_eq_true rfl)) dX7_ofCase_24 ⟨Nat.le_of_ble_eq_true rfl, Nat.le_of_ble_eq_true rfl⟩) hA hw [0] [] rfl rfl rfl (by decide) (fun r_10 u_11 H locs hp hw => ?_)
    obtain ⟨rfl, rfl⟩ := hp
    have hw : rc_W E A s [(h0, .inr (12, [.int 1, .ref h1, .ref h2, .ref h3, .ref h4, .ref h5, .int 1, .int 3, .int 50, .int (-1), .int (-1), .int (-1), .int (-1), .int 0, .int 100, .int 1000, .long 0]))] H locs := hw
    exact rc_iret (v := 0) hx hb hr hlocks hw [(h0, .inr (12, [.int 1, .ref h1, .ref h2, .ref h3, .ref h4, .ref h5, .int 1, .int 3, .int 50, .int (-1), .int (-1), .int (-1), .int (-1), .int 0, .int 100, .int 1000, .long 0]))] (Or.inr (Or.inl ⟨c_4, c_5, rfl, rfl⟩)) [0] rfl (by decide) (Nat.le_of_ble_eq_true rfl) (Nat.le_of_ble_eq_true rfl) dX7_ofCase_27
  · have hw : rc_W E A s [(h0, .inr (12, [.int 0, .ref h1, .ref h2, .ref h3, .ref h4, .ref h5, .int 1, .int 3, .int 50, .int (-1), .int (-1), .int (-1), .int (-1), .int 0, .int 100, .int 1000, .long 0]))] H locs := hw
    refine lv_if_eq (tgt := 22) hx hb dX7_ofCase_11 (by decide) (fun c9 => absurd c9 (by decide)) (fun _ => ?_)
    refine lv_aload_n hx hb dX7_ofCase_14 rfl (lv_at hl 0 rfl) ?_
    refine lv_iload_n hx hb dX7_ofCase_15 rfl (lv_at hl 1 rfl) ?_
    refine rc_calli (wr := []) (va_runV (As := [.int x0]) (rest := []) (Ts := []) ⟨hx, hb, hml, hown, fun _ h9 => absurd h9 List.not_mem_nil⟩ (cw_X7_ofCaseNow l E _ h0 x0 h1 h2 h3 h4 h5) (rc_cwV hAm qw_1405 qw_13 qw_1408 qw_1407 qs_66 rfl rfl hd_X7_ofCaseNow ⟨Nat.le_of_ble_eq_true rfl, Nat.le_of_ble_eq_true rfl⟩) (rc_preV hAm hA hw [0] rfl rfl 0 rfl (q := vwCl[12]) rfl) rfl rfl hl.1 rfl (lv_room (Nat.le_of_ble_eq_true rfl)) dX7_ofCase_16 ⟨Nat.le_of_ble_eq_true rfl, Nat.le_of_ble_eq_true rfl⟩) hA hw [0] [] rfl rfl rfl (by decide) (fun r_12 u_13 H locs hp hw => ?_)
    rcases hp with ⟨c_14, c_15, c_16, rfl, rfl⟩ | ⟨c_17, rfl, rfl⟩ | ⟨c_18, rfl, rfl⟩ | ⟨c_19, rfl, rfl⟩
    · obtain rfl : x0 = 3 := rc_eqc (b := 3) rfl (by have g_c_6 := rc_n1 (b := 0) c_6 rfl; have g_c_7 := rc_n2 (b := 3) c_7 rfl; have g_c_14 := rc_n5 (b := 0) c_14 rfl; have g_c_15 := rc_n5 (b := 1) c_15 rfl; have g_c_16 := rc_n5 (b := 2) c_16 rfl; omega)
      have hw : rc_W E A s [(h0, .inr (12, [.int 0, .ref h1, .ref h2, .ref h3, .ref h4, .ref h5, .int 1, .int 3, .int 50, .int (-1), .int (-1), .int (-1), .int (-1), .int 0, .int 100, .int 1000, .long 0]))] H locs := hw
      refine lv_goto (tgt := 27) hx hb dX7_ofCase_19 (by decide) ?_
      exact rc_iret (v := (-1)) hx hb hr hlocks hw [(h0, .inr (12, [.int 0, .ref h1, .ref h2, .ref h3, .ref h4, .ref h5, .int 1, .int 3, .int 50, .int (-1), .int (-1), .int (-1), .int (-1), .int 0, .int 100, .int 1000, .long 0]))] (Or.inr (Or.inr (Or.inl ⟨rfl, rfl, rfl⟩))) [0] rfl (by decide) (Nat.le_of_ble_eq_true rfl) (Nat.le_of_ble_eq_true rfl) dX7_ofCase_27
    · obtain rfl : x0 = 2 := rc_eqc (b := 2) rfl (by have g_c_6 := rc_n1 (b := 0) c_6 rfl; have g_c_7 := rc_n2 (b := 3) c_7 rfl; have g_c_17 := rc_g5 (b := 2) c_17 rfl; omega)
      have hw : rc_W E A s [(h0, .inr (12, [.int 0, .ref h1, .ref h2, .ref h3, .ref h4, .ref h5, .int 1, .int 3, .int 50, .int (-1), .int (-1), .int (-1), .int (-1), .int 0, .int 100, .int 1000, .long 0]))] H locs := hw
      refine lv_goto (tgt := 27) hx hb dX7_ofCase_19 (by decide) ?_
      exact rc_iret (v := (-1)) hx hb hr hlocks hw [(h0, .inr (12, [.int 0, .ref h1, .ref h2, .ref h3, .ref h4, .ref h5, .int 1, .int 3, .int 50, .int (-1), .int (-1), .int (-1), .int (-1), .int 0, .int 100, .int 1000, .long 0]))] (Or.inr (Or.inr (Or.inr (Or.inl ⟨rfl, rfl, rfl⟩)))) [0] rfl (by decide) (Nat.le_of_ble_eq_true rfl) (Nat.le_of_ble_eq_true rfl) dX7_ofCase_27
    · obtain rfl : x0 = 1 := rc_eqc (b := 1) rfl (by have g_c_6 := rc_n1 (b := 0) c_6 rfl; have g_c_7 := rc_n2 (b := 3) c_7 rfl; have g_c_18 := rc_g5 (b := 1) c_18 rfl; omega)
      have hw : rc_W E A s [(h0, .inr (12, [.int 0, .ref h1, .ref h2, .ref h3, .ref h4, .ref h5, .int 1, .int 3, .int 50, .int (-1), .int (-1), .int (-1), .int (-1), .int 0, .int 100, .int 1000, .long 0]))] H locs := hw
      refine lv_goto (tgt := 27) hx hb dX7_ofCase_19 (by decide) ?_
      exact rc_iret (v := (-1)) hx hb hr hlocks hw [(h0, .inr (12, [.int 0, .ref h1, .ref h2, .ref h3, .ref h4, .ref h5, .int 1, .int 3, .int 50, .int (-1), .int (-1), .int (-1), .int (-1), .int 0, .int 100, .int 1000, .long 0]))] (Or.inr (Or.inr (Or.inr (Or.inr (Or.inl ⟨rfl, rfl, rfl⟩))))) [0] rfl (by decide) (Nat.le_of_ble_eq_true rfl) (Nat.le_of_ble_eq_true rfl) dX7_ofCase_27
    · obtain rfl : x0 = 0 := rc_eqc (b := 0) rfl (by have g_c_6 := rc_n1 (b := 0) c_6 rfl; have g_c_7 := rc_n2 (b := 3) c_7 rfl; have g_c_19 := rc_g5 (b := 0) c_19 rfl; omega)
      have hw : rc_W E A s [(h0, .inr (12, [.int 0, .ref h1, .ref h2, .ref h3, .ref h4, .ref h5, .int 1, .int 3, .int 50, .int (-1), .int (-1), .int (-1), .int (-1), .int 0, .int 100, .int 1000, .long 0]))] H locs := hw
      refine lv_goto (tgt := 27) hx hb dX7_ofCase_19 (by decide) ?_
      exact rc_iret (v := (-1)) hx hb hr hlocks hw [(h0, .inr (12, [.int 0, .ref h1, .ref h2, .ref h3, .ref h4, .ref h5, .int 1, .int 3, .int 50, .int (-1), .int (-1), .int (-1), .int (-1), .int 0, .int 100, .int 1000, .long 0]))] (Or.inr (Or.inr (Or.inr (Or.inr (Or.inr ⟨rfl, rfl, rfl⟩))))) [0] rfl (by decide) (Nat.le_of_ble_eq_true rfl) (Nat.le_of_ble_eq_true rfl) dX7_ofCase_27
set_option maxHeartbeats 4000000 in
set_option maxRecDepth 100000 in
theorem cw_X7_isNext (l : Launch) (E : rc_E) (sz : Nat) (h0 : Nat) (h1 : Nat) (h2 : Nat) (h3 : Nat) (h4 : Nat) (h5 : Nat) : rc_Mi l yX7_isNext [Cond.code yX7_isNext cX7_isNext 3 (some FieldType.boolean)] { frames := 0, cells := 0, slots := 0, locals := 0 } E [.ref h0, .int 0] [(h0, .inr (12, [.int 0, .ref h1, .ref h2, .ref h3, .ref h4, .ref h5, .int 1, .int 3, .int 50, .int (-1), .int (-1), .int (-1), .int (-1), .int 0, .int 100, .int 1000, .long 0]))] sz (S := va_W) (fun (r : Int32) (u : va_W) => (0 = r ∧ u = [(h0, .inr (12, [.int 0, .ref h1, .ref h2, .ref h3, .ref h4, .ref h5, .int 1, .int 3, .int 50, .int (-1), .int (-1), .int (-1), .int (-1), .int 0, .int 100, .int 1000, .long 0]))])) (fun u => u) 0 0 := by
  refine rc_ini (cc := cX7_isNext) (maxL := 3) (ret := (some FieldType.boolean)) (by decide) rfl (Nat.le_of_ble_eq_true rfl) ?_
  intro p e s m args below meth c ls A hx hb hr hml _ hown hlocks hin hA hAm hw hl
  have hown : s.vm.findClass RX7 = some m.cls := hown
  have hl : lv_has ls 3 [(0, .ref h0), (1, .int 0)] := hl
  refine lv_iload_n hx hb dX7_isNext_0 rfl (lv_at hl 1 rfl) ?_
  refine lv_iconst (v := 1) hx hb dX7_isNext_1 (by decide) ?_
  refine lv_iadd hx hb dX7_isNext_2 ?_
  refine rc_topi 1 (by decide) ?_
  refine lv_aload_n hx hb dX7_isNext_3 rfl (lv_at hl 0 rfl) ?_
  refine rc_get (v := .int 1) hx hb hown hAm hw lyX7 0 rfl rfl 6 (by decide) qw_866 (fun _ h9 => h9) rfl dX7_isNext_4 ?_
  refine lv_icmp_ne (tgt := 12) hx hb dX7_isNext_7 (by decide) (fun c9 => absurd (by decide) c9) (fun _ => ?_)
  refine lv_iconst (v := 0) hx hb dX7_isNext_10 (by decide) ?_
  exact rc_zret (v := 0) hx hb hr hlocks hw rfl [(h0, .inr (12, [.int 0, .ref h1, .ref h2, .ref h3, .ref h4, .ref h5, .int 1, .int 3, .int 50, .int (-1), .int (-1), .int (-1), .int (-1), .int 0, .int 100, .int 1000, .long 0]))] (⟨rfl, rfl⟩) [0] rfl (by decide) (Nat.le_of_ble_eq_true rfl) (Nat.le_of_ble_eq_true rfl) dX7_isNext_11
theorem hd_X7_isNext : yX7_isNext.cls ≠ "java/lang/invoke/MethodHandle" ∧ yX7_isNext.cls ≠ "java/lang/invoke/VarHandle" ∧ (parseMethodDescriptor yX7_isNext.desc).map (fun d => d.parameters.length) = some 1 := by decide +kernel
set_option maxHeartbeats 4000000 in
set_option maxRecDepth 100000 in
theorem cw_X7_moved (l : Launch) (E : rc_E) (sz : Nat) (h0 : Nat) (h1 : Nat) (h2 : Nat) (h3 : Nat) (h4 : Nat) (h5 : Nat) : rc_Mi l yX7_moved [Cond.code yX7_moved cX7_moved 3 (some FieldType.int)] { frames := 1, cells := 0, slots := 0, locals := 22 } E [.ref h0, .int 0] [(h0, .inr (12, [.int 0, .ref h1, .ref h2, .ref h3, .ref h4, .ref h5, .int 1, .int 3, .int 50, .int (-1), .int (-1), .int (-1), .int (-1), .int 0, .int 100, .int 1000, .long 0]))] sz (S := va_W) (fun (r : Int32) (u : va_W) => (0 = r ∧ u = [(h0, .inr (12, [.int 0, .ref h1, .ref h2, .ref h3, .ref h4, .ref h5, .int 1, .int 3, .int 50, .int (-1), .int (-1), .int (-1), .int (-1), .int 0, .int 100, .int 1000, .long 0]))])) (fun u => u) 0 0 := by
  refine rc_ini (cc := cX7_moved) (maxL := 3) (ret := (some FieldType.int)) (by decide) rfl (Nat.le_of_ble_eq_true rfl) ?_
  intro p e s m args below meth c ls A hx hb hr hml _ hown hlocks hin hA hAm hw hl
  have hown : s.vm.findClass RX7 = some m.cls := hown
  have hl : lv_has ls 3 [(0, .ref h0), (1, .int 0)] := hl
  refine lv_iload_n hx hb dX7_moved_0 rfl (lv_at hl 1 rfl) ?_
  refine lv_istore_n (lv' := [(2, .int 0), (0, .ref h0), (1, .int 0)]) hx hb dX7_moved_1 rfl hl (by decide) rfl (fun ls hl => ?_)
  refine lv_aload_n hx hb dX7_moved_2 rfl (lv_at hl 1 rfl) ?_
  refine lv_iload_n hx hb dX7_moved_3 rfl (lv_at hl 0 rfl) ?_
  refine rc_calli (wr := []) (va_runV (As := [.int 0]) (rest := []) (Ts := []) ⟨hx, hb, hml, hown, fun _ h9 => absurd h9 List.not_mem_nil⟩ (cw_X7_isNext l E _ h0 h1 h2 h3 h4 h5) (rc_cwV hAm qw_1417 qw_13 qw_1420 qw_1419 qs_68 rfl rfl hd_X7_isNext ⟨Nat.le_of_ble_eq_true rfl, Nat.le_of_ble_eq_true rfl⟩) (rc_preV hAm hA hw [0] rfl rfl 0 rfl (q := vwCl[12]) rfl) rfl rfl hl.1 rfl (lv_room (Nat.le_of_ble_eq_true rfl)) dX7_moved_4 ⟨Nat.le_of_ble_eq_true rfl, Nat.le_of_ble_eq_true rfl⟩) hA hw [0] [] rfl rfl rfl (by decide) (fun r_1 u_2 H locs hp hw => ?_)
  obtain ⟨rfl, rfl⟩ := hp
  have hw : rc_W E A s [(h0, .inr (12, [.int 0, .ref h1, .ref h2, .ref h3, .ref h4, .ref h5, .int 1, .int 3, .int 50, .int (-1), .int (-1), .int (-1), .int (-1), .int 0, .int 100, .int 1000, .long 0]))] H locs := hw
  refine lv_if_eq (tgt := 16) hx hb dX7_moved_7 (by decide) (fun _ => ?_) (fun c9 => absurd (by decide) c9)
  refine lv_iload_n hx hb dX7_moved_16 rfl (lv_at hl 0 rfl) ?_
  exact rc_iret (v := 0) hx hb hr hlocks hw [(h0, .inr (12, [.int 0, .ref h1, .ref h2, .ref h3, .ref h4, .ref h5, .int 1, .int 3, .int 50, .int (-1), .int (-1), .int (-1), .int (-1), .int 0, .int 100, .int 1000, .long 0]))] (⟨rfl, rfl⟩) [0] rfl (by decide) (Nat.le_of_ble_eq_true rfl) (Nat.le_of_ble_eq_true rfl) dX7_moved_17
theorem hd_X7_moved : yX7_moved.cls ≠ "java/lang/invoke/MethodHandle" ∧ yX7_moved.cls ≠ "java/lang/invoke/VarHandle" ∧ (parseMethodDescriptor yX7_moved.desc).map (fun d => d.parameters.length) = some 1 := by decide +kernel
set_option maxHeartbeats 4000000 in
set_option maxRecDepth 100000 in
theorem cw_X7_move (l : Launch) (E : rc_E) (sz : Nat) (h0 : Nat) (h1 : Nat) (h2 : Nat) (h3 : Nat) (h4 : Nat) (h5 : Nat) : rc_Mi l yX7_move [Cond.code yX7_move cX7_move 2 (some FieldType.int)] { frames := 2, cells := 0, slots := 0, locals := 44 } E [.ref h0] [(h0, .inr (12, [.int 0, .ref h1, .ref h2, .ref h3, .ref h4, .ref h5, .int 1, .int 3, .int 50, .int (-1), .int (-1), .int (-1), .int (-1), .int 0, .int 100, .int 1000, .long 0]))] sz (S := va_W) (fun (r : Int32) (u : va_W) => (0 = r ∧ u = [(h0, .inr (12, [.int 0, .ref h1, .ref h2, .ref h3, .ref h4, .ref h5, .int 1, .int 3, .int 50, .int (-1), .int (-1), .int (-1), .int (-1), .int 0, .int 100, .int 1000, .long 0]))])) (fun u => u) 0 0 := by
  refine rc_ini (cc := cX7_move) (maxL := 2) (ret := (some FieldType.int)) (by decide) rfl (Nat.le_of_ble_eq_true rfl) ?_
  intro p e s m args below meth c ls A hx hb hr hml _ hown hlocks hin hA hAm hw hl
  have hown : s.vm.findClass RX7 = some m.cls := hown
  have hl : lv_has ls 2 [(0, .ref h0)] := hl
  refine lv_aload_n hx hb dX7_move_0 rfl (lv_at hl 0 rfl) ?_
  refine lv_iconst (v := 0) hx hb dX7_move_1 (by decide) ?_
  refine rc_put hx hb hown hAm hw lyX7 tyX7 tyX7_ok nmX7 0 rfl rfl 0 (by decide) qw_860 (fun _ h9 => h9) rfl rfl (by decide +kernel) (Nat.le_of_ble_eq_true rfl) [(h0, .inr (12, [.int 0, .ref h1, .ref h2, .ref h3, .ref h4, .ref h5, .int 1, .int 3, .int 50, .int (-1), .int (-1), .int (-1), .int (-1), .int 0, .int 100, .int 1000, .long 0]))] rfl dX7_move_2 (fun H locs hw => ?_)
  refine lv_aload_n hx hb dX7_move_5 rfl (lv_at hl 0 rfl) ?_
  refine lv_aload_n hx hb dX7_move_6 rfl (lv_at hl 0 rfl) ?_
  refine rc_get (v := .int 0) hx hb hown hAm hw lyX7 0 rfl rfl 13 (by decide) qw_873 (fun _ h9 => h9) rfl dX7_move_7 ?_
  refine rc_calli (wr := []) (va_runV (As := [.int 0]) (rest := []) (Ts := []) ⟨hx, hb, hml, hown, fun _ h9 => absurd h9 List.not_mem_nil⟩ (cw_X7_moved l E _ h0 h1 h2 h3 h4 h5) (rc_cwV hAm qw_1413 qw_13 qw_1416 qw_1415 qs_67 rfl rfl hd_X7_moved ⟨Nat.le_of_ble_eq_true rfl, Nat.le_of_ble_eq_true rfl⟩) (rc_preV hAm hA hw [0] rfl rfl 0 rfl (q := vwCl[12]) rfl) rfl rfl hl.1 rfl (lv_room (Nat.le_of_ble_eq_true rfl)) dX7_move_10 ⟨Nat.le_of_ble_eq_true rfl, Nat.le_of_ble_eq_true rfl⟩) hA hw [0] [] rfl rfl rfl (by decide) (fun r_1 u_2 H locs hp hw => ?_)
  obtain ⟨rfl, rfl⟩ := hp
  have hw : rc_W E A s [(h0, .inr (12, [.int 0, .ref h1, .ref h2, .ref h3, .ref h4, .ref h5, .int 1, .int 3, .int 50, .int (-1), .int (-1), .int (-1), .int (-1), .int 0, .int 100, .int 1000, .long 0]))] H locs := hw
  refine lv_istore_n (lv' := [(1, .int 0), (0, .ref h0)]) hx hb dX7_move_13 rfl hl (by decide) rfl (fun ls hl => ?_)
  refine lv_aload_n hx hb dX7_move_14 rfl (lv_at hl 1 rfl) ?_
  refine rc_get (v := .int 0) hx hb hown hAm hw lyX7 0 rfl rfl 13 (by decide) qw_873 (fun _ h9 => h9) rfl dX7_move_15 ?_
  refine lv_iload_n hx hb dX7_move_18 rfl (lv_at hl 0 rfl) ?_
  refine lv_icmp_ge (tgt := 83) hx hb dX7_move_19 (by decide) (fun _ => ?_) (fun c9 => absurd (by decide) c9)
  refine lv_aload_n hx hb dX7_move_83 rfl (lv_at hl 1 rfl) ?_
  refine rc_get (v := .int 0) hx hb hown hAm hw lyX7 0 rfl rfl 13 (by decide) qw_873 (fun _ h9 => h9) rfl dX7_move_84 ?_
  exact rc_iret (v := 0) hx hb hr hlocks hw [(h0, .inr (12, [.int 0, .ref h1, .ref h2, .ref h3, .ref h4, .ref h5, .int 1, .int 3, .int 50, .int (-1), .int (-1), .int (-1), .int (-1), .int 0, .int 100, .int 1000, .long 0]))] (⟨rfl, rfl⟩) [0] rfl (by decide) (Nat.le_of_ble_eq_true rfl) (Nat.le_of_ble_eq_true rfl) dX7_move_87
set_option maxHeartbeats 4000000 in
set_option maxRecDepth 100000 in
theorem cw_X7_is_8 (l : Launch) (E : rc_E) (sz : Nat) (x0 : Int32) : rc_Mi l yX7_is [Cond.code yX7_is cX7_is 3 (some FieldType.boolean)] { frames := 0, cells := 0, slots := 0, locals := 0 } E [.int x0, .int 1, .int 100] [] sz (S := va_W) (fun (r : Int32) (u : va_W) => (x0 < 1 ∧ 0 = r ∧ u = []) ∨ (¬ x0 < 1 ∧ 100 < x0 ∧ 0 = r ∧ u = []) ∨ (¬ x0 < 1 ∧ ¬ 100 < x0 ∧ 1 = r ∧ u = [])) (fun u => u) 0 0 := by
  refine rc_ini (cc := cX7_is) (maxL := 3) (ret := (some FieldType.boolean)) (by decide) rfl (Nat.le_of_ble_eq_true rfl) ?_
  intro p e s m args below meth c ls A hx hb hr hml _ hown hlocks hin hA hAm hw hl
  have hown : s.vm.findClass RX7 = some m.cls := hown
  have hl : lv_has ls 3 [(0, .int x0), (1, .int 1), (2, .int 100)] := hl
  refine lv_iload_n hx hb dX7_is_0 rfl (lv_at hl 0 rfl) ?_
  refine lv_iload_n hx hb dX7_is_1 rfl (lv_at hl 1 rfl) ?_
  refine lv_icmp_lt (tgt := 14) hx hb dX7_is_2 (by decide) (fun c_1 => ?_) (fun c_1 => ?_)
  · refine lv_iconst (v := 0) hx hb dX7_is_14 (by decide) ?_
    exact rc_zret (v := 0) hx hb hr hlocks hw rfl [] (Or.inl ⟨c_1, rfl, rfl⟩) [] rfl (by decide) (Nat.le_of_ble_eq_true rfl) (Nat.le_of_ble_eq_true rfl) dX7_is_15
  · refine lv_iload_n hx hb dX7_is_5 rfl (lv_at hl 0 rfl) ?_
    refine lv_iload_n hx hb dX7_is_6 rfl (lv_at hl 2 rfl) ?_
    refine lv_icmp_gt (tgt := 14) hx hb dX7_is_7 (by decide) (fun c_2 => ?_) (fun c_2 => ?_)
    · refine lv_iconst (v := 0) hx hb dX7_is_14 (by decide) ?_
      exact rc_zret (v := 0) hx hb hr hlocks hw rfl [] (Or.inr (Or.inl ⟨c_1, c_2, rfl, rfl⟩)) [] rfl (by decide) (Nat.le_of_ble_eq_true rfl) (Nat.le_of_ble_eq_true rfl) dX7_is_15
    · refine lv_iconst (v := 1) hx hb dX7_is_10 (by decide) ?_
      refine lv_goto (tgt := 15) hx hb dX7_is_11 (by decide) ?_
      exact rc_zret (v := 1) hx hb hr hlocks hw rfl [] (Or.inr (Or.inr ⟨c_1, c_2, rfl, rfl⟩)) [] rfl (by decide) (Nat.le_of_ble_eq_true rfl) (Nat.le_of_ble_eq_true rfl) dX7_is_15
set_option maxHeartbeats 4000000 in
set_option maxRecDepth 100000 in
theorem cw_X7_refuse_3 (l : Launch) (E : rc_E) (sz : Nat) (h0 : Nat) (h1 : Nat) (h2 : Nat) (h3 : Nat) (h4 : Nat) (h5 : Nat) : rc_Mi l yX7_refuse [Cond.code yX7_refuse cX7_refuse 2 (some FieldType.int)] { frames := 0, cells := 0, slots := 0, locals := 0 } E [.ref h0, .int 3] [(h0, .inr (12, [.int 0, .ref h1, .ref h2, .ref h3, .ref h4, .ref h5, .int 1, .int 3, .int 50, .int (-1), .int (-1), .int (-1), .int (-1), .int 0, .int 100, .int 1000, .long 0]))] sz (S := va_W) (fun (r : Int32) (u : va_W) => (0 = r ∧ u = [(h0, .inr (12, [.int 3, .ref h1, .ref h2, .ref h3, .ref h4, .ref h5, .int 1, .int 3, .int 50, .int (-1), .int (-1), .int (-1), .int (-1), .int 0, .int 100, .int 1000, .long 0]))])) (fun u => u) 0 0 := by
  refine rc_ini (cc := cX7_refuse) (maxL := 2) (ret := (some FieldType.int)) (by decide) rfl (Nat.le_of_ble_eq_true rfl) ?_
  intro p e s m args below meth c ls A hx hb hr hml _ hown hlocks hin hA hAm hw hl
  have hown : s.vm.findClass RX7 = some m.cls := hown
  have hl : lv_has ls 2 [(0, .ref h0), (1, .int 3)] := hl
  refine lv_aload_n hx hb dX7_refuse_0 rfl (lv_at hl 0 rfl) ?_
  refine lv_iload_n hx hb dX7_refuse_1 rfl (lv_at hl 1 rfl) ?_
  refine rc_put hx hb hown hAm hw lyX7 tyX7 tyX7_ok nmX7 0 rfl rfl 0 (by decide) qw_860 (fun _ h9 => h9) rfl rfl (by decide +kernel) (Nat.le_of_ble_eq_true rfl) [(h0, .inr (12, [.int 3, .ref h1, .ref h2, .ref h3, .ref h4, .ref h5, .int 1, .int 3, .int 50, .int (-1), .int (-1), .int (-1), .int (-1), .int 0, .int 100, .int 1000, .long 0]))] rfl dX7_refuse_2 (fun H locs hw => ?_)
  refine lv_iconst (v := 0) hx hb dX7_refuse_5 (by decide) ?_
  exact rc_iret (v := 0) hx hb hr hlocks hw [(h0, .inr (12, [.int 3, .ref h1, .ref h2, .ref h3, .ref h4, .ref h5, .int 1, .int 3, .int 50, .int (-1), .int (-1), .int (-1), .int (-1), .int 0, .int 100, .int 1000, .long 0]))] (⟨rfl, rfl⟩) [0] rfl (by decide) (Nat.le_of_ble_eq_true rfl) (Nat.le_of_ble_eq_true rfl) dX7_refuse_6
set_option maxHeartbeats 4000000 in
set_option maxRecDepth 100000 in
theorem cw_X7_excuse (l : Launch) (E : rc_E) (sz : Nat) (h0 : Nat) (x0 : Int32) (x1 : Int32) (h1 : Nat) (h2 : Nat) (h3 : Nat) (h4 : Nat) (h5 : Nat) : rc_Mi l yX7_excuse [Cond.code yX7_excuse cX7_excuse 3 (some FieldType.int)] { frames := 2, cells := 0, slots := 0, locals := 43 } E [.ref h0, .int x0, .int x1] [(h0, .inr (12, [.int 0, .ref h1, .ref h2, .ref h3, .ref h4, .ref h5, .int 1, .int 3, .int 50, .int (-1), .int (-1), .int (-1), .int (-1), .int 0, .int 100, .int 1000, .long 0])), (h4, .inl (E.2.1 3, 40, .inl (fun _ => 0)))] sz (S := va_W) (fun (r : Int32) (u : va_W) => (x0 < 0 ∧ 0 = r ∧ u = [(h0, .inr (12, [.int 1, .ref h1, .ref h2, .ref h3, .ref h4, .ref h5, .int 1, .int 3, .int 50, .int (-1), .int (-1), .int (-1), .int (-1), .int 0, .int 100, .int 1000, .long 0])), (h4, .inl (E.2.1 3, 40, .inl (fun _ => 0)))]) ∨ (¬ x0 < 0 ∧ 0 < x0 ∧ 0 = r ∧ u = [(h0, .inr (12, [.int 1, .ref h1, .ref h2, .ref h3, .ref h4, .ref h5, .int 1, .int 3, .int 50, .int (-1), .int (-1), .int (-1), .int (-1), .int 0, .int 100, .int 1000, .long 0])), (h4, .inl (E.2.1 3, 40, .inl (fun _ => 0)))]) ∨ (x1 < 1 ∧ x0 = 0 ∧ 0 = r ∧ u = [(h0, .inr (12, [.int 2, .ref h1, .ref h2, .ref h3, .ref h4, .ref h5, .int 1, .int 3, .int 50, .int (-1), .int (-1), .int (-1), .int (-1), .int 0, .int 100, .int 1000, .long 0])), (h4, .inl (E.2.1 3, 40, .inl (fun _ => 0)))]) ∨ (¬ x1 < 1 ∧ 100 < x1 ∧ x0 = 0 ∧ 0 = r ∧ u = [(h0, .inr (12, [.int 2, .ref h1, .ref h2, .ref h3, .ref h4, .ref h5, .int 1, .int 3, .int 50, .int (-1), .int (-1), .int (-1), .int (-1), .int 0, .int 100, .int 1000, .long 0])), (h4, .inl (E.2.1 3, 40, .inl (fun _ => 0)))]) ∨ (¬ x1 < 1 ∧ ¬ 100 < x1 ∧ x0 = 0 ∧ 0 = r ∧ u = [(h0, .inr (12, [.int 3, .ref h1, .ref h2, .ref h3, .ref h4, .ref h5, .int 1, .int 3, .int 50, .int (-1), .int (-1), .int (-1), .int (-1), .int 0, .int 100, .int 1000, .long 0])), (h4, .inl (E.2.1 3, 40, .inl (fun _ => 0)))])) (fun u => u) 0 0 := by
  refine rc_ini (cc := cX7_excuse) (maxL := 3) (ret := (some FieldType.int)) (by decide) rfl (Nat.le_of_ble_eq_true rfl) ?_
  intro p e s m args below meth c ls A hx hb hr hml _ hown hlocks hin hA hAm hw hl
  have hown : s.vm.findClass RX7 = some m.cls := hown
  have hl : lv_has ls 3 [(0, .ref h0), (1, .int x0), (2, .int x1)] := hl
  refine lv_aload_n hx hb dX7_excuse_0 rfl (lv_at hl 0 rfl) ?_
  refine lv_iconst (v := 0) hx hb dX7_excuse_1 (by decide) ?_
  refine rc_put hx hb hown hAm hw lyX7 tyX7 tyX7_ok nmX7 0 rfl rfl 0 (by decide) qw_860 (fun _ h9 => h9) rfl rfl (by decide +kernel) (Nat.le_of_ble_eq_true rfl) [(h0, .inr (12, [.int 0, .ref h1, .ref h2, .ref h3, .ref h4, .ref h5, .int 1, .int 3, .int 50, .int (-1), .int (-1), .int (-1), .int (-1), .int 0, .int 100, .int 1000, .long 0])), (h4, .inl (E.2.1 3, 40, .inl (fun _ => 0)))] rfl dX7_excuse_2 (fun H locs hw => ?_)
  refine lv_aload_n hx hb dX7_excuse_5 rfl (lv_at hl 0 rfl) ?_
  refine lv_iload_n hx hb dX7_excuse_6 rfl (lv_at hl 1 rfl) ?_
  refine rc_calli (wr := [(h4, .inl (E.2.1 3, 40, .inl (fun _ => 0)))]) (va_runV (As := [.int x0]) (rest := []) (Ts := []) ⟨hx, hb, hml, hown, fun _ h9 => absurd h9 List.not_mem_nil⟩ (cw_X7_isChange l E _ h0 x0 h1 h2 h3 h4 h5) (rc_cwV hAm qw_1353 qw_13 qw_1356 qw_1355 qs_62 rfl rfl hd_X7_isChange ⟨Nat.le_of_ble_eq_true rfl, Nat.le_of_ble_eq_true rfl⟩) (rc_preV hAm hA hw [0] rfl rfl 0 rfl (q := vwCl[12]) rfl) rfl rfl hl.1 rfl (lv_room (Nat.le_of_ble_eq_true rfl)) dX7_excuse_7 ⟨Nat.le_of_ble_eq_true rfl, Nat.le_of_ble_eq_true rfl⟩) hA hw [0] [1] rfl rfl rfl (by decide) (fun r_1 u_2 H locs hp hw => ?_)
  rcases hp with ⟨c_3, rfl, rfl⟩ | ⟨c_4, c_5, rfl, rfl⟩ | ⟨c_6, rfl, rfl⟩
  · have hw : rc_W E A s [(h4, .inl (E.2.1 3, 40, .inl (fun _ => 0))), (h0, .inr (12, [.int 0, .ref h1, .ref h2, .ref h3, .ref h4, .ref h5, .int 1, .int 3, .int 50, .int (-1), .int (-1), .int (-1), .int (-1), .int 0, .int 100, .int 1000, .long 0]))] H locs := hw
    refine lv_if_ne (tgt := 19) hx hb dX7_excuse_10 (by decide) (fun c9 => absurd (by decide) c9) (fun _ => ?_)
    refine lv_aload_n hx hb dX7_excuse_13 rfl (lv_at hl 0 rfl) ?_
    refine lv_iconst (v := 1) hx hb dX7_excuse_14 (by decide) ?_
    refine rc_calli (wr := [(h4, .inl (E.2.1 3, 40, .inl (fun _ => 0)))]) (va_runV (As := [.int 1]) (rest := []) (Ts := []) ⟨hx, hb, hml, hown, fun _ h9 => absurd h9 List.not_mem_nil⟩ (cw_X7_refuse l E _ h0 h1 h2 h3 h4 h5) (rc_cwV hAm qw_924 qw_13 qw_927 qw_926 qs_50 rfl rfl hd_X7_refuse ⟨Nat.le_of_ble_eq_true rfl, Nat.le_of_ble_eq_true rfl⟩) (rc_preV hAm hA hw [1] rfl rfl 1 rfl (q := vwCl[12]) rfl) rfl rfl hl.1 rfl (lv_room (Nat.le_of_ble_eq_true rfl)) dX7_excuse_15 ⟨Nat.le_of_ble_eq_true rfl, Nat.le_of_ble_eq_true rfl⟩) hA hw [1] [0] rfl rfl rfl (by decide) (fun r_7 u_8 H locs hp hw => ?_)
    obtain ⟨rfl, rfl⟩ := hp
    have hw : rc_W E A s [(h4, .inl (E.2.1 3, 40, .inl (fun _ => 0))), (h0, .inr (12, [.int 1, .ref h1, .ref h2, .ref h3, .ref h4, .ref h5, .int 1, .int 3, .int 50, .int (-1), .int (-1), .int (-1), .int (-1), .int 0, .int 100, .int 1000, .long 0]))] H locs := hw
    exact rc_iret (v := 0) hx hb hr hlocks hw [(h0, .inr (12, [.int 1, .ref h1, .ref h2, .ref h3, .ref h4, .ref h5, .int 1, .int 3, .int 50, .int (-1), .int (-1), .int (-1), .int (-1), .int 0, .int 100, .int 1000, .long 0])), (h4, .inl (E.2.1 3, 40, .inl (fun _ => 0)))] (Or.inl ⟨c_3, rfl, rfl⟩) [1, 0] rfl (by decide) (Nat.le_of_ble_eq_true rfl) (Nat.le_of_ble_eq_true rfl) dX7_excuse_18
  · have hw : rc_W E A s [(h4, .inl (E.2.1 3, 40, .inl (fun _ => 0))), (h0, .inr (12, [.int 0, .ref h1, .ref h2, .ref h3, .ref h4, .ref h5, .int 1, .int 3, .int 50, .int (-1), .int (-1), .int (-1), .int (-1), .int 0, .int 100, .int 1000, .long 0]))] H locs := hw
    refine lv_if_ne (tgt := 19) hx hb dX7_excuse_10 (by decide) (fun c9 => absurd (by decide) c9) (fun _ => ?_)
    refine lv_aload_n hx hb dX7_excuse_13 rfl (lv_at hl 0 rfl) ?_
    refine lv_iconst (v := 1) hx hb dX7_excuse_14 (by decide) ?_
    refine rc_calli (wr := [(h4, .inl (E.2.1 3, 40, .inl (fun _ => 0)))]) (va_runV (As := [.int 1]) (rest := []) (Ts := []) ⟨hx, hb, hml, hown, fun _ h9 => absurd h9 List.not_mem_nil⟩ (cw_X7_refuse l E _ h0 h1 h2 h3 h4 h5) (rc_cwV hAm qw_924 qw_13 qw_927 qw_926 qs_50 rfl rfl hd_X7_refuse ⟨Nat.le_of_ble_eq_true rfl, Nat.le_of_ble_eq_true rfl⟩) (rc_preV hAm hA hw [1] rfl rfl 1 rfl (q := vwCl[12]) rfl) rfl rfl hl.1 rfl (lv_room (Nat.le_of_ble_eq_true rfl)) dX7_excuse_15 ⟨Nat.le_of_ble_eq_true rfl, Nat.le_of_ble_eq_true rfl⟩) hA hw [1] [0] rfl rfl rfl (by decide) (fun r_9 u_10 H locs hp hw => ?_)
    obtain ⟨rfl, rfl⟩ := hp
    have hw : rc_W E A s [(h4, .inl (E.2.1 3, 40, .inl (fun _ => 0))), (h0, .inr (12, [.int 1, .ref h1, .ref h2, .ref h3, .ref h4, .ref h5, .int 1, .int 3, .int 50, .int (-1), .int (-1), .int (-1), .int (-1), .int 0, .int 100, .int 1000, .long 0]))] H locs := hw
    exact rc_iret (v := 0) hx hb hr hlocks hw [(h0, .inr (12, [.int 1, .ref h1, .ref h2, .ref h3, .ref h4, .ref h5, .int 1, .int 3, .int 50, .int (-1), .int (-1), .int (-1), .int (-1), .int 0, .int 100, .int 1000, .long 0])), (h4, .inl (E.2.1 3, 40, .inl (fun _ => 0)))] (Or.inr (Or.inl ⟨c_4, c_5, rfl, rfl⟩)) [1, 0] rfl (by decide) (Nat.le_of_ble_eq_true rfl) (Nat.le_of_ble_eq_true rfl) dX7_excuse_18
  · obtain rfl : x0 = 0 := rc_eqc (b := 0) rfl (by have g_c_6 := rc_g5 (b := 0) c_6 rfl; omega)
    have hw : rc_W E A s [(h4, .inl (E.2.1 3, 40, .inl (fun _ => 0))), (h0, .inr (12, [.int 0, .ref h1, .ref h2, .ref h3, .ref h4, .ref h5, .int 1, .int 3, .int 50, .int (-1), .int (-1), .int (-1), .int (-1), .int 0, .int 100, .int 1000, .long 0]))] H locs := hw
    refine lv_if_ne (tgt := 19) hx hb dX7_excuse_10 (by decide) (fun _ => ?_) (fun c9 => absurd c9 (by decide))
    refine lv_iload_n hx hb dX7_excuse_19 rfl (lv_at hl 2 rfl) ?_
    refine lv_iconst (v := 1) hx hb dX7_excuse_20 (by decide) ?_
    refine lv_bipush (v := 100) hx hb dX7_excuse_21 (by decide) ?_
    refine rc_calli (wr := [(h4, .inl (E.2.1 3, 40, .inl (fun _ => 0))), (h0, .inr (12, [.int 0, .ref h1, .ref h2, .ref h3, .ref h4, .ref h5, .int 1, .int 3, .int 50, .int (-1), .int (-1), .int (-1), .int (-1), .int 0, .int 100, .int 1000, .long 0]))]) (va_runS (As := [.int x1, .int 1, .int 100]) (rest := []) (Ts := []) ⟨hx, hb, hml, hown, fun _ h9 => absurd h9 List.not_mem_nil⟩ (cw_X7_is_8 l E _ x1) (rc_cwS hAm qw_921 qw_13 qw_923 qw_922 rfl rfl hd_X7_is ⟨Nat.le_of_ble_eq_true rfl, Nat.le_of_ble_eq_true rfl⟩) (rc_preS hAm hA hw [] rfl rfl) rfl rfl hl.1 rfl (lv_room (Nat.le_of_ble_eq_true rfl)) dX7_excuse_23 ⟨Nat.le_of_ble_eq_true rfl, Nat.le_of_ble_eq_true rfl⟩) hA hw [] [0, 1] rfl rfl rfl (by decide) (fun r_11 u_12 H locs hp hw => ?_)
    rcases hp with ⟨c_13, rfl, rfl⟩ | ⟨c_14, c_15, rfl, rfl⟩ | ⟨c_16, c_17, rfl, rfl⟩
    · have hw : rc_W E A s [(h4, .inl (E.2.1 3, 40, .inl (fun _ => 0))), (h0, .inr (12, [.int 0, .ref h1, .ref h2, .ref h3, .ref h4, .ref h5, .int 1, .int 3, .int 50, .int (-1), .int (-1), .int (-1), .int (-1), .int 0, .int 100, .int 1000, .long 0]))] H locs := hw
      refine lv_if_ne (tgt := 35) hx hb dX7_excuse_26 (by decide) (fun c9 => absurd (by decide) c9) (fun _ => ?_)
      refine lv_aload_n hx hb dX7_excuse_29 rfl (lv_at hl 0 rfl) ?_
      refine lv_iconst (v := 2) hx hb dX7_excuse_30 (by decide) ?_
      refine rc_calli (wr := [(h4, .inl (E.2.1 3, 40, .inl (fun _ => 0)))]) (va_runV (As := [.int 2]) (rest := []) (Ts := []) ⟨hx, hb, hml, hown, fun _ h9 => absurd h9 List.not_mem_nil⟩ (cw_X7_refuse_2 l E _ h0 h1 h2 h3 h4 h5) (rc_cwV hAm qw_924 qw_13 qw_927 qw_926 qs_50 rfl rfl hd_X7_refuse ⟨Nat.le_of_ble_eq_true rfl, Nat.le_of_ble_eq_true rfl⟩) (rc_preV hAm hA hw [1] rfl rfl 1 rfl (q := vwCl[12]) rfl) rfl rfl hl.1 rfl (lv_room (Nat.le_of_ble_eq_true rfl)) dX7_excuse_31 ⟨Nat.le_of_ble_eq_true rfl, Nat.le_of_ble_eq_true rfl⟩) hA hw [1] [0] rfl rfl rfl (by decide) (fun r_18 u_19 H locs hp hw => ?_)
      obtain ⟨rfl, rfl⟩ := hp
      have hw : rc_W E A s [(h4, .inl (E.2.1 3, 40, .inl (fun _ => 0))), (h0, .inr (12, [.int 2, .ref h1, .ref h2, .ref h3, .ref h4, .ref h5, .int 1, .int 3, .int 50, .int (-1), .int (-1), .int (-1), .int (-1), .int 0, .int 100, .int 1000, .long 0]))] H locs := hw
      exact rc_iret (v := 0) hx hb hr hlocks hw [(h0, .inr (12, [.int 2, .ref h1, .ref h2, .ref h3, .ref h4, .ref h5, .int 1, .int 3, .int 50, .int (-1), .int (-1), .int (-1), .int (-1), .int 0, .int 100, .int 1000, .long 0])), (h4, .inl (E.2.1 3, 40, .inl (fun _ => 0)))] (Or.inr (Or.inr (Or.inl ⟨c_13, rfl, rfl, rfl⟩))) [1, 0] rfl (by decide) (Nat.le_of_ble_eq_true rfl) (Nat.le_of_ble_eq_true rfl) dX7_excuse_34
    · have hw : rc_W E A s [(h4, .inl (E.2.1 3, 40, .inl (fun _ => 0))), (h0, .inr (12, [.int 0, .ref h1, .ref h2, .ref h3, .ref h4, .ref h5, .int 1, .int 3, .int 50, .int (-1), .int (-1), .int (-1), .int (-1), .int 0, .int 100, .int 1000, .long 0]))] H locs := hw
      refine lv_if_ne (tgt := 35) hx hb dX7_excuse_26 (by decide) (fun c9 => absurd (by decide) c9) (fun _ => ?_)
      refine lv_aload_n hx hb dX7_excuse_29 rfl (lv_at hl 0 rfl) ?_
      refine lv_iconst (v := 2) hx hb dX7_excuse_30 (by decide) ?_
      refine rc_calli (wr := [(h4, .inl (E.2.1 3, 40, .inl (fun _ => 0)))]) (va_runV (As := [.int 2]) (rest := []) (Ts := []) ⟨hx, hb, hml, hown, fun _ h9 => absurd h9 List.not_mem_nil⟩ (cw_X7_refuse_2 l E _ h0 h1 h2 h3 h4 h5) (rc_cwV hAm qw_924 qw_13 qw_927 qw_926 qs_50 rfl rfl hd_X7_refuse ⟨Nat.le_of_ble_eq_true rfl, Nat.le_of_ble_eq_true rfl⟩) (rc_preV hAm hA hw [1] rfl rfl 1 rfl (q := vwCl[12]) rfl) rfl rfl hl.1 rfl (lv_room (Nat.le_of_ble_eq_true rfl)) dX7_excuse_31 ⟨Nat.le_of_ble_eq_true rfl, Nat.le_of_ble_eq_true rfl⟩) hA hw [1] [0] rfl rfl rfl (by decide) (fun r_20 u_21 H locs hp hw => ?_)
      obtain ⟨rfl, rfl⟩ := hp
      have hw : rc_W E A s [(h4, .inl (E.2.1 3, 40, .inl (fun _ => 0))), (h0, .inr (12, [.int 2, .ref h1, .ref h2, .ref h3, .ref h4, .ref h5, .int 1, .int 3, .int 50, .int (-1), .int (-1), .int (-1), .int (-1), .int 0, .int 100, .int 1000, .long 0]))] H locs := hw
      exact rc_iret (v := 0) hx hb hr hlocks hw [(h0, .inr (12, [.int 2, .ref h1, .ref h2, .ref h3, .ref h4, .ref h5, .int 1, .int 3, .int 50, .int (-1), .int (-1), .int (-1), .int (-1), .int 0, .int 100, .int 1000, .long 0])), (h4, .inl (E.2.1 3, 40, .inl (fun _ => 0)))] (Or.inr (Or.inr (Or.inr (Or.inl ⟨c_14, c_15, rfl, rfl, rfl⟩)))) [1, 0] rfl (by decide) (Nat.le_of_ble_eq_true rfl) (Nat.le_of_ble_eq_true rfl) dX7_excuse_34
    · have hw : rc_W E A s [(h4, .inl (E.2.1 3, 40, .inl (fun _ => 0))), (h0, .inr (12, [.int 0, .ref h1, .ref h2, .ref h3, .ref h4, .ref h5, .int 1, .int 3, .int 50, .int (-1), .int (-1), .int (-1), .int (-1), .int 0, .int 100, .int 1000, .long 0]))] H locs := hw
      refine lv_if_ne (tgt := 35) hx hb dX7_excuse_26 (by decide) (fun _ => ?_) (fun c9 => absurd c9 (by decide))
      refine lv_aload_n hx hb dX7_excuse_35 rfl (lv_at hl 0 rfl) ?_
      refine rc_get (v := .ref h4) hx hb hown hAm hw lyX7 1 rfl rfl 4 (by decide) qw_864 (fun _ h9 => h9) rfl dX7_excuse_36 ?_
      refine lv_iload_n hx hb dX7_excuse_39 rfl (lv_at hl 1 rfl) ?_
      refine rc_zald hx hb hAm hw 0 rfl (vp_in_iff.mpr (by decide)) dX7_excuse_40 ?_
      refine rc_topi 0 rfl ?_
      refine lv_if_eq (tgt := 61) hx hb dX7_excuse_41 (by decide) (fun _ => ?_) (fun c9 => absurd (by decide) c9)
      refine lv_aload_n hx hb dX7_excuse_61 rfl (lv_at hl 0 rfl) ?_
      refine lv_iconst (v := 3) hx hb dX7_excuse_62 (by decide) ?_
      refine rc_calli (wr := [(h4, .inl (E.2.1 3, 40, .inl (fun _ => 0)))]) (va_runV (As := [.int 3]) (rest := []) (Ts := []) ⟨hx, hb, hml, hown, fun _ h9 => absurd h9 List.not_mem_nil⟩ (cw_X7_refuse_3 l E _ h0 h1 h2 h3 h4 h5) (rc_cwV hAm qw_924 qw_13 qw_927 qw_926 qs_50 rfl rfl hd_X7_refuse ⟨Nat.le_of_ble_eq_true rfl, Nat.le_of_ble_eq_true rfl⟩) (rc_preV hAm hA hw [1] rfl rfl 1 rfl (q := vwCl[12]) rfl) rfl rfl hl.1 rfl (lv_room (Nat.le_of_ble_eq_true rfl)) dX7_excuse_63 ⟨Nat.le_of_ble_eq_true rfl, Nat.le_of_ble_eq_true rfl⟩) hA hw [1] [0] rfl rfl rfl (by decide) (fun r_22 u_23 H locs hp hw => ?_)
      obtain ⟨rfl, rfl⟩ := hp
      have hw : rc_W E A s [(h4, .inl (E.2.1 3, 40, .inl (fun _ => 0))), (h0, .inr (12, [.int 3, .ref h1, .ref h2, .ref h3, .ref h4, .ref h5, .int 1, .int 3, .int 50, .int (-1), .int (-1), .int (-1), .int (-1), .int 0, .int 100, .int 1000, .long 0]))] H locs := hw
      exact rc_iret (v := 0) hx hb hr hlocks hw [(h0, .inr (12, [.int 3, .ref h1, .ref h2, .ref h3, .ref h4, .ref h5, .int 1, .int 3, .int 50, .int (-1), .int (-1), .int (-1), .int (-1), .int 0, .int 100, .int 1000, .long 0])), (h4, .inl (E.2.1 3, 40, .inl (fun _ => 0)))] (Or.inr (Or.inr (Or.inr (Or.inr ⟨c_16, c_17, rfl, rfl, rfl⟩)))) [1, 0] rfl (by decide) (Nat.le_of_ble_eq_true rfl) (Nat.le_of_ble_eq_true rfl) dX7_excuse_66
set_option maxHeartbeats 4000000 in
set_option maxRecDepth 100000 in
theorem cw_X7_is_9 (l : Launch) (E : rc_E) (sz : Nat) (x0 : Int32) : rc_Mi l yX7_is [Cond.code yX7_is cX7_is 3 (some FieldType.boolean)] { frames := 0, cells := 0, slots := 0, locals := 0 } E [.int x0, .int 1, .int 5000] [] sz (S := va_W) (fun (r : Int32) (u : va_W) => (x0 < 1 ∧ 0 = r ∧ u = []) ∨ (¬ x0 < 1 ∧ 5000 < x0 ∧ 0 = r ∧ u = []) ∨ (¬ x0 < 1 ∧ ¬ 5000 < x0 ∧ 1 = r ∧ u = [])) (fun u => u) 0 0 := by
  refine rc_ini (cc := cX7_is) (maxL := 3) (ret := (some FieldType.boolean)) (by decide) rfl (Nat.le_of_ble_eq_true rfl) ?_
  intro p e s m args below meth c ls A hx hb hr hml _ hown hlocks hin hA hAm hw hl
  have hown : s.vm.findClass RX7 = some m.cls := hown
  have hl : lv_has ls 3 [(0, .int x0), (1, .int 1), (2, .int 5000)] := hl
  refine lv_iload_n hx hb dX7_is_0 rfl (lv_at hl 0 rfl) ?_
  refine lv_iload_n hx hb dX7_is_1 rfl (lv_at hl 1 rfl) ?_
  refine lv_icmp_lt (tgt := 14) hx hb dX7_is_2 (by decide) (fun c_1 => ?_) (fun c_1 => ?_)
  · refine lv_iconst (v := 0) hx hb dX7_is_14 (by decide) ?_
    exact rc_zret (v := 0) hx hb hr hlocks hw rfl [] (Or.inl ⟨c_1, rfl, rfl⟩) [] rfl (by decide) (Nat.le_of_ble_eq_true rfl) (Nat.le_of_ble_eq_true rfl) dX7_is_15
  · refine lv_iload_n hx hb dX7_is_5 rfl (lv_at hl 0 rfl) ?_
    refine lv_iload_n hx hb dX7_is_6 rfl (lv_at hl 2 rfl) ?_
    refine lv_icmp_gt (tgt := 14) hx hb dX7_is_7 (by decide) (fun c_2 => ?_) (fun c_2 => ?_)
    · refine lv_iconst (v := 0) hx hb dX7_is_14 (by decide) ?_
      exact rc_zret (v := 0) hx hb hr hlocks hw rfl [] (Or.inr (Or.inl ⟨c_1, c_2, rfl, rfl⟩)) [] rfl (by decide) (Nat.le_of_ble_eq_true rfl) (Nat.le_of_ble_eq_true rfl) dX7_is_15
    · refine lv_iconst (v := 1) hx hb dX7_is_10 (by decide) ?_
      refine lv_goto (tgt := 15) hx hb dX7_is_11 (by decide) ?_
      exact rc_zret (v := 1) hx hb hr hlocks hw rfl [] (Or.inr (Or.inr ⟨c_1, c_2, rfl, rfl⟩)) [] rfl (by decide) (Nat.le_of_ble_eq_true rfl) (Nat.le_of_ble_eq_true rfl) dX7_is_15
set_option maxHeartbeats 4000000 in
set_option maxRecDepth 100000 in
theorem cw_X7_budget (l : Launch) (E : rc_E) (sz : Nat) (h0 : Nat) (x0 : Int32) (h1 : Nat) (h2 : Nat) (h3 : Nat) (h4 : Nat) (h5 : Nat) : rc_Mi l yX7_budget [Cond.code yX7_budget cX7_budget 2 (some FieldType.int)] { frames := 1, cells := 0, slots := 0, locals := 22 } E [.ref h0, .int x0] [(h0, .inr (12, [.int 0, .ref h1, .ref h2, .ref h3, .ref h4, .ref h5, .int 1, .int 3, .int 50, .int (-1), .int (-1), .int (-1), .int (-1), .int 0, .int 100, .int 1000, .long 0]))] sz (S := va_W) (fun (r : Int32) (u : va_W) => (x0 < 1 ∧ 0 = r ∧ u = [(h0, .inr (12, [.int 1, .ref h1, .ref h2, .ref h3, .ref h4, .ref h5, .int 1, .int 3, .int 50, .int (-1), .int (-1), .int (-1), .int (-1), .int 0, .int 100, .int 1000, .long 0]))]) ∨ (¬ x0 < 1 ∧ 5000 < x0 ∧ 0 = r ∧ u = [(h0, .inr (12, [.int 1, .ref h1, .ref h2, .ref h3, .ref h4, .ref h5, .int 1, .int 3, .int 50, .int (-1), .int (-1), .int (-1), .int (-1), .int 0, .int 100, .int 1000, .long 0]))]) ∨ (¬ x0 < 1 ∧ ¬ 5000 < x0 ∧ (if (1000 + x0) < 5000 then (1000 + x0) else 5000) = r ∧ u = [(h0, .inr (12, [.int 0, .ref h1, .ref h2, .ref h3, .ref h4, .ref h5, .int 1, .int 3, .int 50, .int (-1), .int (-1), .int (-1), .int (-1), .int 0, .int 100, .int (if (1000 + x0) < 5000 then (1000 + x0) else 5000), .long 0]))])) (fun u => u) 0 0 := by
  refine rc_ini (cc := cX7_budget) (maxL := 2) (ret := (some FieldType.int)) (by decide) rfl (Nat.le_of_ble_eq_true rfl) ?_
  intro p e s m args below meth c ls A hx hb hr hml _ hown hlocks hin hA hAm hw hl
  have hown : s.vm.findClass RX7 = some m.cls := hown
  have hl : lv_has ls 2 [(0, .ref h0), (1, .int x0)] := hl
  refine lv_aload_n hx hb dX7_budget_0 rfl (lv_at hl 0 rfl) ?_
  refine lv_iconst (v := 0) hx hb dX7_budget_1 (by decide) ?_
  refine rc_put hx hb hown hAm hw lyX7 tyX7 tyX7_ok nmX7 0 rfl rfl 0 (by decide) qw_860 (fun _ h9 => h9) rfl rfl (by decide +kernel) (Nat.le_of_ble_eq_true rfl) [(h0, .inr (12, [.int 0, .ref h1, .ref h2, .ref h3, .ref h4, .ref h5, .int 1, .int 3, .int 50, .int (-1), .int (-1), .int (-1), .int (-1), .int 0, .int 100, .int 1000, .long 0]))] rfl dX7_budget_2 (fun H locs hw => ?_)
  refine lv_iload_n hx hb dX7_budget_5 rfl (lv_at hl 1 rfl) ?_
  refine lv_iconst (v := 1) hx hb dX7_budget_6 (by decide) ?_
  refine lv_sipush (v := 5000) hx hb dX7_budget_7 (by decide) ?_
  refine rc_calli (wr := [(h0, .inr (12, [.int 0, .ref h1, .ref h2, .ref h3, .ref h4, .ref h5, .int 1, .int 3, .int 50, .int (-1), .int (-1), .int (-1), .int (-1), .int 0, .int 100, .int 1000, .long 0]))]) (va_runS (As := [.int x0, .int 1, .int 5000]) (rest := []) (Ts := []) ⟨hx, hb, hml, hown, fun _ h9 => absurd h9 List.not_mem_nil⟩ (cw_X7_is_9 l E _ x0) (rc_cwS hAm qw_921 qw_13 qw_923 qw_922 rfl rfl hd_X7_is ⟨Nat.le_of_ble_eq_true rfl, Nat.le_of_ble_eq_true rfl⟩) (rc_preS hAm hA hw [] rfl rfl) rfl rfl hl.1 rfl (lv_room (Nat.le_of_ble_eq_true rfl)) dX7_budget_10 ⟨Nat.le_of_ble_eq_true rfl, Nat.le_of_ble_eq_true rfl⟩) hA hw [] [0] rfl rfl rfl (by decide) (fun r_1 u_2 H locs hp hw => ?_)
  rcases hp with ⟨c_3, rfl, rfl⟩ | ⟨c_4, c_5, rfl, rfl⟩ | ⟨c_6, c_7, rfl, rfl⟩
  · have hw : rc_W E A s [(h0, .inr (12, [.int 0, .ref h1, .ref h2, .ref h3, .ref h4, .ref h5, .int 1, .int 3, .int 50, .int (-1), .int (-1), .int (-1), .int (-1), .int 0, .int 100, .int 1000, .long 0]))] H locs := hw
    refine lv_if_ne (tgt := 22) hx hb dX7_budget_13 (by decide) (fun c9 => absurd (by decide) c9) (fun _ => ?_)
    refine lv_aload_n hx hb dX7_budget_16 rfl (lv_at hl 0 rfl) ?_
    refine lv_iconst (v := 1) hx hb dX7_budget_17 (by decide) ?_
    refine rc_calli (wr := []) (va_runV (As := [.int 1]) (rest := []) (Ts := []) ⟨hx, hb, hml, hown, fun _ h9 => absurd h9 List.not_mem_nil⟩ (cw_X7_refuse l E _ h0 h1 h2 h3 h4 h5) (rc_cwV hAm qw_924 qw_13 qw_927 qw_926 qs_50 rfl rfl hd_X7_refuse ⟨Nat.le_of_ble_eq_true rfl, Nat.le_of_ble_eq_true rfl⟩) (rc_preV hAm hA hw [0] rfl rfl 0 rfl (q := vwCl[12]) rfl) rfl rfl hl.1 rfl (lv_room (Nat.le_of_ble_eq_true rfl)) dX7_budget_18 ⟨Nat.le_of_ble_eq_true rfl, Nat.le_of_ble_eq_true rfl⟩) hA hw [0] [] rfl rfl rfl (by decide) (fun r_8 u_9 H locs hp hw => ?_)
    obtain ⟨rfl, rfl⟩ := hp
    have hw : rc_W E A s [(h0, .inr (12, [.int 1, .ref h1, .ref h2, .ref h3, .ref h4, .ref h5, .int 1, .int 3, .int 50, .int (-1), .int (-1), .int (-1), .int (-1), .int 0, .int 100, .int 1000, .long 0]))] H locs := hw
    exact rc_iret (v := 0) hx hb hr hlocks hw [(h0, .inr (12, [.int 1, .ref h1, .ref h2, .ref h3, .ref h4, .ref h5, .int 1, .int 3, .int 50, .int (-1), .int (-1), .int (-1), .int (-1), .int 0, .int 100, .int 1000, .long 0]))] (Or.inl ⟨c_3, rfl, rfl⟩) [0] rfl (by decide) (Nat.le_of_ble_eq_true rfl) (Nat.le_of_ble_eq_true rfl) dX7_budget_21
  · have hw : rc_W E A s [(h0, .inr (12, [.int 0, .ref h1, .ref h2, .ref h3, .ref h4, .ref h5, .int 1, .int 3, .int 50, .int (-1), .int (-1), .int (-1), .int (-1), .int 0, .int 100, .int 1000, .long 0]))] H locs := hw
    refine lv_if_ne (tgt := 22) hx hb dX7_budget_13 (by decide) (fun c9 => absurd (by decide) c9) (fun _ => ?_)
    refine lv_aload_n hx hb dX7_budget_16 rfl (lv_at hl 0 rfl) ?_
    refine lv_iconst (v := 1) hx hb dX7_budget_17 (by decide) ?_
    refine rc_calli (wr := []) (va_runV (As := [.int 1]) (rest := []) (Ts := []) ⟨hx, hb, hml, hown, fun _ h9 => absurd h9 List.not_mem_nil⟩ (cw_X7_refuse l E _ h0 h1 h2 h3 h4 h5) (rc_cwV hAm qw_924 qw_13 qw_927 qw_926 qs_50 rfl rfl hd_X7_refuse ⟨Nat.le_of_ble_eq_true rfl, Nat.le_of_ble_eq_true rfl⟩) (rc_preV hAm hA hw [0] rfl rfl 0 rfl (q := vwCl[12]) rfl) rfl rfl hl.1 rfl (lv_room (Nat.le_of_ble_eq_true rfl)) dX7_budget_18 ⟨Nat.le_of_ble_eq_true rfl, Nat.le_of_ble_eq_true rfl⟩) hA hw [0] [] rfl rfl rfl (by decide) (fun r_10 u_11 H locs hp hw => ?_)
    obtain ⟨rfl, rfl⟩ := hp
    have hw : rc_W E A s [(h0, .inr (12, [.int 1, .ref h1, .ref h2, .ref h3, .ref h4, .ref h5, .int 1, .int 3, .int 50, .int (-1), .int (-1), .int (-1), .int (-1), .int 0, .int 100, .int 1000, .long 0]))] H locs := hw
    exact rc_iret (v := 0) hx hb hr hlocks hw [(h0, .inr (12, [.int 1, .ref h1, .ref h2, .ref h3, .ref h4, .ref h5, .int 1, .int 3, .int 50, .int (-1), .int (-1), .int (-1), .int (-1), .int 0, .int 100, .int 1000, .long 0]))] (Or.inr (Or.inl ⟨c_4, c_5, rfl, rfl⟩)) [0] rfl (by decide) (Nat.le_of_ble_eq_true rfl) (Nat.le_of_ble_eq_true rfl) dX7_budget_21
  · have hw : rc_W E A s [(h0, .inr (12, [.int 0, .ref h1, .ref h2, .ref h3, .ref h4, .ref h5, .int 1, .int 3, .int 50, .int (-1), .int (-1), .int (-1), .int (-1), .int 0, .int 100, .int 1000, .long 0]))] H locs := hw
    refine lv_if_ne (tgt := 22) hx hb dX7_budget_13 (by decide) (fun _ => ?_) (fun c9 => absurd c9 (by decide))
    refine lv_aload_n hx hb dX7_budget_22 rfl (lv_at hl 0 rfl) ?_
    refine lv_sipush (v := 5000) hx hb dX7_budget_23 (by decide) ?_
    refine lv_aload_n hx hb dX7_budget_26 rfl (lv_at hl 0 rfl) ?_
    refine rc_get (v := .int 1000) hx hb hown hAm hw lyX7 0 rfl rfl 15 (by decide) qw_875 (fun _ h9 => h9) rfl dX7_budget_27 ?_
    refine lv_iload_n hx hb dX7_budget_30 rfl (lv_at hl 1 rfl) ?_
    refine lv_iadd hx hb dX7_budget_31 ?_
    refine va_mmin hx hb (by rw [hml]; exact hl.1.symm) hown (hAm.wd qw_991 rfl rfl) (hAm.wd qw_235 rfl rfl) (hAm.wd qw_10 rfl rfl) (hAm.wd qw_236 rfl rfl) (Nat.le_of_ble_eq_true rfl) (Nat.le_of_ble_eq_true rfl) (Nat.le_of_ble_eq_true rfl) (Nat.le_of_ble_eq_true rfl) dX7_budget_32 ?_
    refine rc_put hx hb hown hAm hw lyX7 tyX7 tyX7_ok nmX7 0 rfl rfl 15 (by decide) qw_875 (fun _ h9 => h9) rfl rfl rfl (Nat.le_of_ble_eq_true rfl) [(h0, .inr (12, [.int 0, .ref h1, .ref h2, .ref h3, .ref h4, .ref h5, .int 1, .int 3, .int 50, .int (-1), .int (-1), .int (-1), .int (-1), .int 0, .int 100, .int (if (1000 + x0) < 5000 then (1000 + x0) else 5000), .long 0]))] rfl dX7_budget_35 (fun H locs hw => ?_)
    refine lv_aload_n hx hb dX7_budget_38 rfl (lv_at hl 0 rfl) ?_
    refine rc_get (v := .int (if (1000 + x0) < 5000 then (1000 + x0) else 5000)) hx hb hown hAm hw lyX7 0 rfl rfl 15 (by decide) qw_875 (fun _ h9 => h9) rfl dX7_budget_39 ?_
    exact rc_iret (v := (if (1000 + x0) < 5000 then (1000 + x0) else 5000)) hx hb hr hlocks hw [(h0, .inr (12, [.int 0, .ref h1, .ref h2, .ref h3, .ref h4, .ref h5, .int 1, .int 3, .int 50, .int (-1), .int (-1), .int (-1), .int (-1), .int 0, .int 100, .int (if (1000 + x0) < 5000 then (1000 + x0) else 5000), .long 0]))] (Or.inr (Or.inr ⟨c_6, c_7, rfl, rfl⟩)) [0] rfl (by decide) (Nat.le_of_ble_eq_true rfl) (Nat.le_of_ble_eq_true rfl) dX7_budget_42
set_option maxHeartbeats 4000000 in
set_option maxRecDepth 100000 in
theorem cw_X7_is_10 (l : Launch) (E : rc_E) (sz : Nat) (x0 : Int32) : rc_Mi l yX7_is [Cond.code yX7_is cX7_is 3 (some FieldType.boolean)] { frames := 0, cells := 0, slots := 0, locals := 0 } E [.int x0, .int 0, .int 8] [] sz (S := va_W) (fun (r : Int32) (u : va_W) => (x0 < 0 ∧ 0 = r ∧ u = []) ∨ (¬ x0 < 0 ∧ 8 < x0 ∧ 0 = r ∧ u = []) ∨ (¬ x0 < 0 ∧ ¬ 8 < x0 ∧ 1 = r ∧ u = [])) (fun u => u) 0 0 := by
  refine rc_ini (cc := cX7_is) (maxL := 3) (ret := (some FieldType.boolean)) (by decide) rfl (Nat.le_of_ble_eq_true rfl) ?_
  intro p e s m args below meth c ls A hx hb hr hml _ hown hlocks hin hA hAm hw hl
  have hown : s.vm.findClass RX7 = some m.cls := hown
  have hl : lv_has ls 3 [(0, .int x0), (1, .int 0), (2, .int 8)] := hl
  refine lv_iload_n hx hb dX7_is_0 rfl (lv_at hl 0 rfl) ?_
  refine lv_iload_n hx hb dX7_is_1 rfl (lv_at hl 1 rfl) ?_
  refine lv_icmp_lt (tgt := 14) hx hb dX7_is_2 (by decide) (fun c_1 => ?_) (fun c_1 => ?_)
  · refine lv_iconst (v := 0) hx hb dX7_is_14 (by decide) ?_
    exact rc_zret (v := 0) hx hb hr hlocks hw rfl [] (Or.inl ⟨c_1, rfl, rfl⟩) [] rfl (by decide) (Nat.le_of_ble_eq_true rfl) (Nat.le_of_ble_eq_true rfl) dX7_is_15
  · refine lv_iload_n hx hb dX7_is_5 rfl (lv_at hl 0 rfl) ?_
    refine lv_iload_n hx hb dX7_is_6 rfl (lv_at hl 2 rfl) ?_
    refine lv_icmp_gt (tgt := 14) hx hb dX7_is_7 (by decide) (fun c_2 => ?_) (fun c_2 => ?_)
    · refine lv_iconst (v := 0) hx hb dX7_is_14 (by decide) ?_
      exact rc_zret (v := 0) hx hb hr hlocks hw rfl [] (Or.inr (Or.inl ⟨c_1, c_2, rfl, rfl⟩)) [] rfl (by decide) (Nat.le_of_ble_eq_true rfl) (Nat.le_of_ble_eq_true rfl) dX7_is_15
    · refine lv_iconst (v := 1) hx hb dX7_is_10 (by decide) ?_
      refine lv_goto (tgt := 15) hx hb dX7_is_11 (by decide) ?_
      exact rc_zret (v := 1) hx hb hr hlocks hw rfl [] (Or.inr (Or.inr ⟨c_1, c_2, rfl, rfl⟩)) [] rfl (by decide) (Nat.le_of_ble_eq_true rfl) (Nat.le_of_ble_eq_true rfl) dX7_is_15
set_option maxHeartbeats 4000000 in
set_option maxRecDepth 100000 in
theorem cw_X7_manyNow (l : Launch) (E : rc_E) (sz : Nat) (h0 : Nat) (x0 : Int32) (h1 : Nat) (h2 : Nat) (h3 : Nat) (h4 : Nat) (h5 : Nat) : rc_Mi l yX7_manyNow [Cond.code yX7_manyNow cX7_manyNow 7 (some FieldType.int)] { frames := 3, cells := 1, slots := 4, locals := 53 } E [.ref h0, .int x0] [(h0, .inr (12, [.int 0, .ref h1, .ref h2, .ref h3, .ref h4, .ref h5, .int 1, .int 3, .int 50, .int (-1), .int (-1), .int (-1), .int (-1), .int 0, .int 100, .int 1000, .long 0])), (h2, .inr (4, [.int 0, .ref (E.2.2 0), .int 0])), (h3, .inr (4, [.int 0, .ref (E.2.2 0), .int 0])), (h4, .inl (E.2.1 3, 40, .inl (fun _ => 0)))] sz (S := va_W) (fun (r : Int32) (u : va_W) => (x0 = 0 ∧ 0 = r ∧ u = [(h0, .inr (12, [.int 0, .ref h1, .ref h2, .ref h3, .ref h4, .ref h5, .int 1, .int 3, .int 50, .int (-1), .int (-1), .int (-1), .int (-1), .int 0, .int 100, .int 1000, .long 0])), (h2, .inr (4, [.int 0, .ref (E.2.2 0), .int 0])), (h3, .inr (4, [.int 0, .ref (E.2.2 0), .int 0])), (h4, .inl (E.2.1 3, 40, .inl (fun _ => 0)))]) ∨ (¬ x0 = 0 ∧ x0 = 1 ∧ 1 = r ∧ u = [(h0, .inr (12, [.int 0, .ref h1, .ref h2, .ref h3, .ref h4, .ref h5, .int 1, .int 3, .int 50, .int (-1), .int (-1), .int (-1), .int (-1), .int 0, .int 100, .int 1000, .long 0])), (h2, .inr (4, [.int 0, .ref (E.2.2 0), .int 0])), (h3, .inr (4, [.int 0, .ref (E.2.2 0), .int 0])), (h4, .inl (E.2.1 3, 40, .inl (fun _ => 0)))]) ∨ (¬ x0 = 0 ∧ ¬ x0 = 1 ∧ x0 = 2 ∧ 0 = r ∧ u = [(h0, .inr (12, [.int 0, .ref h1, .ref h2, .ref h3, .ref h4, .ref h5, .int 1, .int 3, .int 50, .int (-1), .int (-1), .int (-1), .int (-1), .int 0, .int 100, .int 1000, .long 0])), (h2, .inr (4, [.int 0, .ref (E.2.2 0), .int 0])), (h3, .inr (4, [.int 0, .ref (E.2.2 0), .int 0])), (h4, .inl (E.2.1 3, 40, .inl (fun _ => 0)))]) ∨ (¬ x0 = 0 ∧ ¬ x0 = 1 ∧ ¬ x0 = 2 ∧ x0 = 3 ∧ 0 = r ∧ u = [(h0, .inr (12, [.int 0, .ref h1, .ref h2, .ref h3, .ref h4, .ref h5, .int 1, .int 3, .int 50, .int (-1), .int (-1), .int (-1), .int (-1), .int 0, .int 100, .int 1000, .long 0])), (h2, .inr (4, [.int 0, .ref (E.2.2 0), .int 0])), (h3, .inr (4, [.int 0, .ref (E.2.2 0), .int 0])), (h4, .inl (E.2.1 3, 40, .inl (fun _ => 0)))]) ∨ (¬ x0 = 0 ∧ ¬ x0 = 1 ∧ ¬ x0 = 2 ∧ ¬ x0 = 3 ∧ x0 = 4 ∧ 1000 = r ∧ u = [(h0, .inr (12, [.int 0, .ref h1, .ref h2, .ref h3, .ref h4, .ref h5, .int 1, .int 3, .int 50, .int (-1), .int (-1), .int (-1), .int (-1), .int 0, .int 100, .int 1000, .long 0])), (h2, .inr (4, [.int 0, .ref (E.2.2 0), .int 0])), (h3, .inr (4, [.int 0, .ref (E.2.2 0), .int 0])), (h4, .inl (E.2.1 3, 40, .inl (fun _ => 0)))]) ∨ (¬ x0 = 0 ∧ ¬ x0 = 1 ∧ ¬ x0 = 2 ∧ ¬ x0 = 3 ∧ ¬ x0 = 4 ∧ x0 = 5 ∧ 100 = r ∧ u = [(h0, .inr (12, [.int 0, .ref h1, .ref h2, .ref h3, .ref h4, .ref h5, .int 1, .int 3, .int 50, .int (-1), .int (-1), .int (-1), .int (-1), .int 0, .int 100, .int 1000, .long 0])), (h2, .inr (4, [.int 0, .ref (E.2.2 0), .int 0])), (h3, .inr (4, [.int 0, .ref (E.2.2 0), .int 0])), (h4, .inl (E.2.1 3, 40, .inl (fun _ => 0)))]) ∨ (¬ x0 = 0 ∧ ¬ x0 = 1 ∧ ¬ x0 = 2 ∧ ¬ x0 = 3 ∧ ¬ x0 = 4 ∧ ¬ x0 = 5 ∧ x0 = 6 ∧ 0 = r ∧ u = [(h0, .inr (12, [.int 0, .ref h1, .ref h2, .ref h3, .ref h4, .ref h5, .int 1, .int 3, .int 50, .int (-1), .int (-1), .int (-1), .int (-1), .int 0, .int 100, .int 1000, .long 0])), (h2, .inr (4, [.int 0, .ref (E.2.2 0), .int 0])), (h3, .inr (4, [.int 0, .ref (E.2.2 0), .int 0])), (h4, .inl (E.2.1 3, 40, .inl (fun _ => 0)))]) ∨ (¬ x0 = 0 ∧ ¬ x0 = 1 ∧ ¬ x0 = 2 ∧ ¬ x0 = 3 ∧ ¬ x0 = 4 ∧ ¬ x0 = 5 ∧ ¬ x0 = 6 ∧ x0 = 7 ∧ 0 = r ∧ u = [(h0, .inr (12, [.int 0, .ref h1, .ref h2, .ref h3, .ref h4, .ref h5, .int 1, .int 3, .int 50, .int (-1), .int (-1), .int (-1), .int (-1), .int 0, .int 100, .int 1000, .long 0])), (h2, .inr (4, [.int 0, .ref (E.2.2 0), .int 0])), (h3, .inr (4, [.int 0, .ref (E.2.2 0), .int 0])), (h4, .inl (E.2.1 3, 40, .inl (fun _ => 0)))]) ∨ (¬ x0 = 0 ∧ ¬ x0 = 1 ∧ ¬ x0 = 2 ∧ ¬ x0 = 3 ∧ ¬ x0 = 4 ∧ ¬ x0 = 5 ∧ ¬ x0 = 6 ∧ ¬ x0 = 7 ∧ 0 = r ∧ u = [(h0, .inr (12, [.int 0, .ref h1, .ref h2, .ref h3, .ref h4, .ref h5, .int 1, .int 3, .int 50, .int (-1), .int (-1), .int (-1), .int (-1), .int 0, .int 100, .int 1000, .long 0])), (h2, .inr (4, [.int 0, .ref (E.2.2 0), .int 0])), (h3, .inr (4, [.int 0, .ref (E.2.2 0), .int 0])), (h4, .inl (E.2.1 3, 40, .inl (fun _ => 0)))])) (fun u => u) 1 4 := by
  refine rc_ini (cc := cX7_manyNow) (maxL := 7) (ret := (some FieldType.int)) (by decide) rfl (Nat.le_of_ble_eq_true rfl) ?_
  intro p e s m args below meth c ls A hx hb hr hml _ hown hlocks hin hA hAm hw hl
  have hown : s.vm.findClass RX7 = some m.cls := hown
  have hl : lv_has ls 7 [(0, .ref h0), (1, .int x0)] := hl
  refine lv_iconst (v := 0) hx hb dX7_manyNow_0 (by decide) ?_
  refine lv_istore_n (lv' := [(2, .int 0), (0, .ref h0), (1, .int x0)]) hx hb dX7_manyNow_1 rfl hl (by decide) rfl (fun ls hl => ?_)
  refine lv_iload_n hx hb dX7_manyNow_2 rfl (lv_at hl 2 rfl) ?_
  rcases Decidable.em (x0 = 0) with c_1 | c_1
  · refine lv_tableIn (tgt := 48) hx hb dX7_manyNow_3 (by rw [c_1]; decide) (by rw [c_1]; decide) (by rw [c_1]; rfl) (by decide) ?_
    refine lv_aload_n hx hb dX7_manyNow_48 rfl (lv_at hl 1 rfl) ?_
    refine rc_get (v := .ref h2) hx hb hown hAm hw lyX7 0 rfl rfl 2 (by decide) qw_862 (fun _ h9 => h9) rfl dX7_manyNow_49 ?_
    refine rc_calli (wr := [(h0, .inr (12, [.int 0, .ref h1, .ref h2, .ref h3, .ref h4, .ref h5, .int 1, .int 3, .int 50, .int (-1), .int (-1), .int (-1), .int (-1), .int 0, .int 100, .int 1000, .long 0])), (h3, .inr (4, [.int 0, .ref (E.2.2 0), .int 0])), (h4, .inl (E.2.1 3, 40, .inl (fun _ => 0)))]) (va_runV (As := []) (rest := []) (Ts := []) ⟨hx, hb, hml, hown, fun _ h9 => absurd h9 List.not_mem_nil⟩ (cw_Jx4a65c_size_8abf5 l E _ h2) (rc_cwV hAm qw_928 qw_4 qw_289 qw_287 qw_288 rfl rfl hd_Jx4a65c_size_8abf5 ⟨Nat.le_of_ble_eq_true rfl, Nat.le_of_ble_eq_true rfl⟩) (rc_preV hAm hA hw [1] rfl rfl 1 rfl (q := vwCl[4]) rfl) rfl rfl hl.1 rfl (lv_room (Nat.le_of_ble_eq_true rfl)) dX7_manyNow_52 ⟨Nat.le_of_ble_eq_true rfl, Nat.le_of_ble_eq_true rfl⟩) hA hw [1] [0, 2, 3] rfl rfl rfl (by decide) (fun r_2 u_3 H locs hp hw => ?_)
    obtain ⟨rfl, rfl⟩ := hp
    have hw : rc_W E A s [(h0, .inr (12, [.int 0, .ref h1, .ref h2, .ref h3, .ref h4, .ref h5, .int 1, .int 3, .int 50, .int (-1), .int (-1), .int (-1), .int (-1), .int 0, .int 100, .int 1000, .long 0])), (h3, .inr (4, [.int 0, .ref (E.2.2 0), .int 0])), (h4, .inl (E.2.1 3, 40, .inl (fun _ => 0))), (h2, .inr (4, [.int 0, .ref (E.2.2 0), .int 0]))] H locs := hw
    exact rc_iret (v := 0) hx hb hr hlocks hw [(h0, .inr (12, [.int 0, .ref h1, .ref h2, .ref h3, .ref h4, .ref h5, .int 1, .int 3, .int 50, .int (-1), .int (-1), .int (-1), .int (-1), .int 0, .int 100, .int 1000, .long 0])), (h2, .inr (4, [.int 0, .ref (E.2.2 0), .int 0])), (h3, .inr (4, [.int 0, .ref (E.2.2 0), .int 0])), (h4, .inl (E.2.1 3, 40, .inl (fun _ => 0)))] (Or.inl ⟨c_1, rfl, rfl⟩) [0, 3, 1, 2] rfl (by decide) (Nat.le_of_ble_eq_true rfl) (Nat.le_of_ble_eq_true rfl) dX7_manyNow_55
  · rcases Decidable.em (x0 = 1) with c_4 | c_4
    · refine lv_tableIn (tgt := 56) hx hb dX7_manyNow_3 (by rw [c_4]; decide) (by rw [c_4]; decide) (by rw [c_4]; rfl) (by decide) ?_
      refine lv_aload_n hx hb dX7_manyNow_56 rfl (lv_at hl 1 rfl) ?_
      refine rc_get (v := .int 1) hx hb hown hAm hw lyX7 0 rfl rfl 6 (by decide) qw_866 (fun _ h9 => h9) rfl dX7_manyNow_57 ?_
      exact rc_iret (v := 1) hx hb hr hlocks hw [(h0, .inr (12, [.int 0, .ref h1, .ref h2, .ref h3, .ref h4, .ref h5, .int 1, .int 3, .int 50, .int (-1), .int (-1), .int (-1), .int (-1), .int 0, .int 100, .int 1000, .long 0])), (h2, .inr (4, [.int 0, .ref (E.2.2 0), .int 0])), (h3, .inr (4, [.int 0, .ref (E.2.2 0), .int 0])), (h4, .inl (E.2.1 3, 40, .inl (fun _ => 0)))] (Or.inr (Or.inl ⟨c_1, c_4, rfl, rfl⟩)) [0, 1, 2, 3] rfl (by decide) (Nat.le_of_ble_eq_true rfl) (Nat.le_of_ble_eq_true rfl) dX7_manyNow_60
    · rcases Decidable.em (x0 = 2) with c_5 | c_5
      · refine lv_tableIn (tgt := 61) hx hb dX7_manyNow_3 (by rw [c_5]; decide) (by rw [c_5]; decide) (by rw [c_5]; rfl) (by decide) ?_
        refine lv_aload_n hx hb dX7_manyNow_61 rfl (lv_at hl 1 rfl) ?_
        refine rc_get (v := .ref h3) hx hb hown hAm hw lyX7 0 rfl rfl 3 (by decide) qw_863 (fun _ h9 => h9) rfl dX7_manyNow_62 ?_
        refine rc_calli (wr := [(h0, .inr (12, [.int 0, .ref h1, .ref h2, .ref h3, .ref h4, .ref h5, .int 1, .int 3, .int 50, .int (-1), .int (-1), .int (-1), .int (-1), .int 0, .int 100, .int 1000, .long 0])), (h2, .inr (4, [.int 0, .ref (E.2.2 0), .int 0])), (h4, .inl (E.2.1 3, 40, .inl (fun _ => 0)))]) (va_runV (As := []) (rest := []) (Ts := []) ⟨hx, hb, hml, hown, fun _ h9 => absurd h9 List.not_mem_nil⟩ (cw_Jx4a65c_size_8abf5 l E _ h3) (rc_cwV hAm qw_928 qw_4 qw_289 qw_287 qw_288 rfl rfl hd_Jx4a65c_size_8abf5 ⟨Nat.le_of_ble_eq_true rfl, Nat.le_of_ble_eq_true rfl⟩) (rc_preV hAm hA hw [2] rfl rfl 2 rfl (q := vwCl[4]) rfl) rfl rfl hl.1 rfl (lv_room (Nat.le_of_ble_eq_true rfl)) dX7_manyNow_65 ⟨Nat.le_of_ble_eq_true rfl, Nat.le_of_ble_eq_true rfl⟩) hA hw [2] [0, 1, 3] rfl rfl rfl (by decide) (fun r_6 u_7 H locs hp hw => ?_)
        obtain ⟨rfl, rfl⟩ := hp
        have hw : rc_W E A s [(h0, .inr (12, [.int 0, .ref h1, .ref h2, .ref h3, .ref h4, .ref h5, .int 1, .int 3, .int 50, .int (-1), .int (-1), .int (-1), .int (-1), .int 0, .int 100, .int 1000, .long 0])), (h2, .inr (4, [.int 0, .ref (E.2.2 0), .int 0])), (h4, .inl (E.2.1 3, 40, .inl (fun _ => 0))), (h3, .inr (4, [.int 0, .ref (E.2.2 0), .int 0]))] H locs := hw
        exact rc_iret (v := 0) hx hb hr hlocks hw [(h0, .inr (12, [.int 0, .ref h1, .ref h2, .ref h3, .ref h4, .ref h5, .int 1, .int 3, .int 50, .int (-1), .int (-1), .int (-1), .int (-1), .int 0, .int 100, .int 1000, .long 0])), (h2, .inr (4, [.int 0, .ref (E.2.2 0), .int 0])), (h3, .inr (4, [.int 0, .ref (E.2.2 0), .int 0])), (h4, .inl (E.2.1 3, 40, .inl (fun _ => 0)))] (Or.inr (Or.inr (Or.inl ⟨c_1, c_4, c_5, rfl, rfl⟩))) [0, 1, 3, 2] rfl (by decide) (Nat.le_of_ble_eq_true rfl) (Nat.le_of_ble_eq_true rfl) dX7_manyNow_68
      · rcases Decidable.em (x0 = 3) with c_8 | c_8
        · refine lv_tableIn (tgt := 69) hx hb dX7_manyNow_3 (by rw [c_8]; decide) (by rw [c_8]; decide) (by rw [c_8]; rfl) (by decide) ?_
          refine lv_aload_n hx hb dX7_manyNow_69 rfl (lv_at hl 1 rfl) ?_
          refine rc_get (v := .ref h3) hx hb hown hAm hw lyX7 0 rfl rfl 3 (by decide) qw_863 (fun _ h9 => h9) rfl dX7_manyNow_70 ?_
          refine rc_callr (wr := [(h0, .inr (12, [.int 0, .ref h1, .ref h2, .ref h3, .ref h4, .ref h5, .int 1, .int 3, .int 50, .int (-1), .int (-1), .int (-1), .int (-1), .int 0, .int 100, .int 1000, .long 0])), (h2, .inr (4, [.int 0, .ref (E.2.2 0), .int 0])), (h4, .inl (E.2.1 3, 40, .inl (fun _ => 0)))]) (va_runV (As := []) (rest := []) (Ts := []) ⟨hx, hb, hml, hown, fun _ h9 => absurd h9 List.not_mem_nil⟩ (cw_Jx4a65c_iterator_32c93 l E _ h3) (rc_cwV hAm qw_1295 qw_4 qw_1298 qw_1296 qw_1297 rfl rfl hd_Jx4a65c_iterator_32c93 ⟨Nat.le_of_ble_eq_true rfl, Nat.le_of_ble_eq_true rfl⟩) (rc_preV hAm hA hw [2] rfl rfl 2 rfl (q := vwCl[4]) rfl) rfl rfl hl.1 rfl (lv_room (Nat.le_of_ble_eq_true rfl)) dX7_manyNow_73 ⟨Nat.le_of_ble_eq_true rfl, Nat.le_of_ble_eq_true rfl⟩) hA hw [2] [0, 1, 3] rfl rfl rfl (by decide) (fun u_10 r_9 H locs hp hw => ?_)
          obtain ⟨q1, rfl, rfl⟩ := hp
          have hw : rc_W E A s [(h0, .inr (12, [.int 0, .ref h1, .ref h2, .ref h3, .ref h4, .ref h5, .int 1, .int 3, .int 50, .int (-1), .int (-1), .int (-1), .int (-1), .int 0, .int 100, .int 1000, .long 0])), (h2, .inr (4, [.int 0, .ref (E.2.2 0), .int 0])), (h4, .inl (E.2.1 3, 40, .inl (fun _ => 0))), (h3, .inr (4, [.int 0, .ref (E.2.2 0), .int 0])), (q1, .inr (3, [.int 0, .int (-1), .int 0, .ref h3]))] H locs := hw
          refine lv_astore_n (lv' := [(3, .ref q1), (2, .int 0), (0, .ref h0), (1, .int x0)]) hx hb dX7_manyNow_76 rfl hl (by decide) rfl (fun ls hl => ?_)
          refine lv_aload_n hx hb dX7_manyNow_77 rfl (lv_at hl 0 rfl) ?_
          refine rc_callFi (wr := [(h0, .inr (12, [.int 0, .ref h1, .ref h2, .ref h3, .ref h4, .ref h5, .int 1, .int 3, .int 50, .int (-1), .int (-1), .int (-1), .int (-1), .int 0, .int 100, .int 1000, .long 0])), (h2, .inr (4, [.int 0, .ref (E.2.2 0), .int 0])), (h4, .inl (E.2.1 3, 40, .inl (fun _ => 0)))]) (va_runF (As := []) (rest := []) (Ts := []) ((hAm.K.1 3 _ rfl).2) ⟨hx, hb, hml, hown, fun _ h9 => absurd h9 List.not_mem_nil⟩ (cw_Jx35411_hasNext_aae02 l E _ q1 h3) (rc_cwF (C := "java/util/ArrayList$Itr") (n := 0) hAm qw_1319 qw_32 qw_1327 qw_1325 qw_1323 qw_1321 qw_1320 (by decide +kernel) qw_1326 qw_1324 qw_1322 rfl rfl (by decide +kernel) ⟨Nat.le_of_ble_eq_true rfl, Nat.le_of_ble_eq_true rfl⟩) (rc_preV hAm hA hw [4, 3] rfl rfl 4 rfl (q := vwCl[3]) rfl) rfl rfl hl.1 rfl (lv_room (Nat.le_of_ble_eq_true rfl)) dX7_manyNow_78 ⟨Nat.le_of_ble_eq_true rfl, Nat.le_of_ble_eq_true rfl⟩) hA hw [4, 3] [0, 1, 2] rfl rfl rfl (by decide) (fun r_11 u_12 H locs hp hw => ?_)
          obtain ⟨rfl, rfl⟩ := hp
          have hw : rc_W E A s [(h0, .inr (12, [.int 0, .ref h1, .ref h2, .ref h3, .ref h4, .ref h5, .int 1, .int 3, .int 50, .int (-1), .int (-1), .int (-1), .int (-1), .int 0, .int 100, .int 1000, .long 0])), (h2, .inr (4, [.int 0, .ref (E.2.2 0), .int 0])), (h4, .inl (E.2.1 3, 40, .inl (fun _ => 0))), (q1, .inr (3, [.int 0, .int (-1), .int 0, .ref h3])), (h3, .inr (4, [.int 0, .ref (E.2.2 0), .int 0]))] H locs := hw
          refine lv_if_eq (tgt := 118) hx hb dX7_manyNow_83 (by decide) (fun _ => ?_) (fun c9 => absurd (by decide) c9)
          refine lv_iload_n hx hb dX7_manyNow_118 rfl (lv_at hl 1 rfl) ?_
          exact rc_iret (v := 0) hx hb hr hlocks hw [(h0, .inr (12, [.int 0, .ref h1, .ref h2, .ref h3, .ref h4, .ref h5, .int 1, .int 3, .int 50, .int (-1), .int (-1), .int (-1), .int (-1), .int 0, .int 100, .int 1000, .long 0])), (h2, .inr (4, [.int 0, .ref (E.2.2 0), .int 0])), (h3, .inr (4, [.int 0, .ref (E.2.2 0), .int 0])), (h4, .inl (E.2.1 3, 40, .inl (fun _ => 0)))] (Or.inr (Or.inr (Or.inr (Or.inl ⟨c_1, c_4, c_5, c_8, rfl, rfl⟩)))) [0, 1, 4, 2] rfl (by decide) (Nat.le_of_ble_eq_true rfl) (Nat.le_of_ble_eq_true rfl) dX7_manyNow_119
        · rcases Decidable.em (x0 = 4) with c_13 | c_13
          · refine lv_tableIn (tgt := 120) hx hb dX7_manyNow_3 (by rw [c_13]; decide) (by rw [c_13]; decide) (by rw [c_13]; rfl) (by decide) ?_
            refine lv_aload_n hx hb dX7_manyNow_120 rfl (lv_at hl 1 rfl) ?_
            refine rc_get (v := .int 1000) hx hb hown hAm hw lyX7 0 rfl rfl 15 (by decide) qw_875 (fun _ h9 => h9) rfl dX7_manyNow_121 ?_
            exact rc_iret (v := 1000) hx hb hr hlocks hw [(h0, .inr (12, [.int 0, .ref h1, .ref h2, .ref h3, .ref h4, .ref h5, .int 1, .int 3, .int 50, .int (-1), .int (-1), .int (-1), .int (-1), .int 0, .int 100, .int 1000, .long 0])), (h2, .inr (4, [.int 0, .ref (E.2.2 0), .int 0])), (h3, .inr (4, [.int 0, .ref (E.2.2 0), .int 0])), (h4, .inl (E.2.1 3, 40, .inl (fun _ => 0)))] (Or.inr (Or.inr (Or.inr (Or.inr (Or.inl ⟨c_1, c_4, c_5, c_8, c_13, rfl, rfl⟩))))) [0, 1, 2, 3] rfl (by decide) (Nat.le_of_ble_eq_true rfl) (Nat.le_of_ble_eq_true rfl) dX7_manyNow_124
          · rcases Decidable.em (x0 = 5) with c_14 | c_14
            · refine lv_tableIn (tgt := 125) hx hb dX7_manyNow_3 (by rw [c_14]; decide) (by rw [c_14]; decide) (by rw [c_14]; rfl) (by decide) ?_
              refine lv_aload_n hx hb dX7_manyNow_125 rfl (lv_at hl 1 rfl) ?_
              refine rc_get (v := .int 100) hx hb hown hAm hw lyX7 0 rfl rfl 14 (by decide) qw_874 (fun _ h9 => h9) rfl dX7_manyNow_126 ?_
              exact rc_iret (v := 100) hx hb hr hlocks hw [(h0, .inr (12, [.int 0, .ref h1, .ref h2, .ref h3, .ref h4, .ref h5, .int 1, .int 3, .int 50, .int (-1), .int (-1), .int (-1), .int (-1), .int 0, .int 100, .int 1000, .long 0])), (h2, .inr (4, [.int 0, .ref (E.2.2 0), .int 0])), (h3, .inr (4, [.int 0, .ref (E.2.2 0), .int 0])), (h4, .inl (E.2.1 3, 40, .inl (fun _ => 0)))] (Or.inr (Or.inr (Or.inr (Or.inr (Or.inr (Or.inl ⟨c_1, c_4, c_5, c_8, c_13, c_14, rfl, rfl⟩)))))) [0, 1, 2, 3] rfl (by decide) (Nat.le_of_ble_eq_true rfl) (Nat.le_of_ble_eq_true rfl) dX7_manyNow_129
            · rcases Decidable.em (x0 = 6) with c_15 | c_15
              · refine lv_tableIn (tgt := 130) hx hb dX7_manyNow_3 (by rw [c_15]; decide) (by rw [c_15]; decide) (by rw [c_15]; rfl) (by decide) ?_
                refine lv_aload_n hx hb dX7_manyNow_130 rfl (lv_at hl 1 rfl) ?_
                refine rc_get (v := .int 0) hx hb hown hAm hw lyX7 0 rfl rfl 13 (by decide) qw_873 (fun _ h9 => h9) rfl dX7_manyNow_131 ?_
                exact rc_iret (v := 0) hx hb hr hlocks hw [(h0, .inr (12, [.int 0, .ref h1, .ref h2, .ref h3, .ref h4, .ref h5, .int 1, .int 3, .int 50, .int (-1), .int (-1), .int (-1), .int (-1), .int 0, .int 100, .int 1000, .long 0])), (h2, .inr (4, [.int 0, .ref (E.2.2 0), .int 0])), (h3, .inr (4, [.int 0, .ref (E.2.2 0), .int 0])), (h4, .inl (E.2.1 3, 40, .inl (fun _ => 0)))] (Or.inr (Or.inr (Or.inr (Or.inr (Or.inr (Or.inr (Or.inl ⟨c_1, c_4, c_5, c_8, c_13, c_14, c_15, rfl, rfl⟩))))))) [0, 1, 2, 3] rfl (by decide) (Nat.le_of_ble_eq_true rfl) (Nat.le_of_ble_eq_true rfl) dX7_manyNow_134
              · rcases Decidable.em (x0 = 7) with c_16 | c_16
                · refine lv_tableIn (tgt := 135) hx hb dX7_manyNow_3 (by rw [c_16]; decide) (by rw [c_16]; decide) (by rw [c_16]; rfl) (by decide) ?_
                  refine lv_aload_n hx hb dX7_manyNow_135 rfl (lv_at hl 1 rfl) ?_
                  refine rc_get (v := .ref h4) hx hb hown hAm hw lyX7 0 rfl rfl 4 (by decide) qw_864 (fun _ h9 => h9) rfl dX7_manyNow_136 ?_
                  refine lv_astore_n (lv' := [(3, .ref h4), (2, .int 0), (0, .ref h0), (1, .int x0)]) hx hb dX7_manyNow_139 rfl hl (by decide) rfl (fun ls hl => ?_)
                  refine lv_aload_n hx hb dX7_manyNow_140 rfl (lv_at hl 0 rfl) ?_
                  refine rc_alen hx hb hAm hw 3 3 rfl rfl 40 rfl dX7_manyNow_141 ?_
                  refine lv_istore (lv' := [(4, .int 40), (3, .ref h4), (2, .int 0), (0, .ref h0), (1, .int x0)]) hx hb dX7_manyNow_142 hl (by decide) rfl (fun ls hl => ?_)
                  refine lv_iconst (v := 0) hx hb dX7_manyNow_144 (by decide) ?_
                  refine lv_istore (lv' := [(5, .int 0), (4, .int 40), (3, .ref h4), (2, .int 0), (0, .ref h0), (1, .int x0)]) hx hb dX7_manyNow_145 hl (by decide) rfl (fun ls hl => ?_)
                  refine lv_iload hx hb dX7_manyNow_147 (lv_at hl 0 rfl) ?_
                  refine lv_iload hx hb dX7_manyNow_149 (lv_at hl 1 rfl) ?_
                  refine lv_icmp_ge (tgt := 179) hx hb dX7_manyNow_151 (by decide) (fun c9 => absurd c9 (by decide)) (fun _ => ?_)
                  refine lv_aload_n hx hb dX7_manyNow_154 rfl (lv_at hl 2 rfl) ?_
                  refine lv_iload hx hb dX7_manyNow_155 (lv_at hl 0 rfl) ?_
                  refine rc_zald hx hb hAm hw 3 rfl (vp_in_iff.mpr (by decide)) dX7_manyNow_157 ?_
                  refine rc_topi 0 rfl ?_
                  refine lv_istore (lv' := [(6, .int 0), (5, .int 0), (4, .int 40), (3, .ref h4), (2, .int 0), (0, .ref h0), (1, .int x0)]) hx hb dX7_manyNow_158 hl (by decide) rfl (fun ls hl => ?_)
                  refine lv_iload_n hx hb dX7_manyNow_160 rfl (lv_at hl 4 rfl) ?_
                  refine lv_iload hx hb dX7_manyNow_161 (lv_at hl 0 rfl) ?_
                  refine lv_if_eq (tgt := 170) hx hb dX7_manyNow_163 (by decide) (fun _ => ?_) (fun c9 => absurd (by decide) c9)
                  refine lv_iconst (v := 0) hx hb dX7_manyNow_170 (by decide) ?_
                  refine lv_iadd hx hb dX7_manyNow_171 ?_
                  refine rc_topi 0 (by decide) ?_
                  refine lv_istore_n (lv' := [(2, .int 0), (6, .int 0), (5, .int 0), (4, .int 40), (3, .ref h4), (0, .ref h0), (1, .int x0)]) hx hb dX7_manyNow_172 rfl hl (by decide) rfl (fun ls hl => ?_)
                  refine lv_iinc (v := 1) (lv' := [(5, .int 1), (2, .int 0), (6, .int 0), (4, .int 40), (3, .ref h4), (0, .ref h0), (1, .int x0)]) hx hb dX7_manyNow_173 hl (k := 2) rfl (by decide) (by decide) rfl (fun ls hl => ?_)
                  refine lv_goto (tgt := 147) hx hb dX7_manyNow_176 (by decide) ?_
                  refine lv_iload hx hb dX7_manyNow_147 (lv_at hl 0 rfl) ?_
                  refine lv_iload hx hb dX7_manyNow_149 (lv_at hl 3 rfl) ?_
                  refine lv_icmp_ge (tgt := 179) hx hb dX7_manyNow_151 (by decide) (fun c9 => absurd c9 (by decide)) (fun _ => ?_)
                  refine lv_aload_n hx hb dX7_manyNow_154 rfl (lv_at hl 4 rfl) ?_
                  refine lv_iload hx hb dX7_manyNow_155 (lv_at hl 0 rfl) ?_
                  refine rc_zald hx hb hAm hw 3 rfl (vp_in_iff.mpr (by decide)) dX7_manyNow_157 ?_
                  refine rc_topi 0 rfl ?_
                  refine lv_istore (lv' := [(6, .int 0), (5, .int 1), (2, .int 0), (4, .int 40), (3, .ref h4), (0, .ref h0), (1, .int x0)]) hx hb dX7_manyNow_158 hl (by decide) rfl (fun ls hl => ?_)
                  refine lv_iload_n hx hb dX7_manyNow_160 rfl (lv_at hl 2 rfl) ?_
                  refine lv_iload hx hb dX7_manyNow_161 (lv_at hl 0 rfl) ?_
                  refine lv_if_eq (tgt := 170) hx hb dX7_manyNow_163 (by decide) (fun _ => ?_) (fun c9 => absurd (by decide) c9)
                  refine lv_iconst (v := 0) hx hb dX7_manyNow_170 (by decide) ?_
                  refine lv_iadd hx hb dX7_manyNow_171 ?_
                  refine rc_topi 0 (by decide) ?_
                  refine lv_istore_n (lv' := [(2, .int 0), (6, .int 0), (5, .int 1), (4, .int 40), (3, .ref h4), (0, .ref h0), (1, .int x0)]) hx hb dX7_manyNow_172 rfl hl (by decide) rfl (fun ls hl => ?_)
                  refine lv_iinc (v := 2) (lv' := [(5, .int 2), (2, .int 0), (6, .int 0), (4, .int 40), (3, .ref h4), (0, .ref h0), (1, .int x0)]) hx hb dX7_manyNow_173 hl (k := 2) rfl (by decide) (by decide) rfl (fun ls hl => ?_)
                  refine lv_goto (tgt := 147) hx hb dX7_manyNow_176 (by decide) ?_
                  refine lv_iload hx hb dX7_manyNow_147 (lv_at hl 0 rfl) ?_
                  refine lv_iload hx hb dX7_manyNow_149 (lv_at hl 3 rfl) ?_
                  refine lv_icmp_ge (tgt := 179) hx hb dX7_manyNow_151 (by decide) (fun c9 => absurd c9 (by decide)) (fun _ => ?_)
                  refine lv_aload_n hx hb dX7_manyNow_154 rfl (lv_at hl 4 rfl) ?_
                  refine lv_iload hx hb dX7_manyNow_155 (lv_at hl 0 rfl) ?_
                  refine rc_zald hx hb hAm hw 3 rfl (vp_in_iff.mpr (by decide)) dX7_manyNow_157 ?_
                  refine rc_topi 0 rfl ?_
                  refine lv_istore (lv' := [(6, .int 0), (5, .int 2), (2, .int 0), (4, .int 40), (3, .ref h4), (0, .ref h0), (1, .int x0)]) hx hb dX7_manyNow_158 hl (by decide) rfl (fun ls hl => ?_)
                  refine lv_iload_n hx hb dX7_manyNow_160 rfl (lv_at hl 2 rfl) ?_
                  refine lv_iload hx hb dX7_manyNow_161 (lv_at hl 0 rfl) ?_
                  refine lv_if_eq (tgt := 170) hx hb dX7_manyNow_163 (by decide) (fun _ => ?_) (fun c9 => absurd (by decide) c9)
                  refine lv_iconst (v := 0) hx hb dX7_manyNow_170 (by decide) ?_
                  refine lv_iadd hx hb dX7_manyNow_171 ?_
                  refine rc_topi 0 (by decide) ?_
                  refine lv_istore_n (lv' := [(2, .int 0), (6, .int 0), (5, .int 2), (4, .int 40), (3, .ref h4), (0, .ref h0), (1, .int x0)]) hx hb dX7_manyNow_172 rfl hl (by decide) rfl (fun ls hl => ?_)
                  refine lv_iinc (v := 3) (lv' := [(5, .int 3), (2, .int 0), (6, .int 0), (4, .int 40), (3, .ref h4), (0, .ref h0), (1, .int x0)]) hx hb dX7_manyNow_173 hl (k := 2) rfl (by decide) (by decide) rfl (fun ls hl => ?_)
                  refine lv_goto (tgt := 147) hx hb dX7_manyNow_176 (by decide) ?_
                  refine lv_iload hx hb dX7_manyNow_147 (lv_at hl 0 rfl) ?_
                  refine lv_iload hx hb dX7_manyNow_149 (lv_at hl 3 rfl) ?_
                  refine lv_icmp_ge (tgt := 179) hx hb dX7_manyNow_151 (by decide) (fun c9 => absurd c9 (by decide)) (fun _ => ?_)
                  refine lv_aload_n hx hb dX7_manyNow_154 rfl (lv_at hl 4 rfl) ?_
                  refine lv_iload hx hb dX7_manyNow_155 (lv_at hl 0 rfl) ?_
                  refine rc_zald hx hb hAm hw 3 rfl (vp_in_iff.mpr (by decide)) dX7_manyNow_157 ?_
                  refine rc_topi 0 rfl ?_
                  refine lv_istore (lv' := [(6, .int 0), (5, .int 3), (2, .int 0), (4, .int 40), (3, .ref h4), (0, .ref h0), (1, .int x0)]) hx hb dX7_manyNow_158 hl (by decide) rfl (fun ls hl => ?_)
                  refine lv_iload_n hx hb dX7_manyNow_160 rfl (lv_at hl 2 rfl) ?_
                  refine lv_iload hx hb dX7_manyNow_161 (lv_at hl 0 rfl) ?_
                  refine lv_if_eq (tgt := 170) hx hb dX7_manyNow_163 (by decide) (fun _ => ?_) (fun c9 => absurd (by decide) c9)
                  refine lv_iconst (v := 0) hx hb dX7_manyNow_170 (by decide) ?_
                  refine lv_iadd hx hb dX7_manyNow_171 ?_
                  refine rc_topi 0 (by decide) ?_
                  refine lv_istore_n (lv' := [(2, .int 0), (6, .int 0), (5, .int 3), (4, .int 40), (3, .ref h4), (0, .ref h0), (1, .int x0)]) hx hb dX7_manyNow_172 rfl hl (by decide) rfl (fun ls hl => ?_)
                  refine lv_iinc (v := 4) (lv' := [(5, .int 4), (2, .int 0), (6, .int 0), (4, .int 40), (3, .ref h4), (0, .ref h0), (1, .int x0)]) hx hb dX7_manyNow_173 hl (k := 2) rfl (by decide) (by decide) rfl (fun ls hl => ?_)
                  refine lv_goto (tgt := 147) hx hb dX7_manyNow_176 (by decide) ?_
                  refine lv_iload hx hb dX7_manyNow_147 (lv_at hl 0 rfl) ?_
                  refine lv_iload hx hb dX7_manyNow_149 (lv_at hl 3 rfl) ?_
                  refine lv_icmp_ge (tgt := 179) hx hb dX7_manyNow_151 (by decide) (fun c9 => absurd c9 (by decide)) (fun _ => ?_)
                  refine lv_aload_n hx hb dX7_manyNow_154 rfl (lv_at hl 4 rfl) ?_
                  refine lv_iload hx hb dX7_manyNow_155 (lv_at hl 0 rfl) ?_
                  refine rc_zald hx hb hAm hw 3 rfl (vp_in_iff.mpr (by decide)) dX7_manyNow_157 ?_
                  refine rc_topi 0 rfl ?_
                  refine lv_istore (lv' := [(6, .int 0), (5, .int 4), (2, .int 0), (4, .int 40), (3, .ref h4), (0, .ref h0), (1, .int x0)]) hx hb dX7_manyNow_158 hl (by decide) rfl (fun ls hl => ?_)
                  refine lv_iload_n hx hb dX7_manyNow_160 rfl (lv_at hl 2 rfl) ?_
                  refine lv_iload hx hb dX7_manyNow_161 (lv_at hl 0 rfl) ?_
                  refine lv_if_eq (tgt := 170) hx hb dX7_manyNow_163 (by decide) (fun _ => ?_) (fun c9 => absurd (by decide) c9)
                  refine lv_iconst (v := 0) hx hb dX7_manyNow_170 (by decide) ?_
                  refine lv_iadd hx hb dX7_manyNow_171 ?_
                  refine rc_topi 0 (by decide) ?_
                  refine lv_istore_n (lv' := [(2, .int 0), (6, .int 0), (5, .int 4), (4, .int 40), (3, .ref h4), (0, .ref h0), (1, .int x0)]) hx hb dX7_manyNow_172 rfl hl (by decide) rfl (fun ls hl => ?_)
                  refine lv_iinc (v := 5) (lv' := [(5, .int 5), (2, .int 0), (6, .int 0), (4, .int 40), (3, .ref h4), (0, .ref h0), (1, .int x0)]) hx hb dX7_manyNow_173 hl (k := 2) rfl (by decide) (by decide) rfl (fun ls hl => ?_)
                  refine lv_goto (tgt := 147) hx hb dX7_manyNow_176 (by decide) ?_
                  refine lv_iload hx hb dX7_manyNow_147 (lv_at hl 0 rfl) ?_
                  refine lv_iload hx hb dX7_manyNow_149 (lv_at hl 3 rfl) ?_
                  refine lv_icmp_ge (tgt := 179) hx hb dX7_manyNow_151 (by decide) (fun c9 => absurd c9 (by decide)) (fun _ => ?_)
                  refine lv_aload_n hx hb dX7_manyNow_154 rfl (lv_at hl 4 rfl) ?_
                  refine lv_iload hx hb dX7_manyNow_155 (lv_at hl 0 rfl) ?_
                  refine rc_zald hx hb hAm hw 3 rfl (vp_in_iff.mpr (by decide)) dX7_manyNow_157 ?_
                  refine rc_topi 0 rfl ?_
                  refine lv_istore (lv' := [(6, .int 0), (5, .int 5), (2, .int 0), (4, .int 40), (3, .ref h4), (0, .ref h0), (1, .int x0)]) hx hb dX7_manyNow_158 hl (by decide) rfl (fun ls hl => ?_)
                  refine lv_iload_n hx hb dX7_manyNow_160 rfl (lv_at hl 2 rfl) ?_
                  refine lv_iload hx hb dX7_manyNow_161 (lv_at hl 0 rfl) ?_
                  refine lv_if_eq (tgt := 170) hx hb dX7_manyNow_163 (by decide) (fun _ => ?_) (fun c9 => absurd (by decide) c9)
                  refine lv_iconst (v := 0) hx hb dX7_manyNow_170 (by decide) ?_
                  refine lv_iadd hx hb dX7_manyNow_171 ?_
                  refine rc_topi 0 (by decide) ?_
                  refine lv_istore_n (lv' := [(2, .int 0), (6, .int 0), (5, .int 5), (4, .int 40), (3, .ref h4), (0, .ref h0), (1, .int x0)]) hx hb dX7_manyNow_172 rfl hl (by decide) rfl (fun ls hl => ?_)
                  refine lv_iinc (v := 6) (lv' := [(5, .int 6), (2, .int 0), (6, .int 0), (4, .int 40), (3, .ref h4), (0, .ref h0), (1, .int x0)]) hx hb dX7_manyNow_173 hl (k := 2) rfl (by decide) (by decide) rfl (fun ls hl => ?_)
                  refine lv_goto (tgt := 147) hx hb dX7_manyNow_176 (by decide) ?_
                  refine lv_iload hx hb dX7_manyNow_147 (lv_at hl 0 rfl) ?_
                  refine lv_iload hx hb dX7_manyNow_149 (lv_at hl 3 rfl) ?_
                  refine lv_icmp_ge (tgt := 179) hx hb dX7_manyNow_151 (by decide) (fun c9 => absurd c9 (by decide)) (fun _ => ?_)
                  refine lv_aload_n hx hb dX7_manyNow_154 rfl (lv_at hl 4 rfl) ?_
                  refine lv_iload hx hb dX7_manyNow_155 (lv_at hl 0 rfl) ?_
                  refine rc_zald hx hb hAm hw 3 rfl (vp_in_iff.mpr (by decide)) dX7_manyNow_157 ?_
                  refine rc_topi 0 rfl ?_
                  refine lv_istore (lv' := [(6, .int 0), (5, .int 6), (2, .int 0), (4, .int 40), (3, .ref h4), (0, .ref h0), (1, .int x0)]) hx hb dX7_manyNow_158 hl (by decide) rfl (fun ls hl => ?_)
                  refine lv_iload_n hx hb dX7_manyNow_160 rfl (lv_at hl 2 rfl) ?_
                  refine lv_iload hx hb dX7_manyNow_161 (lv_at hl 0 rfl) ?_
                  refine lv_if_eq (tgt := 170) hx hb dX7_manyNow_163 (by decide) (fun _ => ?_) (fun c9 => absurd (by decide) c9)
                  refine lv_iconst (v := 0) hx hb dX7_manyNow_170 (by decide) ?_
                  refine lv_iadd hx hb dX7_manyNow_171 ?_
                  refine rc_topi 0 (by decide) ?_
                  refine lv_istore_n (lv' := [(2, .int 0), (6, .int 0), (5, .int 6), (4, .int 40), (3, .ref h4), (0, .ref h0), (1, .int x0)]) hx hb dX7_manyNow_172 rfl hl (by decide) rfl (fun ls hl => ?_)
                  refine lv_iinc (v := 7) (lv' := [(5, .int 7), (2, .int 0), (6, .int 0), (4, .int 40), (3, .ref h4), (0, .ref h0), (1, .int x0)]) hx hb dX7_manyNow_173 hl (k := 2) rfl (by decide) (by decide) rfl (fun ls hl => ?_)
                  refine lv_goto (tgt := 147) hx hb dX7_manyNow_176 (by decide) ?_
                  refine lv_iload hx hb dX7_manyNow_147 (lv_at hl 0 rfl) ?_
                  refine lv_iload hx hb dX7_manyNow_149 (lv_at hl 3 rfl) ?_
                  refine lv_icmp_ge (tgt := 179) hx hb dX7_manyNow_151 (by decide) (fun c9 => absurd c9 (by decide)) (fun _ => ?_)
                  refine lv_aload_n hx hb dX7_manyNow_154 rfl (lv_at hl 4 rfl) ?_
                  refine lv_iload hx hb dX7_manyNow_155 (lv_at hl 0 rfl) ?_
                  refine rc_zald hx hb hAm hw 3 rfl (vp_in_iff.mpr (by decide)) dX7_manyNow_157 ?_
                  refine rc_topi 0 rfl ?_
                  refine lv_istore (lv' := [(6, .int 0), (5, .int 7), (2, .int 0), (4, .int 40), (3, .ref h4), (0, .ref h0), (1, .int x0)]) hx hb dX7_manyNow_158 hl (by decide) rfl (fun ls hl => ?_)
                  refine lv_iload_n hx hb dX7_manyNow_160 rfl (lv_at hl 2 rfl) ?_
                  refine lv_iload hx hb dX7_manyNow_161 (lv_at hl 0 rfl) ?_
                  refine lv_if_eq (tgt := 170) hx hb dX7_manyNow_163 (by decide) (fun _ => ?_) (fun c9 => absurd (by decide) c9)
                  refine lv_iconst (v := 0) hx hb dX7_manyNow_170 (by decide) ?_
                  refine lv_iadd hx hb dX7_manyNow_171 ?_
                  refine rc_topi 0 (by decide) ?_
                  refine lv_istore_n (lv' := [(2, .int 0), (6, .int 0), (5, .int 7), (4, .int 40), (3, .ref h4), (0, .ref h0), (1, .int x0)]) hx hb dX7_manyNow_172 rfl hl (by decide) rfl (fun ls hl => ?_)
                  refine lv_iinc (v := 8) (lv' := [(5, .int 8), (2, .int 0), (6, .int 0), (4, .int 40), (3, .ref h4), (0, .ref h0), (1, .int x0)]) hx hb dX7_manyNow_173 hl (k := 2) rfl (by decide) (by decide) rfl (fun ls hl => ?_)
                  refine lv_goto (tgt := 147) hx hb dX7_manyNow_176 (by decide) ?_
                  refine lv_iload hx hb dX7_manyNow_147 (lv_at hl 0 rfl) ?_
                  refine lv_iload hx hb dX7_manyNow_149 (lv_at hl 3 rfl) ?_
                  refine lv_icmp_ge (tgt := 179) hx hb dX7_manyNow_151 (by decide) (fun c9 => absurd c9 (by decide)) (fun _ => ?_)
                  refine lv_aload_n hx hb dX7_manyNow_154 rfl (lv_at hl 4 rfl) ?_
                  refine lv_iload hx hb dX7_manyNow_155 (lv_at hl 0 rfl) ?_
                  refine rc_zald hx hb hAm hw 3 rfl (vp_in_iff.mpr (by decide)) dX7_manyNow_157 ?_
                  refine rc_topi 0 rfl ?_
                  refine lv_istore (lv' := [(6, .int 0), (5, .int 8), (2, .int 0), (4, .int 40), (3, .ref h4), (0, .ref h0), (1, .int x0)]) hx hb dX7_manyNow_158 hl (by decide) rfl (fun ls hl => ?_)
                  refine lv_iload_n hx hb dX7_manyNow_160 rfl (lv_at hl 2 rfl) ?_
                  refine lv_iload hx hb dX7_manyNow_161 (lv_at hl 0 rfl) ?_
                  refine lv_if_eq (tgt := 170) hx hb dX7_manyNow_163 (by decide) (fun _ => ?_) (fun c9 => absurd (by decide) c9)
                  refine lv_iconst (v := 0) hx hb dX7_manyNow_170 (by decide) ?_
                  refine lv_iadd hx hb dX7_manyNow_171 ?_
                  refine rc_topi 0 (by decide) ?_
                  refine lv_istore_n (lv' := [(2, .int 0), (6, .int 0), (5, .int 8), (4, .int 40), (3, .ref h4), (0, .ref h0), (1, .int x0)]) hx hb dX7_manyNow_172 rfl hl (by decide) rfl (fun ls hl => ?_)
                  refine lv_iinc (v := 9) (lv' := [(5, .int 9), (2, .int 0), (6, .int 0), (4, .int 40), (3, .ref h4), (0, .ref h0), (1, .int x0)]) hx hb dX7_manyNow_173 hl (k := 2) rfl (by decide) (by decide) rfl (fun ls hl => ?_)
                  refine lv_goto (tgt := 147) hx hb dX7_manyNow_176 (by decide) ?_
                  refine lv_iload hx hb dX7_manyNow_147 (lv_at hl 0 rfl) ?_
                  refine lv_iload hx hb dX7_manyNow_149 (lv_at hl 3 rfl) ?_
                  refine lv_icmp_ge (tgt := 179) hx hb dX7_manyNow_151 (by decide) (fun c9 => absurd c9 (by decide)) (fun _ => ?_)
                  refine lv_aload_n hx hb dX7_manyNow_154 rfl (lv_at hl 4 rfl) ?_
                  refine lv_iload hx hb dX7_manyNow_155 (lv_at hl 0 rfl) ?_
                  refine rc_zald hx hb hAm hw 3 rfl (vp_in_iff.mpr (by decide)) dX7_manyNow_157 ?_
                  refine rc_topi 0 rfl ?_
                  refine lv_istore (lv' := [(6, .int 0), (5, .int 9), (2, .int 0), (4, .int 40), (3, .ref h4), (0, .ref h0), (1, .int x0)]) hx hb dX7_manyNow_158 hl (by decide) rfl (fun ls hl => ?_)
                  refine lv_iload_n hx hb dX7_manyNow_160 rfl (lv_at hl 2 rfl) ?_
                  refine lv_iload hx hb dX7_manyNow_161 (lv_at hl 0 rfl) ?_
                  refine lv_if_eq (tgt := 170) hx hb dX7_manyNow_163 (by decide) (fun _ => ?_) (fun c9 => absurd (by decide) c9)
                  refine lv_iconst (v := 0) hx hb dX7_manyNow_170 (by decide) ?_
                  refine lv_iadd hx hb dX7_manyNow_171 ?_
                  refine rc_topi 0 (by decide) ?_
                  refine lv_istore_n (lv' := [(2, .int 0), (6, .int 0), (5, .int 9), (4, .int 40), (3, .ref h4), (0, .ref h0), (1, .int x0)]) hx hb dX7_manyNow_172 rfl hl (by decide) rfl (fun ls hl => ?_)
                  refine lv_iinc (v := 10) (lv' := [(5, .int 10), (2, .int 0), (6, .int 0), (4, .int 40), (3, .ref h4), (0, .ref h0), (1, .int x0)]) hx hb dX7_manyNow_173 hl (k := 2) rfl (by decide) (by decide) rfl (fun ls hl => ?_)
                  refine lv_goto (tgt := 147) hx hb dX7_manyNow_176 (by decide) ?_
                  refine lv_iload hx hb dX7_manyNow_147 (lv_at hl 0 rfl) ?_
                  refine lv_iload hx hb dX7_manyNow_149 (lv_at hl 3 rfl) ?_
                  refine lv_icmp_ge (tgt := 179) hx hb dX7_manyNow_151 (by decide) (fun c9 => absurd c9 (by decide)) (fun _ => ?_)
                  refine lv_aload_n hx hb dX7_manyNow_154 rfl (lv_at hl 4 rfl) ?_
                  refine lv_iload hx hb dX7_manyNow_155 (lv_at hl 0 rfl) ?_
                  refine rc_zald hx hb hAm hw 3 rfl (vp_in_iff.mpr (by decide)) dX7_manyNow_157 ?_
                  refine rc_topi 0 rfl ?_
                  refine lv_istore (lv' := [(6, .int 0), (5, .int 10), (2, .int 0), (4, .int 40), (3, .ref h4), (0, .ref h0), (1, .int x0)]) hx hb dX7_manyNow_158 hl (by decide) rfl (fun ls hl => ?_)
                  refine lv_iload_n hx hb dX7_manyNow_160 rfl (lv_at hl 2 rfl) ?_
                  refine lv_iload hx hb dX7_manyNow_161 (lv_at hl 0 rfl) ?_
                  refine lv_if_eq (tgt := 170) hx hb dX7_manyNow_163 (by decide) (fun _ => ?_) (fun c9 => absurd (by decide) c9)
                  refine lv_iconst (v := 0) hx hb dX7_manyNow_170 (by decide) ?_
                  refine lv_iadd hx hb dX7_manyNow_171 ?_
                  refine rc_topi 0 (by decide) ?_
                  refine lv_istore_n (lv' := [(2, .int 0), (6, .int 0), (5, .int 10), (4, .int 40), (3, .ref h4), (0, .ref h0), (1, .int x0)]) hx hb dX7_manyNow_172 rfl hl (by decide) rfl (fun ls hl => ?_)
                  refine lv_iinc (v := 11) (lv' := [(5, .int 11), (2, .int 0), (6, .int 0), (4, .int 40), (3, .ref h4), (0, .ref h0), (1, .int x0)]) hx hb dX7_manyNow_173 hl (k := 2) rfl (by decide) (by decide) rfl (fun ls hl => ?_)
                  refine lv_goto (tgt := 147) hx hb dX7_manyNow_176 (by decide) ?_
                  refine lv_iload hx hb dX7_manyNow_147 (lv_at hl 0 rfl) ?_
                  refine lv_iload hx hb dX7_manyNow_149 (lv_at hl 3 rfl) ?_
                  refine lv_icmp_ge (tgt := 179) hx hb dX7_manyNow_151 (by decide) (fun c9 => absurd c9 (by decide)) (fun _ => ?_)
                  refine lv_aload_n hx hb dX7_manyNow_154 rfl (lv_at hl 4 rfl) ?_
                  refine lv_iload hx hb dX7_manyNow_155 (lv_at hl 0 rfl) ?_
                  refine rc_zald hx hb hAm hw 3 rfl (vp_in_iff.mpr (by decide)) dX7_manyNow_157 ?_
                  refine rc_topi 0 rfl ?_
                  refine lv_istore (lv' := [(6, .int 0), (5, .int 11), (2, .int 0), (4, .int 40), (3, .ref h4), (0, .ref h0), (1, .int x0)]) hx hb dX7_manyNow_158 hl (by decide) rfl (fun ls hl => ?_)
                  refine lv_iload_n hx hb dX7_manyNow_160 rfl (lv_at hl 2 rfl) ?_
                  refine lv_iload hx hb dX7_manyNow_161 (lv_at hl 0 rfl) ?_
                  refine lv_if_eq (tgt := 170) hx hb dX7_manyNow_163 (by decide) (fun _ => ?_) (fun c9 => absurd (by decide) c9)
                  refine lv_iconst (v := 0) hx hb dX7_manyNow_170 (by decide) ?_
                  refine lv_iadd hx hb dX7_manyNow_171 ?_
                  refine rc_topi 0 (by decide) ?_
                  refine lv_istore_n (lv' := [(2, .int 0), (6, .int 0), (5, .int 11), (4, .int 40), (3, .ref h4), (0, .ref h0), (1, .int x0)]) hx hb dX7_manyNow_172 rfl hl (by decide) rfl (fun ls hl => ?_)
                  refine lv_iinc (v := 12) (lv' := [(5, .int 12), (2, .int 0), (6, .int 0), (4, .int 40), (3, .ref h4), (0, .ref h0), (1, .int x0)]) hx hb dX7_manyNow_173 hl (k := 2) rfl (by decide) (by decide) rfl (fun ls hl => ?_)
                  refine lv_goto (tgt := 147) hx hb dX7_manyNow_176 (by decide) ?_
                  refine lv_iload hx hb dX7_manyNow_147 (lv_at hl 0 rfl) ?_
                  refine lv_iload hx hb dX7_manyNow_149 (lv_at hl 3 rfl) ?_
                  refine lv_icmp_ge (tgt := 179) hx hb dX7_manyNow_151 (by decide) (fun c9 => absurd c9 (by decide)) (fun _ => ?_)
                  refine lv_aload_n hx hb dX7_manyNow_154 rfl (lv_at hl 4 rfl) ?_
                  refine lv_iload hx hb dX7_manyNow_155 (lv_at hl 0 rfl) ?_
                  refine rc_zald hx hb hAm hw 3 rfl (vp_in_iff.mpr (by decide)) dX7_manyNow_157 ?_
                  refine rc_topi 0 rfl ?_
                  refine lv_istore (lv' := [(6, .int 0), (5, .int 12), (2, .int 0), (4, .int 40), (3, .ref h4), (0, .ref h0), (1, .int x0)]) hx hb dX7_manyNow_158 hl (by decide) rfl (fun ls hl => ?_)
                  refine lv_iload_n hx hb dX7_manyNow_160 rfl (lv_at hl 2 rfl) ?_
                  refine lv_iload hx hb dX7_manyNow_161 (lv_at hl 0 rfl) ?_
                  refine lv_if_eq (tgt := 170) hx hb dX7_manyNow_163 (by decide) (fun _ => ?_) (fun c9 => absurd (by decide) c9)
                  refine lv_iconst (v := 0) hx hb dX7_manyNow_170 (by decide) ?_
                  refine lv_iadd hx hb dX7_manyNow_171 ?_
                  refine rc_topi 0 (by decide) ?_
                  refine lv_istore_n (lv' := [(2, .int 0), (6, .int 0), (5, .int 12), (4, .int 40), (3, .ref h4), (0, .ref h0), (1, .int x0)]) hx hb dX7_manyNow_172 rfl hl (by decide) rfl (fun ls hl => ?_)
                  refine lv_iinc (v := 13) (lv' := [(5, .int 13), (2, .int 0), (6, .int 0), (4, .int 40), (3, .ref h4), (0, .ref h0), (1, .int x0)]) hx hb dX7_manyNow_173 hl (k := 2) rfl (by decide) (by decide) rfl (fun ls hl => ?_)
                  refine lv_goto (tgt := 147) hx hb dX7_manyNow_176 (by decide) ?_
                  refine lv_iload hx hb dX7_manyNow_147 (lv_at hl 0 rfl) ?_
                  refine lv_iload hx hb dX7_manyNow_149 (lv_at hl 3 rfl) ?_
                  refine lv_icmp_ge (tgt := 179) hx hb dX7_manyNow_151 (by decide) (fun c9 => absurd c9 (by decide)) (fun _ => ?_)
                  refine lv_aload_n hx hb dX7_manyNow_154 rfl (lv_at hl 4 rfl) ?_
                  refine lv_iload hx hb dX7_manyNow_155 (lv_at hl 0 rfl) ?_
                  refine rc_zald hx hb hAm hw 3 rfl (vp_in_iff.mpr (by decide)) dX7_manyNow_157 ?_
                  refine rc_topi 0 rfl ?_
                  refine lv_istore (lv' := [(6, .int 0), (5, .int 13), (2, .int 0), (4, .int 40), (3, .ref h4), (0, .ref h0), (1, .int x0)]) hx hb dX7_manyNow_158 hl (by decide) rfl (fun ls hl => ?_)
                  refine lv_iload_n hx hb dX7_manyNow_160 rfl (lv_at hl 2 rfl) ?_
                  refine lv_iload hx hb dX7_manyNow_161 (lv_at hl 0 rfl) ?_
                  refine lv_if_eq (tgt := 170) hx hb dX7_manyNow_163 (by decide) (fun _ => ?_) (fun c9 => absurd (by decide) c9)
                  refine lv_iconst (v := 0) hx hb dX7_manyNow_170 (by decide) ?_
                  refine lv_iadd hx hb dX7_manyNow_171 ?_
                  refine rc_topi 0 (by decide) ?_
                  refine lv_istore_n (lv' := [(2, .int 0), (6, .int 0), (5, .int 13), (4, .int 40), (3, .ref h4), (0, .ref h0), (1, .int x0)]) hx hb dX7_manyNow_172 rfl hl (by decide) rfl (fun ls hl => ?_)
                  refine lv_iinc (v := 14) (lv' := [(5, .int 14), (2, .int 0), (6, .int 0), (4, .int 40), (3, .ref h4), (0, .ref h0), (1, .int x0)]) hx hb dX7_manyNow_173 hl (k := 2) rfl (by decide) (by decide) rfl (fun ls hl => ?_)
                  refine lv_goto (tgt := 147) hx hb dX7_manyNow_176 (by decide) ?_
                  refine lv_iload hx hb dX7_manyNow_147 (lv_at hl 0 rfl) ?_
                  refine lv_iload hx hb dX7_manyNow_149 (lv_at hl 3 rfl) ?_
                  refine lv_icmp_ge (tgt := 179) hx hb dX7_manyNow_151 (by decide) (fun c9 => absurd c9 (by decide)) (fun _ => ?_)
                  refine lv_aload_n hx hb dX7_manyNow_154 rfl (lv_at hl 4 rfl) ?_
                  refine lv_iload hx hb dX7_manyNow_155 (lv_at hl 0 rfl) ?_
                  refine rc_zald hx hb hAm hw 3 rfl (vp_in_iff.mpr (by decide)) dX7_manyNow_157 ?_
                  refine rc_topi 0 rfl ?_
                  refine lv_istore (lv' := [(6, .int 0), (5, .int 14), (2, .int 0), (4, .int 40), (3, .ref h4), (0, .ref h0), (1, .int x0)]) hx hb dX7_manyNow_158 hl (by decide) rfl (fun ls hl => ?_)
                  refine lv_iload_n hx hb dX7_manyNow_160 rfl (lv_at hl 2 rfl) ?_
                  refine lv_iload hx hb dX7_manyNow_161 (lv_at hl 0 rfl) ?_
                  refine lv_if_eq (tgt := 170) hx hb dX7_manyNow_163 (by decide) (fun _ => ?_) (fun c9 => absurd (by decide) c9)
                  refine lv_iconst (v := 0) hx hb dX7_manyNow_170 (by decide) ?_
                  refine lv_iadd hx hb dX7_manyNow_171 ?_
                  refine rc_topi 0 (by decide) ?_
                  refine lv_istore_n (lv' := [(2, .int 0), (6, .int 0), (5, .int 14), (4, .int 40), (3, .ref h4), (0, .ref h0), (1, .int x0)]) hx hb dX7_manyNow_172 rfl hl (by decide) rfl (fun ls hl => ?_)
                  refine lv_iinc (v := 15) (lv' := [(5, .int 15), (2, .int 0), (6, .int 0), (4, .int 40), (3, .ref h4), (0, .ref h0), (1, .int x0)]) hx hb dX7_manyNow_173 hl (k := 2) rfl (by decide) (by decide) rfl (fun ls hl => ?_)
                  refine lv_goto (tgt := 147) hx hb dX7_manyNow_176 (by decide) ?_
                  refine lv_iload hx hb dX7_manyNow_147 (lv_at hl 0 rfl) ?_
                  refine lv_iload hx hb dX7_manyNow_149 (lv_at hl 3 rfl) ?_
                  refine lv_icmp_ge (tgt := 179) hx hb dX7_manyNow_151 (by decide) (fun c9 => absurd c9 (by decide)) (fun _ => ?_)
                  refine lv_aload_n hx hb dX7_manyNow_154 rfl (lv_at hl 4 rfl) ?_
                  refine lv_iload hx hb dX7_manyNow_155 (lv_at hl 0 rfl) ?_
                  refine rc_zald hx hb hAm hw 3 rfl (vp_in_iff.mpr (by decide)) dX7_manyNow_157 ?_
                  refine rc_topi 0 rfl ?_
                  refine lv_istore (lv' := [(6, .int 0), (5, .int 15), (2, .int 0), (4, .int 40), (3, .ref h4), (0, .ref h0), (1, .int x0)]) hx hb dX7_manyNow_158 hl (by decide) rfl (fun ls hl => ?_)
                  refine lv_iload_n hx hb dX7_manyNow_160 rfl (lv_at hl 2 rfl) ?_
                  refine lv_iload hx hb dX7_manyNow_161 (lv_at hl 0 rfl) ?_
                  refine lv_if_eq (tgt := 170) hx hb dX7_manyNow_163 (by decide) (fun _ => ?_) (fun c9 => absurd (by decide) c9)
                  refine lv_iconst (v := 0) hx hb dX7_manyNow_170 (by decide) ?_
                  refine lv_iadd hx hb dX7_manyNow_171 ?_
                  refine rc_topi 0 (by decide) ?_
                  refine lv_istore_n (lv' := [(2, .int 0), (6, .int 0), (5, .int 15), (4, .int 40), (3, .ref h4), (0, .ref h0), (1, .int x0)]) hx hb dX7_manyNow_172 rfl hl (by decide) rfl (fun ls hl => ?_)
                  refine lv_iinc (v := 16) (lv' := [(5, .int 16), (2, .int 0), (6, .int 0), (4, .int 40), (3, .ref h4), (0, .ref h0), (1, .int x0)]) hx hb dX7_manyNow_173 hl (k := 2) rfl (by decide) (by decide) rfl (fun ls hl => ?_)
                  refine lv_goto (tgt := 147) hx hb dX7_manyNow_176 (by decide) ?_
                  refine lv_iload hx hb dX7_manyNow_147 (lv_at hl 0 rfl) ?_
                  refine lv_iload hx hb dX7_manyNow_149 (lv_at hl 3 rfl) ?_
                  refine lv_icmp_ge (tgt := 179) hx hb dX7_manyNow_151 (by decide) (fun c9 => absurd c9 (by decide)) (fun _ => ?_)
                  refine lv_aload_n hx hb dX7_manyNow_154 rfl (lv_at hl 4 rfl) ?_
                  refine lv_iload hx hb dX7_manyNow_155 (lv_at hl 0 rfl) ?_
                  refine rc_zald hx hb hAm hw 3 rfl (vp_in_iff.mpr (by decide)) dX7_manyNow_157 ?_
                  refine rc_topi 0 rfl ?_
                  refine lv_istore (lv' := [(6, .int 0), (5, .int 16), (2, .int 0), (4, .int 40), (3, .ref h4), (0, .ref h0), (1, .int x0)]) hx hb dX7_manyNow_158 hl (by decide) rfl (fun ls hl => ?_)
                  refine lv_iload_n hx hb dX7_manyNow_160 rfl (lv_at hl 2 rfl) ?_
                  refine lv_iload hx hb dX7_manyNow_161 (lv_at hl 0 rfl) ?_
                  refine lv_if_eq (tgt := 170) hx hb dX7_manyNow_163 (by decide) (fun _ => ?_) (fun c9 => absurd (by decide) c9)
                  refine lv_iconst (v := 0) hx hb dX7_manyNow_170 (by decide) ?_
                  refine lv_iadd hx hb dX7_manyNow_171 ?_
                  refine rc_topi 0 (by decide) ?_
                  refine lv_istore_n (lv' := [(2, .int 0), (6, .int 0), (5, .int 16), (4, .int 40), (3, .ref h4), (0, .ref h0), (1, .int x0)]) hx hb dX7_manyNow_172 rfl hl (by decide) rfl (fun ls hl => ?_)
                  refine lv_iinc (v := 17) (lv' := [(5, .int 17), (2, .int 0), (6, .int 0), (4, .int 40), (3, .ref h4), (0, .ref h0), (1, .int x0)]) hx hb dX7_manyNow_173 hl (k := 2) rfl (by decide) (by decide) rfl (fun ls hl => ?_)
                  refine lv_goto (tgt := 147) hx hb dX7_manyNow_176 (by decide) ?_
                  refine lv_iload hx hb dX7_manyNow_147 (lv_at hl 0 rfl) ?_
                  refine lv_iload hx hb dX7_manyNow_149 (lv_at hl 3 rfl) ?_
                  refine lv_icmp_ge (tgt := 179) hx hb dX7_manyNow_151 (by decide) (fun c9 => absurd c9 (by decide)) (fun _ => ?_)
                  refine lv_aload_n hx hb dX7_manyNow_154 rfl (lv_at hl 4 rfl) ?_
                  refine lv_iload hx hb dX7_manyNow_155 (lv_at hl 0 rfl) ?_
                  refine rc_zald hx hb hAm hw 3 rfl (vp_in_iff.mpr (by decide)) dX7_manyNow_157 ?_
                  refine rc_topi 0 rfl ?_
                  refine lv_istore (lv' := [(6, .int 0), (5, .int 17), (2, .int 0), (4, .int 40), (3, .ref h4), (0, .ref h0), (1, .int x0)]) hx hb dX7_manyNow_158 hl (by decide) rfl (fun ls hl => ?_)
                  refine lv_iload_n hx hb dX7_manyNow_160 rfl (lv_at hl 2 rfl) ?_
                  refine lv_iload hx hb dX7_manyNow_161 (lv_at hl 0 rfl) ?_
                  refine lv_if_eq (tgt := 170) hx hb dX7_manyNow_163 (by decide) (fun _ => ?_) (fun c9 => absurd (by decide) c9)
                  refine lv_iconst (v := 0) hx hb dX7_manyNow_170 (by decide) ?_
                  refine lv_iadd hx hb dX7_manyNow_171 ?_
                  refine rc_topi 0 (by decide) ?_
                  refine lv_istore_n (lv' := [(2, .int 0), (6, .int 0), (5, .int 17), (4, .int 40), (3, .ref h4), (0, .ref h0), (1, .int x0)]) hx hb dX7_manyNow_172 rfl hl (by decide) rfl (fun ls hl => ?_)
                  refine lv_iinc (v := 18) (lv' := [(5, .int 18), (2, .int 0), (6, .int 0), (4, .int 40), (3, .ref h4), (0, .ref h0), (1, .int x0)]) hx hb dX7_manyNow_173 hl (k := 2) rfl (by decide) (by decide) rfl (fun ls hl => ?_)
                  refine lv_goto (tgt := 147) hx hb dX7_manyNow_176 (by decide) ?_
                  refine lv_iload hx hb dX7_manyNow_147 (lv_at hl 0 rfl) ?_
                  refine lv_iload hx hb dX7_manyNow_149 (lv_at hl 3 rfl) ?_
                  refine lv_icmp_ge (tgt := 179) hx hb dX7_manyNow_151 (by decide) (fun c9 => absurd c9 (by decide)) (fun _ => ?_)
                  refine lv_aload_n hx hb dX7_manyNow_154 rfl (lv_at hl 4 rfl) ?_
                  refine lv_iload hx hb dX7_manyNow_155 (lv_at hl 0 rfl) ?_
                  refine rc_zald hx hb hAm hw 3 rfl (vp_in_iff.mpr (by decide)) dX7_manyNow_157 ?_
                  refine rc_topi 0 rfl ?_
                  refine lv_istore (lv' := [(6, .int 0), (5, .int 18), (2, .int 0), (4, .int 40), (3, .ref h4), (0, .ref h0), (1, .int x0)]) hx hb dX7_manyNow_158 hl (by decide) rfl (fun ls hl => ?_)
                  refine lv_iload_n hx hb dX7_manyNow_160 rfl (lv_at hl 2 rfl) ?_
                  refine lv_iload hx hb dX7_manyNow_161 (lv_at hl 0 rfl) ?_
                  refine lv_if_eq (tgt := 170) hx hb dX7_manyNow_163 (by decide) (fun _ => ?_) (fun c9 => absurd (by decide) c9)
                  refine lv_iconst (v := 0) hx hb dX7_manyNow_170 (by decide) ?_
                  refine lv_iadd hx hb dX7_manyNow_171 ?_
                  refine rc_topi 0 (by decide) ?_
                  refine lv_istore_n (lv' := [(2, .int 0), (6, .int 0), (5, .int 18), (4, .int 40), (3, .ref h4), (0, .ref h0), (1, .int x0)]) hx hb dX7_manyNow_172 rfl hl (by decide) rfl (fun ls hl => ?_)
                  refine lv_iinc (v := 19) (lv' := [(5, .int 19), (2, .int 0), (6, .int 0), (4, .int 40), (3, .ref h4), (0, .ref h0), (1, .int x0)]) hx hb dX7_manyNow_173 hl (k := 2) rfl (by decide) (by decide) rfl (fun ls hl => ?_)
                  refine lv_goto (tgt := 147) hx hb dX7_manyNow_176 (by decide) ?_
                  refine lv_iload hx hb dX7_manyNow_147 (lv_at hl 0 rfl) ?_
                  refine lv_iload hx hb dX7_manyNow_149 (lv_at hl 3 rfl) ?_
                  refine lv_icmp_ge (tgt := 179) hx hb dX7_manyNow_151 (by decide) (fun c9 => absurd c9 (by decide)) (fun _ => ?_)
                  refine lv_aload_n hx hb dX7_manyNow_154 rfl (lv_at hl 4 rfl) ?_
                  refine lv_iload hx hb dX7_manyNow_155 (lv_at hl 0 rfl) ?_
                  refine rc_zald hx hb hAm hw 3 rfl (vp_in_iff.mpr (by decide)) dX7_manyNow_157 ?_
                  refine rc_topi 0 rfl ?_
                  refine lv_istore (lv' := [(6, .int 0), (5, .int 19), (2, .int 0), (4, .int 40), (3, .ref h4), (0, .ref h0), (1, .int x0)]) hx hb dX7_manyNow_158 hl (by decide) rfl (fun ls hl => ?_)
                  refine lv_iload_n hx hb dX7_manyNow_160 rfl (lv_at hl 2 rfl) ?_
                  refine lv_iload hx hb dX7_manyNow_161 (lv_at hl 0 rfl) ?_
                  refine lv_if_eq (tgt := 170) hx hb dX7_manyNow_163 (by decide) (fun _ => ?_) (fun c9 => absurd (by decide) c9)
                  refine lv_iconst (v := 0) hx hb dX7_manyNow_170 (by decide) ?_
                  refine lv_iadd hx hb dX7_manyNow_171 ?_
                  refine rc_topi 0 (by decide) ?_
                  refine lv_istore_n (lv' := [(2, .int 0), (6, .int 0), (5, .int 19), (4, .int 40), (3, .ref h4), (0, .ref h0), (1, .int x0)]) hx hb dX7_manyNow_172 rfl hl (by decide) rfl (fun ls hl => ?_)
                  refine lv_iinc (v := 20) (lv' := [(5, .int 20), (2, .int 0), (6, .int 0), (4, .int 40), (3, .ref h4), (0, .ref h0), (1, .int x0)]) hx hb dX7_manyNow_173 hl (k := 2) rfl (by decide) (by decide) rfl (fun ls hl => ?_)
                  refine lv_goto (tgt := 147) hx hb dX7_manyNow_176 (by decide) ?_
                  refine lv_iload hx hb dX7_manyNow_147 (lv_at hl 0 rfl) ?_
                  refine lv_iload hx hb dX7_manyNow_149 (lv_at hl 3 rfl) ?_
                  refine lv_icmp_ge (tgt := 179) hx hb dX7_manyNow_151 (by decide) (fun c9 => absurd c9 (by decide)) (fun _ => ?_)
                  refine lv_aload_n hx hb dX7_manyNow_154 rfl (lv_at hl 4 rfl) ?_
                  refine lv_iload hx hb dX7_manyNow_155 (lv_at hl 0 rfl) ?_
                  refine rc_zald hx hb hAm hw 3 rfl (vp_in_iff.mpr (by decide)) dX7_manyNow_157 ?_
                  refine rc_topi 0 rfl ?_
                  refine lv_istore (lv' := [(6, .int 0), (5, .int 20), (2, .int 0), (4, .int 40), (3, .ref h4), (0, .ref h0), (1, .int x0)]) hx hb dX7_manyNow_158 hl (by decide) rfl (fun ls hl => ?_)
                  refine lv_iload_n hx hb dX7_manyNow_160 rfl (lv_at hl 2 rfl) ?_
                  refine lv_iload hx hb dX7_manyNow_161 (lv_at hl 0 rfl) ?_
                  refine lv_if_eq (tgt := 170) hx hb dX7_manyNow_163 (by decide) (fun _ => ?_) (fun c9 => absurd (by decide) c9)
                  refine lv_iconst (v := 0) hx hb dX7_manyNow_170 (by decide) ?_
                  refine lv_iadd hx hb dX7_manyNow_171 ?_
                  refine rc_topi 0 (by decide) ?_
                  refine lv_istore_n (lv' := [(2, .int 0), (6, .int 0), (5, .int 20), (4, .int 40), (3, .ref h4), (0, .ref h0), (1, .int x0)]) hx hb dX7_manyNow_172 rfl hl (by decide) rfl (fun ls hl => ?_)
                  refine lv_iinc (v := 21) (lv' := [(5, .int 21), (2, .int 0), (6, .int 0), (4, .int 40), (3, .ref h4), (0, .ref h0), (1, .int x0)]) hx hb dX7_manyNow_173 hl (k := 2) rfl (by decide) (by decide) rfl (fun ls hl => ?_)
                  refine lv_goto (tgt := 147) hx hb dX7_manyNow_176 (by decide) ?_
                  refine lv_iload hx hb dX7_manyNow_147 (lv_at hl 0 rfl) ?_
                  refine lv_iload hx hb dX7_manyNow_149 (lv_at hl 3 rfl) ?_
                  refine lv_icmp_ge (tgt := 179) hx hb dX7_manyNow_151 (by decide) (fun c9 => absurd c9 (by decide)) (fun _ => ?_)
                  refine lv_aload_n hx hb dX7_manyNow_154 rfl (lv_at hl 4 rfl) ?_
                  refine lv_iload hx hb dX7_manyNow_155 (lv_at hl 0 rfl) ?_
                  refine rc_zald hx hb hAm hw 3 rfl (vp_in_iff.mpr (by decide)) dX7_manyNow_157 ?_
                  refine rc_topi 0 rfl ?_
                  refine lv_istore (lv' := [(6, .int 0), (5, .int 21), (2, .int 0), (4, .int 40), (3, .ref h4), (0, .ref h0), (1, .int x0)]) hx hb dX7_manyNow_158 hl (by decide) rfl (fun ls hl => ?_)
                  refine lv_iload_n hx hb dX7_manyNow_160 rfl (lv_at hl 2 rfl) ?_
                  refine lv_iload hx hb dX7_manyNow_161 (lv_at hl 0 rfl) ?_
                  refine lv_if_eq (tgt := 170) hx hb dX7_manyNow_163 (by decide) (fun _ => ?_) (fun c9 => absurd (by decide) c9)
                  refine lv_iconst (v := 0) hx hb dX7_manyNow_170 (by decide) ?_
                  refine lv_iadd hx hb dX7_manyNow_171 ?_
                  refine rc_topi 0 (by decide) ?_
                  refine lv_istore_n (lv' := [(2, .int 0), (6, .int 0), (5, .int 21), (4, .int 40), (3, .ref h4), (0, .ref h0), (1, .int x0)]) hx hb dX7_manyNow_172 rfl hl (by decide) rfl (fun ls hl => ?_)
                  refine lv_iinc (v := 22) (lv' := [(5, .int 22), (2, .int 0), (6, .int 0), (4, .int 40), (3, .ref h4), (0, .ref h0), (1, .int x0)]) hx hb dX7_manyNow_173 hl (k := 2) rfl (by decide) (by decide) rfl (fun ls hl => ?_)
                  refine lv_goto (tgt := 147) hx hb dX7_manyNow_176 (by decide) ?_
                  refine lv_iload hx hb dX7_manyNow_147 (lv_at hl 0 rfl) ?_
                  refine lv_iload hx hb dX7_manyNow_149 (lv_at hl 3 rfl) ?_
                  refine lv_icmp_ge (tgt := 179) hx hb dX7_manyNow_151 (by decide) (fun c9 => absurd c9 (by decide)) (fun _ => ?_)
                  refine lv_aload_n hx hb dX7_manyNow_154 rfl (lv_at hl 4 rfl) ?_
                  refine lv_iload hx hb dX7_manyNow_155 (lv_at hl 0 rfl) ?_
                  refine rc_zald hx hb hAm hw 3 rfl (vp_in_iff.mpr (by decide)) dX7_manyNow_157 ?_
                  refine rc_topi 0 rfl ?_
                  refine lv_istore (lv' := [(6, .int 0), (5, .int 22), (2, .int 0), (4, .int 40), (3, .ref h4), (0, .ref h0), (1, .int x0)]) hx hb dX7_manyNow_158 hl (by decide) rfl (fun ls hl => ?_)
                  refine lv_iload_n hx hb dX7_manyNow_160 rfl (lv_at hl 2 rfl) ?_
                  refine lv_iload hx hb dX7_manyNow_161 (lv_at hl 0 rfl) ?_
                  refine lv_if_eq (tgt := 170) hx hb dX7_manyNow_163 (by decide) (fun _ => ?_) (fun c9 => absurd (by decide) c9)
                  refine lv_iconst (v := 0) hx hb dX7_manyNow_170 (by decide) ?_
                  refine lv_iadd hx hb dX7_manyNow_171 ?_
                  refine rc_topi 0 (by decide) ?_
                  refine lv_istore_n (lv' := [(2, .int 0), (6, .int 0), (5, .int 22), (4, .int 40), (3, .ref h4), (0, .ref h0), (1, .int x0)]) hx hb dX7_manyNow_172 rfl hl (by decide) rfl (fun ls hl => ?_)
                  refine lv_iinc (v := 23) (lv' := [(5, .int 23), (2, .int 0), (6, .int 0), (4, .int 40), (3, .ref h4), (0, .ref h0), (1, .int x0)]) hx hb dX7_manyNow_173 hl (k := 2) rfl (by decide) (by decide) rfl (fun ls hl => ?_)
                  refine lv_goto (tgt := 147) hx hb dX7_manyNow_176 (by decide) ?_
                  refine lv_iload hx hb dX7_manyNow_147 (lv_at hl 0 rfl) ?_
                  refine lv_iload hx hb dX7_manyNow_149 (lv_at hl 3 rfl) ?_
                  refine lv_icmp_ge (tgt := 179) hx hb dX7_manyNow_151 (by decide) (fun c9 => absurd c9 (by decide)) (fun _ => ?_)
                  refine lv_aload_n hx hb dX7_manyNow_154 rfl (lv_at hl 4 rfl) ?_
                  refine lv_iload hx hb dX7_manyNow_155 (lv_at hl 0 rfl) ?_
                  refine rc_zald hx hb hAm hw 3 rfl (vp_in_iff.mpr (by decide)) dX7_manyNow_157 ?_
                  refine rc_topi 0 rfl ?_
                  refine lv_istore (lv' := [(6, .int 0), (5, .int 23), (2, .int 0), (4, .int 40), (3, .ref h4), (0, .ref h0), (1, .int x0)]) hx hb dX7_manyNow_158 hl (by decide) rfl (fun ls hl => ?_)
                  refine lv_iload_n hx hb dX7_manyNow_160 rfl (lv_at hl 2 rfl) ?_
                  refine lv_iload hx hb dX7_manyNow_161 (lv_at hl 0 rfl) ?_
                  refine lv_if_eq (tgt := 170) hx hb dX7_manyNow_163 (by decide) (fun _ => ?_) (fun c9 => absurd (by decide) c9)
                  refine lv_iconst (v := 0) hx hb dX7_manyNow_170 (by decide) ?_
                  refine lv_iadd hx hb dX7_manyNow_171 ?_
                  refine rc_topi 0 (by decide) ?_
                  refine lv_istore_n (lv' := [(2, .int 0), (6, .int 0), (5, .int 23), (4, .int 40), (3, .ref h4), (0, .ref h0), (1, .int x0)]) hx hb dX7_manyNow_172 rfl hl (by decide) rfl (fun ls hl => ?_)
                  refine lv_iinc (v := 24) (lv' := [(5, .int 24), (2, .int 0), (6, .int 0), (4, .int 40), (3, .ref h4), (0, .ref h0), (1, .int x0)]) hx hb dX7_manyNow_173 hl (k := 2) rfl (by decide) (by decide) rfl (fun ls hl => ?_)
                  refine lv_goto (tgt := 147) hx hb dX7_manyNow_176 (by decide) ?_
                  refine lv_iload hx hb dX7_manyNow_147 (lv_at hl 0 rfl) ?_
                  refine lv_iload hx hb dX7_manyNow_149 (lv_at hl 3 rfl) ?_
                  refine lv_icmp_ge (tgt := 179) hx hb dX7_manyNow_151 (by decide) (fun c9 => absurd c9 (by decide)) (fun _ => ?_)
                  refine lv_aload_n hx hb dX7_manyNow_154 rfl (lv_at hl 4 rfl) ?_
                  refine lv_iload hx hb dX7_manyNow_155 (lv_at hl 0 rfl) ?_
                  refine rc_zald hx hb hAm hw 3 rfl (vp_in_iff.mpr (by decide)) dX7_manyNow_157 ?_
                  refine rc_topi 0 rfl ?_
                  refine lv_istore (lv' := [(6, .int 0), (5, .int 24), (2, .int 0), (4, .int 40), (3, .ref h4), (0, .ref h0), (1, .int x0)]) hx hb dX7_manyNow_158 hl (by decide) rfl (fun ls hl => ?_)
                  refine lv_iload_n hx hb dX7_manyNow_160 rfl (lv_at hl 2 rfl) ?_
                  refine lv_iload hx hb dX7_manyNow_161 (lv_at hl 0 rfl) ?_
                  refine lv_if_eq (tgt := 170) hx hb dX7_manyNow_163 (by decide) (fun _ => ?_) (fun c9 => absurd (by decide) c9)
                  refine lv_iconst (v := 0) hx hb dX7_manyNow_170 (by decide) ?_
                  refine lv_iadd hx hb dX7_manyNow_171 ?_
                  refine rc_topi 0 (by decide) ?_
                  refine lv_istore_n (lv' := [(2, .int 0), (6, .int 0), (5, .int 24), (4, .int 40), (3, .ref h4), (0, .ref h0), (1, .int x0)]) hx hb dX7_manyNow_172 rfl hl (by decide) rfl (fun ls hl => ?_)
                  refine lv_iinc (v := 25) (lv' := [(5, .int 25), (2, .int 0), (6, .int 0), (4, .int 40), (3, .ref h4), (0, .ref h0), (1, .int x0)]) hx hb dX7_manyNow_173 hl (k := 2) rfl (by decide) (by decide) rfl (fun ls hl => ?_)
                  refine lv_goto (tgt := 147) hx hb dX7_manyNow_176 (by decide) ?_
                  refine lv_iload hx hb dX7_manyNow_147 (lv_at hl 0 rfl) ?_
                  refine lv_iload hx hb dX7_manyNow_149 (lv_at hl 3 rfl) ?_
                  refine lv_icmp_ge (tgt := 179) hx hb dX7_manyNow_151 (by decide) (fun c9 => absurd c9 (by decide)) (fun _ => ?_)
                  refine lv_aload_n hx hb dX7_manyNow_154 rfl (lv_at hl 4 rfl) ?_
                  refine lv_iload hx hb dX7_manyNow_155 (lv_at hl 0 rfl) ?_
                  refine rc_zald hx hb hAm hw 3 rfl (vp_in_iff.mpr (by decide)) dX7_manyNow_157 ?_
                  refine rc_topi 0 rfl ?_
                  refine lv_istore (lv' := [(6, .int 0), (5, .int 25), (2, .int 0), (4, .int 40), (3, .ref h4), (0, .ref h0), (1, .int x0)]) hx hb dX7_manyNow_158 hl (by decide) rfl (fun ls hl => ?_)
                  refine lv_iload_n hx hb dX7_manyNow_160 rfl (lv_at hl 2 rfl) ?_
                  refine lv_iload hx hb dX7_manyNow_161 (lv_at hl 0 rfl) ?_
                  refine lv_if_eq (tgt := 170) hx hb dX7_manyNow_163 (by decide) (fun _ => ?_) (fun c9 => absurd (by decide) c9)
                  refine lv_iconst (v := 0) hx hb dX7_manyNow_170 (by decide) ?_
                  refine lv_iadd hx hb dX7_manyNow_171 ?_
                  refine rc_topi 0 (by decide) ?_
                  refine lv_istore_n (lv' := [(2, .int 0), (6, .int 0), (5, .int 25), (4, .int 40), (3, .ref h4), (0, .ref h0), (1, .int x0)]) hx hb dX7_manyNow_172 rfl hl (by decide) rfl (fun ls hl => ?_)
                  refine lv_iinc (v := 26) (lv' := [(5, .int 26), (2, .int 0), (6, .int 0), (4, .int 40), (3, .ref h4), (0, .ref h0), (1, .int x0)]) hx hb dX7_manyNow_173 hl (k := 2) rfl (by decide) (by decide) rfl (fun ls hl => ?_)
                  refine lv_goto (tgt := 147) hx hb dX7_manyNow_176 (by decide) ?_
                  refine lv_iload hx hb dX7_manyNow_147 (lv_at hl 0 rfl) ?_
                  refine lv_iload hx hb dX7_manyNow_149 (lv_at hl 3 rfl) ?_
                  refine lv_icmp_ge (tgt := 179) hx hb dX7_manyNow_151 (by decide) (fun c9 => absurd c9 (by decide)) (fun _ => ?_)
                  refine lv_aload_n hx hb dX7_manyNow_154 rfl (lv_at hl 4 rfl) ?_
                  refine lv_iload hx hb dX7_manyNow_155 (lv_at hl 0 rfl) ?_
                  refine rc_zald hx hb hAm hw 3 rfl (vp_in_iff.mpr (by decide)) dX7_manyNow_157 ?_
                  refine rc_topi 0 rfl ?_
                  refine lv_istore (lv' := [(6, .int 0), (5, .int 26), (2, .int 0), (4, .int 40), (3, .ref h4), (0, .ref h0), (1, .int x0)]) hx hb dX7_manyNow_158 hl (by decide) rfl (fun ls hl => ?_)
                  refine lv_iload_n hx hb dX7_manyNow_160 rfl (lv_at hl 2 rfl) ?_
                  refine lv_iload hx hb dX7_manyNow_161 (lv_at hl 0 rfl) ?_
                  refine lv_if_eq (tgt := 170) hx hb dX7_manyNow_163 (by decide) (fun _ => ?_) (fun c9 => absurd (by decide) c9)
                  refine lv_iconst (v := 0) hx hb dX7_manyNow_170 (by decide) ?_
                  refine lv_iadd hx hb dX7_manyNow_171 ?_
                  refine rc_topi 0 (by decide) ?_
                  refine lv_istore_n (lv' := [(2, .int 0), (6, .int 0), (5, .int 26), (4, .int 40), (3, .ref h4), (0, .ref h0), (1, .int x0)]) hx hb dX7_manyNow_172 rfl hl (by decide) rfl (fun ls hl => ?_)
                  refine lv_iinc (v := 27) (lv' := [(5, .int 27), (2, .int 0), (6, .int 0), (4, .int 40), (3, .ref h4), (0, .ref h0), (1, .int x0)]) hx hb dX7_manyNow_173 hl (k := 2) rfl (by decide) (by decide) rfl (fun ls hl => ?_)
                  refine lv_goto (tgt := 147) hx hb dX7_manyNow_176 (by decide) ?_
                  refine lv_iload hx hb dX7_manyNow_147 (lv_at hl 0 rfl) ?_
                  refine lv_iload hx hb dX7_manyNow_149 (lv_at hl 3 rfl) ?_
                  refine lv_icmp_ge (tgt := 179) hx hb dX7_manyNow_151 (by decide) (fun c9 => absurd c9 (by decide)) (fun _ => ?_)
                  refine lv_aload_n hx hb dX7_manyNow_154 rfl (lv_at hl 4 rfl) ?_
                  refine lv_iload hx hb dX7_manyNow_155 (lv_at hl 0 rfl) ?_
                  refine rc_zald hx hb hAm hw 3 rfl (vp_in_iff.mpr (by decide)) dX7_manyNow_157 ?_
                  refine rc_topi 0 rfl ?_
                  refine lv_istore (lv' := [(6, .int 0), (5, .int 27), (2, .int 0), (4, .int 40), (3, .ref h4), (0, .ref h0), (1, .int x0)]) hx hb dX7_manyNow_158 hl (by decide) rfl (fun ls hl => ?_)
                  refine lv_iload_n hx hb dX7_manyNow_160 rfl (lv_at hl 2 rfl) ?_
                  refine lv_iload hx hb dX7_manyNow_161 (lv_at hl 0 rfl) ?_
                  refine lv_if_eq (tgt := 170) hx hb dX7_manyNow_163 (by decide) (fun _ => ?_) (fun c9 => absurd (by decide) c9)
                  refine lv_iconst (v := 0) hx hb dX7_manyNow_170 (by decide) ?_
                  refine lv_iadd hx hb dX7_manyNow_171 ?_
                  refine rc_topi 0 (by decide) ?_
                  refine lv_istore_n (lv' := [(2, .int 0), (6, .int 0), (5, .int 27), (4, .int 40), (3, .ref h4), (0, .ref h0), (1, .int x0)]) hx hb dX7_manyNow_172 rfl hl (by decide) rfl (fun ls hl => ?_)
                  refine lv_iinc (v := 28) (lv' := [(5, .int 28), (2, .int 0), (6, .int 0), (4, .int 40), (3, .ref h4), (0, .ref h0), (1, .int x0)]) hx hb dX7_manyNow_173 hl (k := 2) rfl (by decide) (by decide) rfl (fun ls hl => ?_)
                  refine lv_goto (tgt := 147) hx hb dX7_manyNow_176 (by decide) ?_
                  refine lv_iload hx hb dX7_manyNow_147 (lv_at hl 0 rfl) ?_
                  refine lv_iload hx hb dX7_manyNow_149 (lv_at hl 3 rfl) ?_
                  refine lv_icmp_ge (tgt := 179) hx hb dX7_manyNow_151 (by decide) (fun c9 => absurd c9 (by decide)) (fun _ => ?_)
                  refine lv_aload_n hx hb dX7_manyNow_154 rfl (lv_at hl 4 rfl) ?_
                  refine lv_iload hx hb dX7_manyNow_155 (lv_at hl 0 rfl) ?_
                  refine rc_zald hx hb hAm hw 3 rfl (vp_in_iff.mpr (by decide)) dX7_manyNow_157 ?_
                  refine rc_topi 0 rfl ?_
                  refine lv_istore (lv' := [(6, .int 0), (5, .int 28), (2, .int 0), (4, .int 40), (3, .ref h4), (0, .ref h0), (1, .int x0)]) hx hb dX7_manyNow_158 hl (by decide) rfl (fun ls hl => ?_)
                  refine lv_iload_n hx hb dX7_manyNow_160 rfl (lv_at hl 2 rfl) ?_
                  refine lv_iload hx hb dX7_manyNow_161 (lv_at hl 0 rfl) ?_
                  refine lv_if_eq (tgt := 170) hx hb dX7_manyNow_163 (by decide) (fun _ => ?_) (fun c9 => absurd (by decide) c9)
                  refine lv_iconst (v := 0) hx hb dX7_manyNow_170 (by decide) ?_
                  refine lv_iadd hx hb dX7_manyNow_171 ?_
                  refine rc_topi 0 (by decide) ?_
                  refine lv_istore_n (lv' := [(2, .int 0), (6, .int 0), (5, .int 28), (4, .int 40), (3, .ref h4), (0, .ref h0), (1, .int x0)]) hx hb dX7_manyNow_172 rfl hl (by decide) rfl (fun ls hl => ?_)
                  refine lv_iinc (v := 29) (lv' := [(5, .int 29), (2, .int 0), (6, .int 0), (4, .int 40), (3, .ref h4), (0, .ref h0), (1, .int x0)]) hx hb dX7_manyNow_173 hl (k := 2) rfl (by decide) (by decide) rfl (fun ls hl => ?_)
                  refine lv_goto (tgt := 147) hx hb dX7_manyNow_176 (by decide) ?_
                  refine lv_iload hx hb dX7_manyNow_147 (lv_at hl 0 rfl) ?_
                  refine lv_iload hx hb dX7_manyNow_149 (lv_at hl 3 rfl) ?_
                  refine lv_icmp_ge (tgt := 179) hx hb dX7_manyNow_151 (by decide) (fun c9 => absurd c9 (by decide)) (fun _ => ?_)
                  refine lv_aload_n hx hb dX7_manyNow_154 rfl (lv_at hl 4 rfl) ?_
                  refine lv_iload hx hb dX7_manyNow_155 (lv_at hl 0 rfl) ?_
                  refine rc_zald hx hb hAm hw 3 rfl (vp_in_iff.mpr (by decide)) dX7_manyNow_157 ?_
                  refine rc_topi 0 rfl ?_
                  refine lv_istore (lv' := [(6, .int 0), (5, .int 29), (2, .int 0), (4, .int 40), (3, .ref h4), (0, .ref h0), (1, .int x0)]) hx hb dX7_manyNow_158 hl (by decide) rfl (fun ls hl => ?_)
                  refine lv_iload_n hx hb dX7_manyNow_160 rfl (lv_at hl 2 rfl) ?_
                  refine lv_iload hx hb dX7_manyNow_161 (lv_at hl 0 rfl) ?_
                  refine lv_if_eq (tgt := 170) hx hb dX7_manyNow_163 (by decide) (fun _ => ?_) (fun c9 => absurd (by decide) c9)
                  refine lv_iconst (v := 0) hx hb dX7_manyNow_170 (by decide) ?_
                  refine lv_iadd hx hb dX7_manyNow_171 ?_
                  refine rc_topi 0 (by decide) ?_
                  refine lv_istore_n (lv' := [(2, .int 0), (6, .int 0), (5, .int 29), (4, .int 40), (3, .ref h4), (0, .ref h0), (1, .int x0)]) hx hb dX7_manyNow_172 rfl hl (by decide) rfl (fun ls hl => ?_)
                  refine lv_iinc (v := 30) (lv' := [(5, .int 30), (2, .int 0), (6, .int 0), (4, .int 40), (3, .ref h4), (0, .ref h0), (1, .int x0)]) hx hb dX7_manyNow_173 hl (k := 2) rfl (by decide) (by decide) rfl (fun ls hl => ?_)
                  refine lv_goto (tgt := 147) hx hb dX7_manyNow_176 (by decide) ?_
                  refine lv_iload hx hb dX7_manyNow_147 (lv_at hl 0 rfl) ?_
                  refine lv_iload hx hb dX7_manyNow_149 (lv_at hl 3 rfl) ?_
                  refine lv_icmp_ge (tgt := 179) hx hb dX7_manyNow_151 (by decide) (fun c9 => absurd c9 (by decide)) (fun _ => ?_)
                  refine lv_aload_n hx hb dX7_manyNow_154 rfl (lv_at hl 4 rfl) ?_
                  refine lv_iload hx hb dX7_manyNow_155 (lv_at hl 0 rfl) ?_
                  refine rc_zald hx hb hAm hw 3 rfl (vp_in_iff.mpr (by decide)) dX7_manyNow_157 ?_
                  refine rc_topi 0 rfl ?_
                  refine lv_istore (lv' := [(6, .int 0), (5, .int 30), (2, .int 0), (4, .int 40), (3, .ref h4), (0, .ref h0), (1, .int x0)]) hx hb dX7_manyNow_158 hl (by decide) rfl (fun ls hl => ?_)
                  refine lv_iload_n hx hb dX7_manyNow_160 rfl (lv_at hl 2 rfl) ?_
                  refine lv_iload hx hb dX7_manyNow_161 (lv_at hl 0 rfl) ?_
                  refine lv_if_eq (tgt := 170) hx hb dX7_manyNow_163 (by decide) (fun _ => ?_) (fun c9 => absurd (by decide) c9)
                  refine lv_iconst (v := 0) hx hb dX7_manyNow_170 (by decide) ?_
                  refine lv_iadd hx hb dX7_manyNow_171 ?_
                  refine rc_topi 0 (by decide) ?_
                  refine lv_istore_n (lv' := [(2, .int 0), (6, .int 0), (5, .int 30), (4, .int 40), (3, .ref h4), (0, .ref h0), (1, .int x0)]) hx hb dX7_manyNow_172 rfl hl (by decide) rfl (fun ls hl => ?_)
                  refine lv_iinc (v := 31) (lv' := [(5, .int 31), (2, .int 0), (6, .int 0), (4, .int 40), (3, .ref h4), (0, .ref h0), (1, .int x0)]) hx hb dX7_manyNow_173 hl (k := 2) rfl (by decide) (by decide) rfl (fun ls hl => ?_)
                  refine lv_goto (tgt := 147) hx hb dX7_manyNow_176 (by decide) ?_
                  refine lv_iload hx hb dX7_manyNow_147 (lv_at hl 0 rfl) ?_
                  refine lv_iload hx hb dX7_manyNow_149 (lv_at hl 3 rfl) ?_
                  refine lv_icmp_ge (tgt := 179) hx hb dX7_manyNow_151 (by decide) (fun c9 => absurd c9 (by decide)) (fun _ => ?_)
                  refine lv_aload_n hx hb dX7_manyNow_154 rfl (lv_at hl 4 rfl) ?_
                  refine lv_iload hx hb dX7_manyNow_155 (lv_at hl 0 rfl) ?_
                  refine rc_zald hx hb hAm hw 3 rfl (vp_in_iff.mpr (by decide)) dX7_manyNow_157 ?_
                  refine rc_topi 0 rfl ?_
                  refine lv_istore (lv' := [(6, .int 0), (5, .int 31), (2, .int 0), (4, .int 40), (3, .ref h4), (0, .ref h0), (1, .int x0)]) hx hb dX7_manyNow_158 hl (by decide) rfl (fun ls hl => ?_)
                  refine lv_iload_n hx hb dX7_manyNow_160 rfl (lv_at hl 2 rfl) ?_
                  refine lv_iload hx hb dX7_manyNow_161 (lv_at hl 0 rfl) ?_
                  refine lv_if_eq (tgt := 170) hx hb dX7_manyNow_163 (by decide) (fun _ => ?_) (fun c9 => absurd (by decide) c9)
                  refine lv_iconst (v := 0) hx hb dX7_manyNow_170 (by decide) ?_
                  refine lv_iadd hx hb dX7_manyNow_171 ?_
                  refine rc_topi 0 (by decide) ?_
                  refine lv_istore_n (lv' := [(2, .int 0), (6, .int 0), (5, .int 31), (4, .int 40), (3, .ref h4), (0, .ref h0), (1, .int x0)]) hx hb dX7_manyNow_172 rfl hl (by decide) rfl (fun ls hl => ?_)
                  refine lv_iinc (v := 32) (lv' := [(5, .int 32), (2, .int 0), (6, .int 0), (4, .int 40), (3, .ref h4), (0, .ref h0), (1, .int x0)]) hx hb dX7_manyNow_173 hl (k := 2) rfl (by decide) (by decide) rfl (fun ls hl => ?_)
                  refine lv_goto (tgt := 147) hx hb dX7_manyNow_176 (by decide) ?_
                  refine lv_iload hx hb dX7_manyNow_147 (lv_at hl 0 rfl) ?_
                  refine lv_iload hx hb dX7_manyNow_149 (lv_at hl 3 rfl) ?_
                  refine lv_icmp_ge (tgt := 179) hx hb dX7_manyNow_151 (by decide) (fun c9 => absurd c9 (by decide)) (fun _ => ?_)
                  refine lv_aload_n hx hb dX7_manyNow_154 rfl (lv_at hl 4 rfl) ?_
                  refine lv_iload hx hb dX7_manyNow_155 (lv_at hl 0 rfl) ?_
                  refine rc_zald hx hb hAm hw 3 rfl (vp_in_iff.mpr (by decide)) dX7_manyNow_157 ?_
                  refine rc_topi 0 rfl ?_
                  refine lv_istore (lv' := [(6, .int 0), (5, .int 32), (2, .int 0), (4, .int 40), (3, .ref h4), (0, .ref h0), (1, .int x0)]) hx hb dX7_manyNow_158 hl (by decide) rfl (fun ls hl => ?_)
                  refine lv_iload_n hx hb dX7_manyNow_160 rfl (lv_at hl 2 rfl) ?_
                  refine lv_iload hx hb dX7_manyNow_161 (lv_at hl 0 rfl) ?_
                  refine lv_if_eq (tgt := 170) hx hb dX7_manyNow_163 (by decide) (fun _ => ?_) (fun c9 => absurd (by decide) c9)
                  refine lv_iconst (v := 0) hx hb dX7_manyNow_170 (by decide) ?_
                  refine lv_iadd hx hb dX7_manyNow_171 ?_
                  refine rc_topi 0 (by decide) ?_
                  refine lv_istore_n (lv' := [(2, .int 0), (6, .int 0), (5, .int 32), (4, .int 40), (3, .ref h4), (0, .ref h0), (1, .int x0)]) hx hb dX7_manyNow_172 rfl hl (by decide) rfl (fun ls hl => ?_)
                  refine lv_iinc (v := 33) (lv' := [(5, .int 33), (2, .int 0), (6, .int 0), (4, .int 40), (3, .ref h4), (0, .ref h0), (1, .int x0)]) hx hb dX7_manyNow_173 hl (k := 2) rfl (by decide) (by decide) rfl (fun ls hl => ?_)
                  refine lv_goto (tgt := 147) hx hb dX7_manyNow_176 (by decide) ?_
                  refine lv_iload hx hb dX7_manyNow_147 (lv_at hl 0 rfl) ?_
                  refine lv_iload hx hb dX7_manyNow_149 (lv_at hl 3 rfl) ?_
                  refine lv_icmp_ge (tgt := 179) hx hb dX7_manyNow_151 (by decide) (fun c9 => absurd c9 (by decide)) (fun _ => ?_)
                  refine lv_aload_n hx hb dX7_manyNow_154 rfl (lv_at hl 4 rfl) ?_
                  refine lv_iload hx hb dX7_manyNow_155 (lv_at hl 0 rfl) ?_
                  refine rc_zald hx hb hAm hw 3 rfl (vp_in_iff.mpr (by decide)) dX7_manyNow_157 ?_
                  refine rc_topi 0 rfl ?_
                  refine lv_istore (lv' := [(6, .int 0), (5, .int 33), (2, .int 0), (4, .int 40), (3, .ref h4), (0, .ref h0), (1, .int x0)]) hx hb dX7_manyNow_158 hl (by decide) rfl (fun ls hl => ?_)
                  refine lv_iload_n hx hb dX7_manyNow_160 rfl (lv_at hl 2 rfl) ?_
                  refine lv_iload hx hb dX7_manyNow_161 (lv_at hl 0 rfl) ?_
                  refine lv_if_eq (tgt := 170) hx hb dX7_manyNow_163 (by decide) (fun _ => ?_) (fun c9 => absurd (by decide) c9)
                  refine lv_iconst (v := 0) hx hb dX7_manyNow_170 (by decide) ?_
                  refine lv_iadd hx hb dX7_manyNow_171 ?_
                  refine rc_topi 0 (by decide) ?_
                  refine lv_istore_n (lv' := [(2, .int 0), (6, .int 0), (5, .int 33), (4, .int 40), (3, .ref h4), (0, .ref h0), (1, .int x0)]) hx hb dX7_manyNow_172 rfl hl (by decide) rfl (fun ls hl => ?_)
                  refine lv_iinc (v := 34) (lv' := [(5, .int 34), (2, .int 0), (6, .int 0), (4, .int 40), (3, .ref h4), (0, .ref h0), (1, .int x0)]) hx hb dX7_manyNow_173 hl (k := 2) rfl (by decide) (by decide) rfl (fun ls hl => ?_)
                  refine lv_goto (tgt := 147) hx hb dX7_manyNow_176 (by decide) ?_
                  refine lv_iload hx hb dX7_manyNow_147 (lv_at hl 0 rfl) ?_
                  refine lv_iload hx hb dX7_manyNow_149 (lv_at hl 3 rfl) ?_
                  refine lv_icmp_ge (tgt := 179) hx hb dX7_manyNow_151 (by decide) (fun c9 => absurd c9 (by decide)) (fun _ => ?_)
                  refine lv_aload_n hx hb dX7_manyNow_154 rfl (lv_at hl 4 rfl) ?_
                  refine lv_iload hx hb dX7_manyNow_155 (lv_at hl 0 rfl) ?_
                  refine rc_zald hx hb hAm hw 3 rfl (vp_in_iff.mpr (by decide)) dX7_manyNow_157 ?_
                  refine rc_topi 0 rfl ?_
                  refine lv_istore (lv' := [(6, .int 0), (5, .int 34), (2, .int 0), (4, .int 40), (3, .ref h4), (0, .ref h0), (1, .int x0)]) hx hb dX7_manyNow_158 hl (by decide) rfl (fun ls hl => ?_)
                  refine lv_iload_n hx hb dX7_manyNow_160 rfl (lv_at hl 2 rfl) ?_
                  refine lv_iload hx hb dX7_manyNow_161 (lv_at hl 0 rfl) ?_
                  refine lv_if_eq (tgt := 170) hx hb dX7_manyNow_163 (by decide) (fun _ => ?_) (fun c9 => absurd (by decide) c9)
                  refine lv_iconst (v := 0) hx hb dX7_manyNow_170 (by decide) ?_
                  refine lv_iadd hx hb dX7_manyNow_171 ?_
                  refine rc_topi 0 (by decide) ?_
                  refine lv_istore_n (lv' := [(2, .int 0), (6, .int 0), (5, .int 34), (4, .int 40), (3, .ref h4), (0, .ref h0), (1, .int x0)]) hx hb dX7_manyNow_172 rfl hl (by decide) rfl (fun ls hl => ?_)
                  refine lv_iinc (v := 35) (lv' := [(5, .int 35), (2, .int 0), (6, .int 0), (4, .int 40), (3, .ref h4), (0, .ref h0), (1, .int x0)]) hx hb dX7_manyNow_173 hl (k := 2) rfl (by decide) (by decide) rfl (fun ls hl => ?_)
                  refine lv_goto (tgt := 147) hx hb dX7_manyNow_176 (by decide) ?_
                  refine lv_iload hx hb dX7_manyNow_147 (lv_at hl 0 rfl) ?_
                  refine lv_iload hx hb dX7_manyNow_149 (lv_at hl 3 rfl) ?_
                  refine lv_icmp_ge (tgt := 179) hx hb dX7_manyNow_151 (by decide) (fun c9 => absurd c9 (by decide)) (fun _ => ?_)
                  refine lv_aload_n hx hb dX7_manyNow_154 rfl (lv_at hl 4 rfl) ?_
                  refine lv_iload hx hb dX7_manyNow_155 (lv_at hl 0 rfl) ?_
                  refine rc_zald hx hb hAm hw 3 rfl (vp_in_iff.mpr (by decide)) dX7_manyNow_157 ?_
                  refine rc_topi 0 rfl ?_
                  refine lv_istore (lv' := [(6, .int 0), (5, .int 35), (2, .int 0), (4, .int 40), (3, .ref h4), (0, .ref h0), (1, .int x0)]) hx hb dX7_manyNow_158 hl (by decide) rfl (fun ls hl => ?_)
                  refine lv_iload_n hx hb dX7_manyNow_160 rfl (lv_at hl 2 rfl) ?_
                  refine lv_iload hx hb dX7_manyNow_161 (lv_at hl 0 rfl) ?_
                  refine lv_if_eq (tgt := 170) hx hb dX7_manyNow_163 (by decide) (fun _ => ?_) (fun c9 => absurd (by decide) c9)
                  refine lv_iconst (v := 0) hx hb dX7_manyNow_170 (by decide) ?_
                  refine lv_iadd hx hb dX7_manyNow_171 ?_
                  refine rc_topi 0 (by decide) ?_
                  refine lv_istore_n (lv' := [(2, .int 0), (6, .int 0), (5, .int 35), (4, .int 40), (3, .ref h4), (0, .ref h0), (1, .int x0)]) hx hb dX7_manyNow_172 rfl hl (by decide) rfl (fun ls hl => ?_)
                  refine lv_iinc (v := 36) (lv' := [(5, .int 36), (2, .int 0), (6, .int 0), (4, .int 40), (3, .ref h4), (0, .ref h0), (1, .int x0)]) hx hb dX7_manyNow_173 hl (k := 2) rfl (by decide) (by decide) rfl (fun ls hl => ?_)
                  refine lv_goto (tgt := 147) hx hb dX7_manyNow_176 (by decide) ?_
                  refine lv_iload hx hb dX7_manyNow_147 (lv_at hl 0 rfl) ?_
                  refine lv_iload hx hb dX7_manyNow_149 (lv_at hl 3 rfl) ?_
                  refine lv_icmp_ge (tgt := 179) hx hb dX7_manyNow_151 (by decide) (fun c9 => absurd c9 (by decide)) (fun _ => ?_)
                  refine lv_aload_n hx hb dX7_manyNow_154 rfl (lv_at hl 4 rfl) ?_
                  refine lv_iload hx hb dX7_manyNow_155 (lv_at hl 0 rfl) ?_
                  refine rc_zald hx hb hAm hw 3 rfl (vp_in_iff.mpr (by decide)) dX7_manyNow_157 ?_
                  refine rc_topi 0 rfl ?_
                  refine lv_istore (lv' := [(6, .int 0), (5, .int 36), (2, .int 0), (4, .int 40), (3, .ref h4), (0, .ref h0), (1, .int x0)]) hx hb dX7_manyNow_158 hl (by decide) rfl (fun ls hl => ?_)
                  refine lv_iload_n hx hb dX7_manyNow_160 rfl (lv_at hl 2 rfl) ?_
                  refine lv_iload hx hb dX7_manyNow_161 (lv_at hl 0 rfl) ?_
                  refine lv_if_eq (tgt := 170) hx hb dX7_manyNow_163 (by decide) (fun _ => ?_) (fun c9 => absurd (by decide) c9)
                  refine lv_iconst (v := 0) hx hb dX7_manyNow_170 (by decide) ?_
                  refine lv_iadd hx hb dX7_manyNow_171 ?_
                  refine rc_topi 0 (by decide) ?_
                  refine lv_istore_n (lv' := [(2, .int 0), (6, .int 0), (5, .int 36), (4, .int 40), (3, .ref h4), (0, .ref h0), (1, .int x0)]) hx hb dX7_manyNow_172 rfl hl (by decide) rfl (fun ls hl => ?_)
                  refine lv_iinc (v := 37) (lv' := [(5, .int 37), (2, .int 0), (6, .int 0), (4, .int 40), (3, .ref h4), (0, .ref h0), (1, .int x0)]) hx hb dX7_manyNow_173 hl (k := 2) rfl (by decide) (by decide) rfl (fun ls hl => ?_)
                  refine lv_goto (tgt := 147) hx hb dX7_manyNow_176 (by decide) ?_
                  refine lv_iload hx hb dX7_manyNow_147 (lv_at hl 0 rfl) ?_
                  refine lv_iload hx hb dX7_manyNow_149 (lv_at hl 3 rfl) ?_
                  refine lv_icmp_ge (tgt := 179) hx hb dX7_manyNow_151 (by decide) (fun c9 => absurd c9 (by decide)) (fun _ => ?_)
                  refine lv_aload_n hx hb dX7_manyNow_154 rfl (lv_at hl 4 rfl) ?_
                  refine lv_iload hx hb dX7_manyNow_155 (lv_at hl 0 rfl) ?_
                  refine rc_zald hx hb hAm hw 3 rfl (vp_in_iff.mpr (by decide)) dX7_manyNow_157 ?_
                  refine rc_topi 0 rfl ?_
                  refine lv_istore (lv' := [(6, .int 0), (5, .int 37), (2, .int 0), (4, .int 40), (3, .ref h4), (0, .ref h0), (1, .int x0)]) hx hb dX7_manyNow_158 hl (by decide) rfl (fun ls hl => ?_)
                  refine lv_iload_n hx hb dX7_manyNow_160 rfl (lv_at hl 2 rfl) ?_
                  refine lv_iload hx hb dX7_manyNow_161 (lv_at hl 0 rfl) ?_
                  refine lv_if_eq (tgt := 170) hx hb dX7_manyNow_163 (by decide) (fun _ => ?_) (fun c9 => absurd (by decide) c9)
                  refine lv_iconst (v := 0) hx hb dX7_manyNow_170 (by decide) ?_
                  refine lv_iadd hx hb dX7_manyNow_171 ?_
                  refine rc_topi 0 (by decide) ?_
                  refine lv_istore_n (lv' := [(2, .int 0), (6, .int 0), (5, .int 37), (4, .int 40), (3, .ref h4), (0, .ref h0), (1, .int x0)]) hx hb dX7_manyNow_172 rfl hl (by decide) rfl (fun ls hl => ?_)
                  refine lv_iinc (v := 38) (lv' := [(5, .int 38), (2, .int 0), (6, .int 0), (4, .int 40), (3, .ref h4), (0, .ref h0), (1, .int x0)]) hx hb dX7_manyNow_173 hl (k := 2) rfl (by decide) (by decide) rfl (fun ls hl => ?_)
                  refine lv_goto (tgt := 147) hx hb dX7_manyNow_176 (by decide) ?_
                  refine lv_iload hx hb dX7_manyNow_147 (lv_at hl 0 rfl) ?_
                  refine lv_iload hx hb dX7_manyNow_149 (lv_at hl 3 rfl) ?_
                  refine lv_icmp_ge (tgt := 179) hx hb dX7_manyNow_151 (by decide) (fun c9 => absurd c9 (by decide)) (fun _ => ?_)
                  refine lv_aload_n hx hb dX7_manyNow_154 rfl (lv_at hl 4 rfl) ?_
                  refine lv_iload hx hb dX7_manyNow_155 (lv_at hl 0 rfl) ?_
                  refine rc_zald hx hb hAm hw 3 rfl (vp_in_iff.mpr (by decide)) dX7_manyNow_157 ?_
                  refine rc_topi 0 rfl ?_
                  refine lv_istore (lv' := [(6, .int 0), (5, .int 38), (2, .int 0), (4, .int 40), (3, .ref h4), (0, .ref h0), (1, .int x0)]) hx hb dX7_manyNow_158 hl (by decide) rfl (fun ls hl => ?_)
                  refine lv_iload_n hx hb dX7_manyNow_160 rfl (lv_at hl 2 rfl) ?_
                  refine lv_iload hx hb dX7_manyNow_161 (lv_at hl 0 rfl) ?_
                  refine lv_if_eq (tgt := 170) hx hb dX7_manyNow_163 (by decide) (fun _ => ?_) (fun c9 => absurd (by decide) c9)
                  refine lv_iconst (v := 0) hx hb dX7_manyNow_170 (by decide) ?_
                  refine lv_iadd hx hb dX7_manyNow_171 ?_
                  refine rc_topi 0 (by decide) ?_
                  refine lv_istore_n (lv' := [(2, .int 0), (6, .int 0), (5, .int 38), (4, .int 40), (3, .ref h4), (0, .ref h0), (1, .int x0)]) hx hb dX7_manyNow_172 rfl hl (by decide) rfl (fun ls hl => ?_)
                  refine lv_iinc (v := 39) (lv' := [(5, .int 39), (2, .int 0), (6, .int 0), (4, .int 40), (3, .ref h4), (0, .ref h0), (1, .int x0)]) hx hb dX7_manyNow_173 hl (k := 2) rfl (by decide) (by decide) rfl (fun ls hl => ?_)
                  refine lv_goto (tgt := 147) hx hb dX7_manyNow_176 (by decide) ?_
                  refine lv_iload hx hb dX7_manyNow_147 (lv_at hl 0 rfl) ?_
                  refine lv_iload hx hb dX7_manyNow_149 (lv_at hl 3 rfl) ?_
                  refine lv_icmp_ge (tgt := 179) hx hb dX7_manyNow_151 (by decide) (fun c9 => absurd c9 (by decide)) (fun _ => ?_)
                  refine lv_aload_n hx hb dX7_manyNow_154 rfl (lv_at hl 4 rfl) ?_
                  refine lv_iload hx hb dX7_manyNow_155 (lv_at hl 0 rfl) ?_
                  refine rc_zald hx hb hAm hw 3 rfl (vp_in_iff.mpr (by decide)) dX7_manyNow_157 ?_
                  refine rc_topi 0 rfl ?_
                  refine lv_istore (lv' := [(6, .int 0), (5, .int 39), (2, .int 0), (4, .int 40), (3, .ref h4), (0, .ref h0), (1, .int x0)]) hx hb dX7_manyNow_158 hl (by decide) rfl (fun ls hl => ?_)
                  refine lv_iload_n hx hb dX7_manyNow_160 rfl (lv_at hl 2 rfl) ?_
                  refine lv_iload hx hb dX7_manyNow_161 (lv_at hl 0 rfl) ?_
                  refine lv_if_eq (tgt := 170) hx hb dX7_manyNow_163 (by decide) (fun _ => ?_) (fun c9 => absurd (by decide) c9)
                  refine lv_iconst (v := 0) hx hb dX7_manyNow_170 (by decide) ?_
                  refine lv_iadd hx hb dX7_manyNow_171 ?_
                  refine rc_topi 0 (by decide) ?_
                  refine lv_istore_n (lv' := [(2, .int 0), (6, .int 0), (5, .int 39), (4, .int 40), (3, .ref h4), (0, .ref h0), (1, .int x0)]) hx hb dX7_manyNow_172 rfl hl (by decide) rfl (fun ls hl => ?_)
                  refine lv_iinc (v := 40) (lv' := [(5, .int 40), (2, .int 0), (6, .int 0), (4, .int 40), (3, .ref h4), (0, .ref h0), (1, .int x0)]) hx hb dX7_manyNow_173 hl (k := 2) rfl (by decide) (by decide) rfl (fun ls hl => ?_)
                  refine lv_goto (tgt := 147) hx hb dX7_manyNow_176 (by decide) ?_
                  refine lv_iload hx hb dX7_manyNow_147 (lv_at hl 0 rfl) ?_
                  refine lv_iload hx hb dX7_manyNow_149 (lv_at hl 3 rfl) ?_
                  refine lv_icmp_ge (tgt := 179) hx hb dX7_manyNow_151 (by decide) (fun _ => ?_) (fun c9 => absurd (by decide) c9)
                  refine lv_iload_n hx hb dX7_manyNow_179 rfl (lv_at hl 1 rfl) ?_
                  exact rc_iret (v := 0) hx hb hr hlocks hw [(h0, .inr (12, [.int 0, .ref h1, .ref h2, .ref h3, .ref h4, .ref h5, .int 1, .int 3, .int 50, .int (-1), .int (-1), .int (-1), .int (-1), .int 0, .int 100, .int 1000, .long 0])), (h2, .inr (4, [.int 0, .ref (E.2.2 0), .int 0])), (h3, .inr (4, [.int 0, .ref (E.2.2 0), .int 0])), (h4, .inl (E.2.1 3, 40, .inl (fun _ => 0)))] (Or.inr (Or.inr (Or.inr (Or.inr (Or.inr (Or.inr (Or.inr (Or.inl ⟨c_1, c_4, c_5, c_8, c_13, c_14, c_15, c_16, rfl, rfl⟩)))))))) [0, 1, 2, 3] rfl (by decide) (Nat.le_of_ble_eq_true rfl) (Nat.le_of_ble_eq_true rfl) dX7_manyNow_180
                · refine lv_tableOut (tgt := 181) hx hb dX7_manyNow_3 (by have g0 := lv_neT (a := 0) c_1 rfl; have g1 := lv_neT (a := 1) c_4 rfl; have g2 := lv_neT (a := 2) c_5 rfl; have g3 := lv_neT (a := 3) c_8 rfl; have g4 := lv_neT (a := 4) c_13 rfl; have g5 := lv_neT (a := 5) c_14 rfl; have g6 := lv_neT (a := 6) c_15 rfl; have g7 := lv_neT (a := 7) c_16 rfl; omega) (by decide) ?_
                  refine lv_iconst (v := 0) hx hb dX7_manyNow_181 (by decide) ?_
                  refine lv_istore_n (lv' := [(3, .int 0), (2, .int 0), (0, .ref h0), (1, .int x0)]) hx hb dX7_manyNow_182 rfl hl (by decide) rfl (fun ls hl => ?_)
                  refine lv_iload_n hx hb dX7_manyNow_183 rfl (lv_at hl 0 rfl) ?_
                  refine lv_aload_n hx hb dX7_manyNow_184 rfl (lv_at hl 2 rfl) ?_
                  refine rc_get (v := .ref h2) hx hb hown hAm hw lyX7 0 rfl rfl 2 (by decide) qw_862 (fun _ h9 => h9) rfl dX7_manyNow_185 ?_
                  refine rc_calli (wr := [(h0, .inr (12, [.int 0, .ref h1, .ref h2, .ref h3, .ref h4, .ref h5, .int 1, .int 3, .int 50, .int (-1), .int (-1), .int (-1), .int (-1), .int 0, .int 100, .int 1000, .long 0])), (h3, .inr (4, [.int 0, .ref (E.2.2 0), .int 0])), (h4, .inl (E.2.1 3, 40, .inl (fun _ => 0)))]) (va_runV (As := []) (rest := [.int 0]) (Ts := []) ⟨hx, hb, hml, hown, fun _ h9 => absurd h9 List.not_mem_nil⟩ (cw_Jx4a65c_size_8abf5 l E _ h2) (rc_cwV hAm qw_928 qw_4 qw_289 qw_287 qw_288 rfl rfl hd_Jx4a65c_size_8abf5 ⟨Nat.le_of_ble_eq_true rfl, Nat.le_of_ble_eq_true rfl⟩) (rc_preV hAm hA hw [1] rfl rfl 1 rfl (q := vwCl[4]) rfl) rfl rfl hl.1 rfl (lv_room (Nat.le_of_ble_eq_true rfl)) dX7_manyNow_188 ⟨Nat.le_of_ble_eq_true rfl, Nat.le_of_ble_eq_true rfl⟩) hA hw [1] [0, 2, 3] rfl rfl rfl (by decide) (fun r_17 u_18 H locs hp hw => ?_)
                  obtain ⟨rfl, rfl⟩ := hp
                  have hw : rc_W E A s [(h0, .inr (12, [.int 0, .ref h1, .ref h2, .ref h3, .ref h4, .ref h5, .int 1, .int 3, .int 50, .int (-1), .int (-1), .int (-1), .int (-1), .int 0, .int 100, .int 1000, .long 0])), (h3, .inr (4, [.int 0, .ref (E.2.2 0), .int 0])), (h4, .inl (E.2.1 3, 40, .inl (fun _ => 0))), (h2, .inr (4, [.int 0, .ref (E.2.2 0), .int 0]))] H locs := hw
                  refine lv_icmp_ge (tgt := 216) hx hb dX7_manyNow_191 (by decide) (fun _ => ?_) (fun c9 => absurd (by decide) c9)
                  refine lv_iload_n hx hb dX7_manyNow_216 rfl (lv_at hl 1 rfl) ?_
                  exact rc_iret (v := 0) hx hb hr hlocks hw [(h0, .inr (12, [.int 0, .ref h1, .ref h2, .ref h3, .ref h4, .ref h5, .int 1, .int 3, .int 50, .int (-1), .int (-1), .int (-1), .int (-1), .int 0, .int 100, .int 1000, .long 0])), (h2, .inr (4, [.int 0, .ref (E.2.2 0), .int 0])), (h3, .inr (4, [.int 0, .ref (E.2.2 0), .int 0])), (h4, .inl (E.2.1 3, 40, .inl (fun _ => 0)))] (Or.inr (Or.inr (Or.inr (Or.inr (Or.inr (Or.inr (Or.inr (Or.inr ⟨c_1, c_4, c_5, c_8, c_13, c_14, c_15, c_16, rfl, rfl⟩)))))))) [0, 3, 1, 2] rfl (by decide) (Nat.le_of_ble_eq_true rfl) (Nat.le_of_ble_eq_true rfl) dX7_manyNow_217
