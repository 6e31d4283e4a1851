theorem hd_X6_init : yX6_init.cls ≠ "java/lang/invoke/MethodHandle" ∧ yX6_init.cls ≠ "java/lang/invoke/VarHandle" ∧ (parseMethodDescriptor yX6_init.desc).map (fun d => d.parameters.length) = some 0 := by decide +kernel
theorem hd_X7_init : yX7_init.cls ≠ "java/lang/invoke/MethodHandle" ∧ yX7_init.cls ≠ "java/lang/invoke/VarHandle" ∧ (parseMethodDescriptor yX7_init.desc).map (fun d => d.parameters.length) = some 0 := by decide +kernel
theorem hd_L_machine : yL_machine.cls ≠ "java/lang/invoke/MethodHandle" ∧ yL_machine.cls ≠ "java/lang/invoke/VarHandle" ∧ (parseMethodDescriptor yL_machine.desc).map (fun d => d.parameters.length) = some 4 := by decide +kernel
theorem hd_X7_machine : yX7_machine.cls ≠ "java/lang/invoke/MethodHandle" ∧ yX7_machine.cls ≠ "java/lang/invoke/VarHandle" ∧ (parseMethodDescriptor yX7_machine.desc).map (fun d => d.parameters.length) = some 2 := by decide +kernel
set_option maxHeartbeats 4000000 in
set_option maxRecDepth 100000 in
theorem cw_X7_thrown (l : Launch) (E : rc_E) (sz : Nat) (h0 : Nat) (h1 : Nat) (h2 : Nat) (h3 : Nat) (h4 : Nat) (h5 : Nat) : rc_Mi l yX7_thrown [Cond.code yX7_thrown cX7_thrown 1 (some FieldType.int)] { frames := 0, cells := 0, slots := 0, locals := 0 } E [.ref h0] [(h0, .inr (12, [.int 1, .ref h1, .ref h2, .ref h3, .ref h4, .ref h5, .int 1, .int 3, .int 50, .int (-1), .int (-1), .int (-1), .int (-1), .int 0, .int 100, .int 1000, .long 0]))] sz (S := va_W) (fun (r : Int32) (u : va_W) => (1 = r ∧ u = [(h0, .inr (12, [.int 1, .ref h1, .ref h2, .ref h3, .ref h4, .ref h5, .int 1, .int 3, .int 50, .int (-1), .int (-1), .int (-1), .int (-1), .int 0, .int 100, .int 1000, .long 0]))])) (fun u => u) 0 0 := by
  refine rc_ini (cc := cX7_thrown) (maxL := 1) (ret := (some FieldType.int)) (by decide) rfl (Nat.le_of_ble_eq_true rfl) ?_
  intro p e s m args below meth c ls A hx hb hr hml _ hown hlocks hin hA hAm hw hl
  have hown : s.vm.findClass RX7 = some m.cls := hown
  have hl : lv_has ls 1 [(0, .ref h0)] := hl
  refine lv_aload_n hx hb dX7_thrown_0 rfl (lv_at hl 0 rfl) ?_
  refine rc_get (v := .int 1) hx hb hown hAm hw lyX7 0 rfl rfl 0 (by decide) qw_860 (fun _ h9 => h9) rfl dX7_thrown_1 ?_
  exact rc_iret (v := 1) hx hb hr hlocks hw [(h0, .inr (12, [.int 1, .ref h1, .ref h2, .ref h3, .ref h4, .ref h5, .int 1, .int 3, .int 50, .int (-1), .int (-1), .int (-1), .int (-1), .int 0, .int 100, .int 1000, .long 0]))] (⟨rfl, rfl⟩) [0] rfl (by decide) (Nat.le_of_ble_eq_true rfl) (Nat.le_of_ble_eq_true rfl) dX7_thrown_4
theorem hd_X7_thrown : yX7_thrown.cls ≠ "java/lang/invoke/MethodHandle" ∧ yX7_thrown.cls ≠ "java/lang/invoke/VarHandle" ∧ (parseMethodDescriptor yX7_thrown.desc).map (fun d => d.parameters.length) = some 0 := by decide +kernel
set_option maxHeartbeats 4000000 in
set_option maxRecDepth 100000 in
theorem cw_X7_thrown_2 (l : Launch) (E : rc_E) (sz : Nat) (h0 : Nat) (h1 : Nat) (h2 : Nat) (h3 : Nat) (h4 : Nat) (h5 : Nat) : rc_Mi l yX7_thrown [Cond.code yX7_thrown cX7_thrown 1 (some FieldType.int)] { frames := 0, cells := 0, slots := 0, locals := 0 } E [.ref h0] [(h0, .inr (12, [.int 0, .ref h1, .ref h2, .ref h3, .ref h4, .ref h5, .int 1, .int 3, .int 50, .int (-1), .int (-1), .int (-1), .int (-1), .int 0, .int 100, .int 1000, .long 0]))] sz (S := va_W) (fun (r : Int32) (u : va_W) => (0 = r ∧ u = [(h0, .inr (12, [.int 0, .ref h1, .ref h2, .ref h3, .ref h4, .ref h5, .int 1, .int 3, .int 50, .int (-1), .int (-1), .int (-1), .int (-1), .int 0, .int 100, .int 1000, .long 0]))])) (fun u => u) 0 0 := by
  refine rc_ini (cc := cX7_thrown) (maxL := 1) (ret := (some FieldType.int)) (by decide) rfl (Nat.le_of_ble_eq_true rfl) ?_
  intro p e s m args below meth c ls A hx hb hr hml _ hown hlocks hin hA hAm hw hl
  have hown : s.vm.findClass RX7 = some m.cls := hown
  have hl : lv_has ls 1 [(0, .ref h0)] := hl
  refine lv_aload_n hx hb dX7_thrown_0 rfl (lv_at hl 0 rfl) ?_
  refine rc_get (v := .int 0) hx hb hown hAm hw lyX7 0 rfl rfl 0 (by decide) qw_860 (fun _ h9 => h9) rfl dX7_thrown_1 ?_
  exact rc_iret (v := 0) hx hb hr hlocks hw [(h0, .inr (12, [.int 0, .ref h1, .ref h2, .ref h3, .ref h4, .ref h5, .int 1, .int 3, .int 50, .int (-1), .int (-1), .int (-1), .int (-1), .int 0, .int 100, .int 1000, .long 0]))] (⟨rfl, rfl⟩) [0] rfl (by decide) (Nat.le_of_ble_eq_true rfl) (Nat.le_of_ble_eq_true rfl) dX7_thrown_4
theorem hd_L_measure : yL_measure.cls ≠ "java/lang/invoke/MethodHandle" ∧ yL_measure.cls ≠ "java/lang/invoke/VarHandle" ∧ (parseMethodDescriptor yL_measure.desc).map (fun d => d.parameters.length) = some 4 := by decide +kernel
theorem hd_X7_measure : yX7_measure.cls ≠ "java/lang/invoke/MethodHandle" ∧ yX7_measure.cls ≠ "java/lang/invoke/VarHandle" ∧ (parseMethodDescriptor yX7_measure.desc).map (fun d => d.parameters.length) = some 2 := by decide +kernel
theorem hd_L_ofMachine : yL_ofMachine.cls ≠ "java/lang/invoke/MethodHandle" ∧ yL_ofMachine.cls ≠ "java/lang/invoke/VarHandle" ∧ (parseMethodDescriptor yL_ofMachine.desc).map (fun d => d.parameters.length) = some 4 := by decide +kernel
theorem hd_X7_ofMachine : yX7_ofMachine.cls ≠ "java/lang/invoke/MethodHandle" ∧ yX7_ofMachine.cls ≠ "java/lang/invoke/VarHandle" ∧ (parseMethodDescriptor yX7_ofMachine.desc).map (fun d => d.parameters.length) = some 2 := by decide +kernel
theorem hd_L_changes : yL_changes.cls ≠ "java/lang/invoke/MethodHandle" ∧ yL_changes.cls ≠ "java/lang/invoke/VarHandle" ∧ (parseMethodDescriptor yL_changes.desc).map (fun d => d.parameters.length) = some 3 := by decide +kernel
theorem hd_X7_changes : yX7_changes.cls ≠ "java/lang/invoke/MethodHandle" ∧ yX7_changes.cls ≠ "java/lang/invoke/VarHandle" ∧ (parseMethodDescriptor yX7_changes.desc).map (fun d => d.parameters.length) = some 1 := by decide +kernel
set_option maxHeartbeats 4000000 in
set_option maxRecDepth 100000 in
theorem cw_X7_thrown_3 (l : Launch) (E : rc_E) (sz : Nat) (h0 : Nat) (h1 : Nat) (h2 : Nat) (h3 : Nat) (h4 : Nat) (h5 : Nat) : rc_Mi l yX7_thrown [Cond.code yX7_thrown cX7_thrown 1 (some FieldType.int)] { frames := 0, cells := 0, slots := 0, locals := 0 } E [.ref h0] [(h0, .inr (12, [.int 2, .ref h1, .ref h2, .ref h3, .ref h4, .ref h5, .int 1, .int 3, .int 50, .int (-1), .int (-1), .int (-1), .int (-1), .int 0, .int 100, .int 1000, .long 0]))] sz (S := va_W) (fun (r : Int32) (u : va_W) => (2 = r ∧ u = [(h0, .inr (12, [.int 2, .ref h1, .ref h2, .ref h3, .ref h4, .ref h5, .int 1, .int 3, .int 50, .int (-1), .int (-1), .int (-1), .int (-1), .int 0, .int 100, .int 1000, .long 0]))])) (fun u => u) 0 0 := by
  refine rc_ini (cc := cX7_thrown) (maxL := 1) (ret := (some FieldType.int)) (by decide) rfl (Nat.le_of_ble_eq_true rfl) ?_
  intro p e s m args below meth c ls A hx hb hr hml _ hown hlocks hin hA hAm hw hl
  have hown : s.vm.findClass RX7 = some m.cls := hown
  have hl : lv_has ls 1 [(0, .ref h0)] := hl
  refine lv_aload_n hx hb dX7_thrown_0 rfl (lv_at hl 0 rfl) ?_
  refine rc_get (v := .int 2) hx hb hown hAm hw lyX7 0 rfl rfl 0 (by decide) qw_860 (fun _ h9 => h9) rfl dX7_thrown_1 ?_
  exact rc_iret (v := 2) hx hb hr hlocks hw [(h0, .inr (12, [.int 2, .ref h1, .ref h2, .ref h3, .ref h4, .ref h5, .int 1, .int 3, .int 50, .int (-1), .int (-1), .int (-1), .int (-1), .int 0, .int 100, .int 1000, .long 0]))] (⟨rfl, rfl⟩) [0] rfl (by decide) (Nat.le_of_ble_eq_true rfl) (Nat.le_of_ble_eq_true rfl) dX7_thrown_4
set_option maxHeartbeats 4000000 in
set_option maxRecDepth 100000 in
theorem cw_X7_is_15 (l : Launch) (E : rc_E) (sz : Nat) : rc_Mi l yX7_is [Cond.code yX7_is cX7_is 3 (some FieldType.boolean)] { frames := 0, cells := 0, slots := 0, locals := 0 } E [.int 1, .int 1, .int 39] [] sz (S := va_W) (fun (r : Int32) (u : va_W) => (1 = r ∧ u = [])) (fun u => u) 0 0 := by
  refine rc_ini (cc := cX7_is) (maxL := 3) (ret := (some FieldType.boolean)) (by decide) rfl (Nat.le_of_ble_eq_true rfl) ?_
  intro p e s m args below meth c ls A hx hb hr hml _ hown hlocks hin hA hAm hw hl
  have hown : s.vm.findClass RX7 = some m.cls := hown
  have hl : lv_has ls 3 [(0, .int 1), (1, .int 1), (2, .int 39)] := hl
  refine lv_iload_n hx hb dX7_is_0 rfl (lv_at hl 0 rfl) ?_
  refine lv_iload_n hx hb dX7_is_1 rfl (lv_at hl 1 rfl) ?_
  refine lv_icmp_lt (tgt := 14) hx hb dX7_is_2 (by decide) (fun c9 => absurd c9 (by decide)) (fun _ => ?_)
  refine lv_iload_n hx hb dX7_is_5 rfl (lv_at hl 0 rfl) ?_
  refine lv_iload_n hx hb dX7_is_6 rfl (lv_at hl 2 rfl) ?_
  refine lv_icmp_gt (tgt := 14) hx hb dX7_is_7 (by decide) (fun c9 => absurd c9 (by decide)) (fun _ => ?_)
  refine lv_iconst (v := 1) hx hb dX7_is_10 (by decide) ?_
  refine lv_goto (tgt := 15) hx hb dX7_is_11 (by decide) ?_
  exact rc_zret (v := 1) hx hb hr hlocks hw rfl [] (⟨rfl, rfl⟩) [] rfl (by decide) (Nat.le_of_ble_eq_true rfl) (Nat.le_of_ble_eq_true rfl) dX7_is_15
set_option maxHeartbeats 4000000 in
set_option maxRecDepth 100000 in
theorem cw_X7_changes_2 (l : Launch) (E : rc_E) (sz : Nat) (h0 : Nat) (h1 : Nat) (h2 : Nat) (h3 : Nat) (h4 : Nat) (h5 : Nat) : rc_Mi l yX7_changes [Cond.code yX7_changes cX7_changes 2 (some FieldType.int)] { frames := 1, cells := 0, slots := 0, locals := 22 } E [.ref h0, .int 1] [(h0, .inr (12, [.int 0, .ref h1, .ref h2, .ref h3, .ref h4, .ref h5, .int 1, .int 3, .int 50, .int (-1), .int (-1), .int (-1), .int (-1), .int 0, .int 100, .int 1000, .long 0]))] sz (S := va_W) (fun (r : Int32) (u : va_W) => (2 = r ∧ u = [(h0, .inr (12, [.int 0, .ref h1, .ref h2, .ref h3, .ref h4, .ref h5, .int 2, .int 3, .int 50, .int (-1), .int (-1), .int (-1), .int (-1), .int 0, .int 100, .int 1000, .long 0]))])) (fun u => u) 0 0 := by
  refine rc_ini (cc := cX7_changes) (maxL := 2) (ret := (some FieldType.int)) (by decide) rfl (Nat.le_of_ble_eq_true rfl) ?_
  intro p e s m args below meth c ls A hx hb hr hml _ hown hlocks hin hA hAm hw hl
  have hown : s.vm.findClass RX7 = some m.cls := hown
  have hl : lv_has ls 2 [(0, .ref h0), (1, .int 1)] := hl
  refine lv_aload_n hx hb dX7_changes_0 rfl (lv_at hl 0 rfl) ?_
  refine lv_iconst (v := 0) hx hb dX7_changes_1 (by decide) ?_
  refine rc_put hx hb hown hAm hw lyX7 tyX7 tyX7_ok nmX7 0 rfl rfl 0 (by decide) qw_860 (fun _ h9 => h9) rfl rfl (by decide +kernel) (Nat.le_of_ble_eq_true rfl) [(h0, .inr (12, [.int 0, .ref h1, .ref h2, .ref h3, .ref h4, .ref h5, .int 1, .int 3, .int 50, .int (-1), .int (-1), .int (-1), .int (-1), .int 0, .int 100, .int 1000, .long 0]))] rfl dX7_changes_2 (fun H locs hw => ?_)
  refine lv_iload_n hx hb dX7_changes_5 rfl (lv_at hl 1 rfl) ?_
  refine lv_iconst (v := 1) hx hb dX7_changes_6 (by decide) ?_
  refine lv_bipush (v := 39) hx hb dX7_changes_7 (by decide) ?_
  refine rc_calli (wr := [(h0, .inr (12, [.int 0, .ref h1, .ref h2, .ref h3, .ref h4, .ref h5, .int 1, .int 3, .int 50, .int (-1), .int (-1), .int (-1), .int (-1), .int 0, .int 100, .int 1000, .long 0]))]) (va_runS (As := [.int 1, .int 1, .int 39]) (rest := []) (Ts := []) ⟨hx, hb, hml, hown, fun _ h9 => absurd h9 List.not_mem_nil⟩ (cw_X7_is_15 l E _) (rc_cwS hAm qw_921 qw_13 qw_923 qw_922 rfl rfl hd_X7_is ⟨Nat.le_of_ble_eq_true rfl, Nat.le_of_ble_eq_true rfl⟩) (rc_preS hAm hA hw [] rfl rfl) rfl rfl hl.1 rfl (lv_room (Nat.le_of_ble_eq_true rfl)) dX7_changes_9 ⟨Nat.le_of_ble_eq_true rfl, Nat.le_of_ble_eq_true rfl⟩) hA hw [] [0] rfl rfl rfl (by decide) (fun r_1 u_2 H locs hp hw => ?_)
  obtain ⟨rfl, rfl⟩ := hp
  have hw : rc_W E A s [(h0, .inr (12, [.int 0, .ref h1, .ref h2, .ref h3, .ref h4, .ref h5, .int 1, .int 3, .int 50, .int (-1), .int (-1), .int (-1), .int (-1), .int 0, .int 100, .int 1000, .long 0]))] H locs := hw
  refine lv_if_ne (tgt := 21) hx hb dX7_changes_12 (by decide) (fun _ => ?_) (fun c9 => absurd c9 (by decide))
  refine lv_aload_n hx hb dX7_changes_21 rfl (lv_at hl 0 rfl) ?_
  refine rc_get (v := .int 1) hx hb hown hAm hw lyX7 0 rfl rfl 6 (by decide) qw_866 (fun _ h9 => h9) rfl dX7_changes_22 ?_
  refine lv_iload_n hx hb dX7_changes_25 rfl (lv_at hl 1 rfl) ?_
  refine lv_iadd hx hb dX7_changes_26 ?_
  refine rc_topi 2 (by decide) ?_
  refine lv_bipush (v := 40) hx hb dX7_changes_27 (by decide) ?_
  refine lv_icmp_le (tgt := 38) hx hb dX7_changes_29 (by decide) (fun _ => ?_) (fun c9 => absurd (by decide) c9)
  refine lv_aload_n hx hb dX7_changes_38 rfl (lv_at hl 0 rfl) ?_
  refine lv_dup hx hb dX7_changes_39 rfl ?_
  refine rc_get (v := .int 1) hx hb hown hAm hw lyX7 0 rfl rfl 6 (by decide) qw_866 (fun _ h9 => h9) rfl dX7_changes_40 ?_
  refine lv_iload_n hx hb dX7_changes_43 rfl (lv_at hl 1 rfl) ?_
  refine lv_iadd hx hb dX7_changes_44 ?_
  refine rc_topi 2 (by decide) ?_
  refine rc_put hx hb hown hAm hw lyX7 tyX7 tyX7_ok nmX7 0 rfl rfl 6 (by decide) qw_866 (fun _ h9 => h9) rfl rfl (by decide +kernel) (Nat.le_of_ble_eq_true rfl) [(h0, .inr (12, [.int 0, .ref h1, .ref h2, .ref h3, .ref h4, .ref h5, .int 2, .int 3, .int 50, .int (-1), .int (-1), .int (-1), .int (-1), .int 0, .int 100, .int 1000, .long 0]))] rfl dX7_changes_45 (fun H locs hw => ?_)
  refine lv_aload_n hx hb dX7_changes_48 rfl (lv_at hl 0 rfl) ?_
  refine rc_get (v := .int 2) hx hb hown hAm hw lyX7 0 rfl rfl 6 (by decide) qw_866 (fun _ h9 => h9) rfl dX7_changes_49 ?_
  exact rc_iret (v := 2) hx hb hr hlocks hw [(h0, .inr (12, [.int 0, .ref h1, .ref h2, .ref h3, .ref h4, .ref h5, .int 2, .int 3, .int 50, .int (-1), .int (-1), .int (-1), .int (-1), .int 0, .int 100, .int 1000, .long 0]))] (⟨rfl, rfl⟩) [0] rfl (by decide) (Nat.le_of_ble_eq_true rfl) (Nat.le_of_ble_eq_true rfl) dX7_changes_52
set_option maxHeartbeats 4000000 in
set_option maxRecDepth 100000 in
theorem cw_X7_thrown_4 (l : Launch) (E : rc_E) (sz : Nat) (h0 : Nat) (h1 : Nat) (h2 : Nat) (h3 : Nat) (h4 : Nat) (h5 : Nat) : rc_Mi l yX7_thrown [Cond.code yX7_thrown cX7_thrown 1 (some FieldType.int)] { frames := 0, cells := 0, slots := 0, locals := 0 } E [.ref h0] [(h0, .inr (12, [.int 0, .ref h1, .ref h2, .ref h3, .ref h4, .ref h5, .int 2, .int 3, .int 50, .int (-1), .int (-1), .int (-1), .int (-1), .int 0, .int 100, .int 1000, .long 0]))] sz (S := va_W) (fun (r : Int32) (u : va_W) => (0 = r ∧ u = [(h0, .inr (12, [.int 0, .ref h1, .ref h2, .ref h3, .ref h4, .ref h5, .int 2, .int 3, .int 50, .int (-1), .int (-1), .int (-1), .int (-1), .int 0, .int 100, .int 1000, .long 0]))])) (fun u => u) 0 0 := by
  refine rc_ini (cc := cX7_thrown) (maxL := 1) (ret := (some FieldType.int)) (by decide) rfl (Nat.le_of_ble_eq_true rfl) ?_
  intro p e s m args below meth c ls A hx hb hr hml _ hown hlocks hin hA hAm hw hl
  have hown : s.vm.findClass RX7 = some m.cls := hown
  have hl : lv_has ls 1 [(0, .ref h0)] := hl
  refine lv_aload_n hx hb dX7_thrown_0 rfl (lv_at hl 0 rfl) ?_
  refine rc_get (v := .int 0) hx hb hown hAm hw lyX7 0 rfl rfl 0 (by decide) qw_860 (fun _ h9 => h9) rfl dX7_thrown_1 ?_
  exact rc_iret (v := 0) hx hb hr hlocks hw [(h0, .inr (12, [.int 0, .ref h1, .ref h2, .ref h3, .ref h4, .ref h5, .int 2, .int 3, .int 50, .int (-1), .int (-1), .int (-1), .int (-1), .int 0, .int 100, .int 1000, .long 0]))] (⟨rfl, rfl⟩) [0] rfl (by decide) (Nat.le_of_ble_eq_true rfl) (Nat.le_of_ble_eq_true rfl) dX7_thrown_4
set_option maxHeartbeats 4000000 in
set_option maxRecDepth 100000 in
theorem cw_X7_is_16 (l : Launch) (E : rc_E) (sz : Nat) : rc_Mi l yX7_is [Cond.code yX7_is cX7_is 3 (some FieldType.boolean)] { frames := 0, cells := 0, slots := 0, locals := 0 } E [.int 2, .int 1, .int 39] [] sz (S := va_W) (fun (r : Int32) (u : va_W) => (1 = r ∧ u = [])) (fun u => u) 0 0 := by
  refine rc_ini (cc := cX7_is) (maxL := 3) (ret := (some FieldType.boolean)) (by decide) rfl (Nat.le_of_ble_eq_true rfl) ?_
  intro p e s m args below meth c ls A hx hb hr hml _ hown hlocks hin hA hAm hw hl
  have hown : s.vm.findClass RX7 = some m.cls := hown
  have hl : lv_has ls 3 [(0, .int 2), (1, .int 1), (2, .int 39)] := hl
  refine lv_iload_n hx hb dX7_is_0 rfl (lv_at hl 0 rfl) ?_
  refine lv_iload_n hx hb dX7_is_1 rfl (lv_at hl 1 rfl) ?_
  refine lv_icmp_lt (tgt := 14) hx hb dX7_is_2 (by decide) (fun c9 => absurd c9 (by decide)) (fun _ => ?_)
  refine lv_iload_n hx hb dX7_is_5 rfl (lv_at hl 0 rfl) ?_
  refine lv_iload_n hx hb dX7_is_6 rfl (lv_at hl 2 rfl) ?_
  refine lv_icmp_gt (tgt := 14) hx hb dX7_is_7 (by decide) (fun c9 => absurd c9 (by decide)) (fun _ => ?_)
  refine lv_iconst (v := 1) hx hb dX7_is_10 (by decide) ?_
  refine lv_goto (tgt := 15) hx hb dX7_is_11 (by decide) ?_
  exact rc_zret (v := 1) hx hb hr hlocks hw rfl [] (⟨rfl, rfl⟩) [] rfl (by decide) (Nat.le_of_ble_eq_true rfl) (Nat.le_of_ble_eq_true rfl) dX7_is_15
set_option maxHeartbeats 4000000 in
set_option maxRecDepth 100000 in
theorem cw_X7_changes_3 (l : Launch) (E : rc_E) (sz : Nat) (h0 : Nat) (h1 : Nat) (h2 : Nat) (h3 : Nat) (h4 : Nat) (h5 : Nat) : rc_Mi l yX7_changes [Cond.code yX7_changes cX7_changes 2 (some FieldType.int)] { frames := 1, cells := 0, slots := 0, locals := 22 } E [.ref h0, .int 2] [(h0, .inr (12, [.int 0, .ref h1, .ref h2, .ref h3, .ref h4, .ref h5, .int 1, .int 3, .int 50, .int (-1), .int (-1), .int (-1), .int (-1), .int 0, .int 100, .int 1000, .long 0]))] sz (S := va_W) (fun (r : Int32) (u : va_W) => (3 = r ∧ u = [(h0, .inr (12, [.int 0, .ref h1, .ref h2, .ref h3, .ref h4, .ref h5, .int 3, .int 3, .int 50, .int (-1), .int (-1), .int (-1), .int (-1), .int 0, .int 100, .int 1000, .long 0]))])) (fun u => u) 0 0 := by
  refine rc_ini (cc := cX7_changes) (maxL := 2) (ret := (some FieldType.int)) (by decide) rfl (Nat.le_of_ble_eq_true rfl) ?_
  intro p e s m args below meth c ls A hx hb hr hml _ hown hlocks hin hA hAm hw hl
  have hown : s.vm.findClass RX7 = some m.cls := hown
  have hl : lv_has ls 2 [(0, .ref h0), (1, .int 2)] := hl
  refine lv_aload_n hx hb dX7_changes_0 rfl (lv_at hl 0 rfl) ?_
  refine lv_iconst (v := 0) hx hb dX7_changes_1 (by decide) ?_
  refine rc_put hx hb hown hAm hw lyX7 tyX7 tyX7_ok nmX7 0 rfl rfl 0 (by decide) qw_860 (fun _ h9 => h9) rfl rfl (by decide +kernel) (Nat.le_of_ble_eq_true rfl) [(h0, .inr (12, [.int 0, .ref h1, .ref h2, .ref h3, .ref h4, .ref h5, .int 1, .int 3, .int 50, .int (-1), .int (-1), .int (-1), .int (-1), .int 0, .int 100, .int 1000, .long 0]))] rfl dX7_changes_2 (fun H locs hw => ?_)
  refine lv_iload_n hx hb dX7_changes_5 rfl (lv_at hl 1 rfl) ?_
  refine lv_iconst (v := 1) hx hb dX7_changes_6 (by decide) ?_
  refine lv_bipush (v := 39) hx hb dX7_changes_7 (by decide) ?_
  refine rc_calli (wr := [(h0, .inr (12, [.int 0, .ref h1, .ref h2, .ref h3, .ref h4, .ref h5, .int 1, .int 3, .int 50, .int (-1), .int (-1), .int (-1), .int (-1), .int 0, .int 100, .int 1000, .long 0]))]) (va_runS (As := [.int 2, .int 1, .int 39]) (rest := []) (Ts := []) ⟨hx, hb, hml, hown, fun _ h9 => absurd h9 List.not_mem_nil⟩ (cw_X7_is_16 l E _) (rc_cwS hAm qw_921 qw_13 qw_923 qw_922 rfl rfl hd_X7_is ⟨Nat.le_of_ble_eq_true rfl, Nat.le_of_ble_eq_true rfl⟩) (rc_preS hAm hA hw [] rfl rfl) rfl rfl hl.1 rfl (lv_room (Nat.le_of_ble_eq_true rfl)) dX7_changes_9 ⟨Nat.le_of_ble_eq_true rfl, Nat.le_of_ble_eq_true rfl⟩) hA hw [] [0] rfl rfl rfl (by decide) (fun r_1 u_2 H locs hp hw => ?_)
  obtain ⟨rfl, rfl⟩ := hp
  have hw : rc_W E A s [(h0, .inr (12, [.int 0, .ref h1, .ref h2, .ref h3, .ref h4, .ref h5, .int 1, .int 3, .int 50, .int (-1), .int (-1), .int (-1), .int (-1), .int 0, .int 100, .int 1000, .long 0]))] H locs := hw
  refine lv_if_ne (tgt := 21) hx hb dX7_changes_12 (by decide) (fun _ => ?_) (fun c9 => absurd c9 (by decide))
  refine lv_aload_n hx hb dX7_changes_21 rfl (lv_at hl 0 rfl) ?_
  refine rc_get (v := .int 1) hx hb hown hAm hw lyX7 0 rfl rfl 6 (by decide) qw_866 (fun _ h9 => h9) rfl dX7_changes_22 ?_
  refine lv_iload_n hx hb dX7_changes_25 rfl (lv_at hl 1 rfl) ?_
  refine lv_iadd hx hb dX7_changes_26 ?_
  refine rc_topi 3 (by decide) ?_
  refine lv_bipush (v := 40) hx hb dX7_changes_27 (by decide) ?_
  refine lv_icmp_le (tgt := 38) hx hb dX7_changes_29 (by decide) (fun _ => ?_) (fun c9 => absurd (by decide) c9)
  refine lv_aload_n hx hb dX7_changes_38 rfl (lv_at hl 0 rfl) ?_
  refine lv_dup hx hb dX7_changes_39 rfl ?_
  refine rc_get (v := .int 1) hx hb hown hAm hw lyX7 0 rfl rfl 6 (by decide) qw_866 (fun _ h9 => h9) rfl dX7_changes_40 ?_
  refine lv_iload_n hx hb dX7_changes_43 rfl (lv_at hl 1 rfl) ?_
  refine lv_iadd hx hb dX7_changes_44 ?_
  refine rc_topi 3 (by decide) ?_
  refine rc_put hx hb hown hAm hw lyX7 tyX7 tyX7_ok nmX7 0 rfl rfl 6 (by decide) qw_866 (fun _ h9 => h9) rfl rfl (by decide +kernel) (Nat.le_of_ble_eq_true rfl) [(h0, .inr (12, [.int 0, .ref h1, .ref h2, .ref h3, .ref h4, .ref h5, .int 3, .int 3, .int 50, .int (-1), .int (-1), .int (-1), .int (-1), .int 0, .int 100, .int 1000, .long 0]))] rfl dX7_changes_45 (fun H locs hw => ?_)
  refine lv_aload_n hx hb dX7_changes_48 rfl (lv_at hl 0 rfl) ?_
  refine rc_get (v := .int 3) hx hb hown hAm hw lyX7 0 rfl rfl 6 (by decide) qw_866 (fun _ h9 => h9) rfl dX7_changes_49 ?_
  exact rc_iret (v := 3) hx hb hr hlocks hw [(h0, .inr (12, [.int 0, .ref h1, .ref h2, .ref h3, .ref h4, .ref h5, .int 3, .int 3, .int 50, .int (-1), .int (-1), .int (-1), .int (-1), .int 0, .int 100, .int 1000, .long 0]))] (⟨rfl, rfl⟩) [0] rfl (by decide) (Nat.le_of_ble_eq_true rfl) (Nat.le_of_ble_eq_true rfl) dX7_changes_52
set_option maxHeartbeats 4000000 in
set_option maxRecDepth 100000 in
theorem cw_X7_thrown_5 (l : Launch) (E : rc_E) (sz : Nat) (h0 : Nat) (h1 : Nat) (h2 : Nat) (h3 : Nat) (h4 : Nat) (h5 : Nat) : rc_Mi l yX7_thrown [Cond.code yX7_thrown cX7_thrown 1 (some FieldType.int)] { frames := 0, cells := 0, slots := 0, locals := 0 } E [.ref h0] [(h0, .inr (12, [.int 0, .ref h1, .ref h2, .ref h3, .ref h4, .ref h5, .int 3, .int 3, .int 50, .int (-1), .int (-1), .int (-1), .int (-1), .int 0, .int 100, .int 1000, .long 0]))] sz (S := va_W) (fun (r : Int32) (u : va_W) => (0 = r ∧ u = [(h0, .inr (12, [.int 0, .ref h1, .ref h2, .ref h3, .ref h4, .ref h5, .int 3, .int 3, .int 50, .int (-1), .int (-1), .int (-1), .int (-1), .int 0, .int 100, .int 1000, .long 0]))])) (fun u => u) 0 0 := by
  refine rc_ini (cc := cX7_thrown) (maxL := 1) (ret := (some FieldType.int)) (by decide) rfl (Nat.le_of_ble_eq_true rfl) ?_
  intro p e s m args below meth c ls A hx hb hr hml _ hown hlocks hin hA hAm hw hl
  have hown : s.vm.findClass RX7 = some m.cls := hown
  have hl : lv_has ls 1 [(0, .ref h0)] := hl
  refine lv_aload_n hx hb dX7_thrown_0 rfl (lv_at hl 0 rfl) ?_
  refine rc_get (v := .int 0) hx hb hown hAm hw lyX7 0 rfl rfl 0 (by decide) qw_860 (fun _ h9 => h9) rfl dX7_thrown_1 ?_
  exact rc_iret (v := 0) hx hb hr hlocks hw [(h0, .inr (12, [.int 0, .ref h1, .ref h2, .ref h3, .ref h4, .ref h5, .int 3, .int 3, .int 50, .int (-1), .int (-1), .int (-1), .int (-1), .int 0, .int 100, .int 1000, .long 0]))] (⟨rfl, rfl⟩) [0] rfl (by decide) (Nat.le_of_ble_eq_true rfl) (Nat.le_of_ble_eq_true rfl) dX7_thrown_4
set_option maxHeartbeats 4000000 in
set_option maxRecDepth 100000 in
theorem cw_X7_is_17 (l : Launch) (E : rc_E) (sz : Nat) : rc_Mi l yX7_is [Cond.code yX7_is cX7_is 3 (some FieldType.boolean)] { frames := 0, cells := 0, slots := 0, locals := 0 } E [.int 3, .int 1, .int 39] [] sz (S := va_W) (fun (r : Int32) (u : va_W) => (1 = r ∧ u = [])) (fun u => u) 0 0 := by
  refine rc_ini (cc := cX7_is) (maxL := 3) (ret := (some FieldType.boolean)) (by decide) rfl (Nat.le_of_ble_eq_true rfl) ?_
  intro p e s m args below meth c ls A hx hb hr hml _ hown hlocks hin hA hAm hw hl
  have hown : s.vm.findClass RX7 = some m.cls := hown
  have hl : lv_has ls 3 [(0, .int 3), (1, .int 1), (2, .int 39)] := hl
  refine lv_iload_n hx hb dX7_is_0 rfl (lv_at hl 0 rfl) ?_
  refine lv_iload_n hx hb dX7_is_1 rfl (lv_at hl 1 rfl) ?_
  refine lv_icmp_lt (tgt := 14) hx hb dX7_is_2 (by decide) (fun c9 => absurd c9 (by decide)) (fun _ => ?_)
  refine lv_iload_n hx hb dX7_is_5 rfl (lv_at hl 0 rfl) ?_
  refine lv_iload_n hx hb dX7_is_6 rfl (lv_at hl 2 rfl) ?_
  refine lv_icmp_gt (tgt := 14) hx hb dX7_is_7 (by decide) (fun c9 => absurd c9 (by decide)) (fun _ => ?_)
  refine lv_iconst (v := 1) hx hb dX7_is_10 (by decide) ?_
  refine lv_goto (tgt := 15) hx hb dX7_is_11 (by decide) ?_
  exact rc_zret (v := 1) hx hb hr hlocks hw rfl [] (⟨rfl, rfl⟩) [] rfl (by decide) (Nat.le_of_ble_eq_true rfl) (Nat.le_of_ble_eq_true rfl) dX7_is_15
set_option maxHeartbeats 4000000 in
set_option maxRecDepth 100000 in
theorem cw_X7_changes_4 (l : Launch) (E : rc_E) (sz : Nat) (h0 : Nat) (h1 : Nat) (h2 : Nat) (h3 : Nat) (h4 : Nat) (h5 : Nat) : rc_Mi l yX7_changes [Cond.code yX7_changes cX7_changes 2 (some FieldType.int)] { frames := 1, cells := 0, slots := 0, locals := 22 } E [.ref h0, .int 3] [(h0, .inr (12, [.int 0, .ref h1, .ref h2, .ref h3, .ref h4, .ref h5, .int 1, .int 3, .int 50, .int (-1), .int (-1), .int (-1), .int (-1), .int 0, .int 100, .int 1000, .long 0]))] sz (S := va_W) (fun (r : Int32) (u : va_W) => (4 = r ∧ u = [(h0, .inr (12, [.int 0, .ref h1, .ref h2, .ref h3, .ref h4, .ref h5, .int 4, .int 3, .int 50, .int (-1), .int (-1), .int (-1), .int (-1), .int 0, .int 100, .int 1000, .long 0]))])) (fun u => u) 0 0 := by
  refine rc_ini (cc := cX7_changes) (maxL := 2) (ret := (some FieldType.int)) (by decide) rfl (Nat.le_of_ble_eq_true rfl) ?_
  intro p e s m args below meth c ls A hx hb hr hml _ hown hlocks hin hA hAm hw hl
  have hown : s.vm.findClass RX7 = some m.cls := hown
  have hl : lv_has ls 2 [(0, .ref h0), (1, .int 3)] := hl
  refine lv_aload_n hx hb dX7_changes_0 rfl (lv_at hl 0 rfl) ?_
  refine lv_iconst (v := 0) hx hb dX7_changes_1 (by decide) ?_
  refine rc_put hx hb hown hAm hw lyX7 tyX7 tyX7_ok nmX7 0 rfl rfl 0 (by decide) qw_860 (fun _ h9 => h9) rfl rfl (by decide +kernel) (Nat.le_of_ble_eq_true rfl) [(h0, .inr (12, [.int 0, .ref h1, .ref h2, .ref h3, .ref h4, .ref h5, .int 1, .int 3, .int 50, .int (-1), .int (-1), .int (-1), .int (-1), .int 0, .int 100, .int 1000, .long 0]))] rfl dX7_changes_2 (fun H locs hw => ?_)
  refine lv_iload_n hx hb dX7_changes_5 rfl (lv_at hl 1 rfl) ?_
  refine lv_iconst (v := 1) hx hb dX7_changes_6 (by decide) ?_
  refine lv_bipush (v := 39) hx hb dX7_changes_7 (by decide) ?_
  refine rc_calli (wr := [(h0, .inr (12, [.int 0, .ref h1, .ref h2, .ref h3, .ref h4, .ref h5, .int 1, .int 3, .int 50, .int (-1), .int (-1), .int (-1), .int (-1), .int 0, .int 100, .int 1000, .long 0]))]) (va_runS (As := [.int 3, .int 1, .int 39]) (rest := []) (Ts := []) ⟨hx, hb, hml, hown, fun _ h9 => absurd h9 List.not_mem_nil⟩ (cw_X7_is_17 l E _) (rc_cwS hAm qw_921 qw_13 qw_923 qw_922 rfl rfl hd_X7_is ⟨Nat.le_of_ble_eq_true rfl, Nat.le_of_ble_eq_true rfl⟩) (rc_preS hAm hA hw [] rfl rfl) rfl rfl hl.1 rfl (lv_room (Nat.le_of_ble_eq_true rfl)) dX7_changes_9 ⟨Nat.le_of_ble_eq_true rfl, Nat.le_of_ble_eq_true rfl⟩) hA hw [] [0] rfl rfl rfl (by decide) (fun r_1 u_2 H locs hp hw => ?_)
  obtain ⟨rfl, rfl⟩ := hp
  have hw : rc_W E A s [(h0, .inr (12, [.int 0, .ref h1, .ref h2, .ref h3, .ref h4, .ref h5, .int 1, .int 3, .int 50, .int (-1), .int (-1), .int (-1), .int (-1), .int 0, .int 100, .int 1000, .long 0]))] H locs := hw
  refine lv_if_ne (tgt := 21) hx hb dX7_changes_12 (by decide) (fun _ => ?_) (fun c9 => absurd c9 (by decide))
  refine lv_aload_n hx hb dX7_changes_21 rfl (lv_at hl 0 rfl) ?_
  refine rc_get (v := .int 1) hx hb hown hAm hw lyX7 0 rfl rfl 6 (by decide) qw_866 (fun _ h9 => h9) rfl dX7_changes_22 ?_
  refine lv_iload_n hx hb dX7_changes_25 rfl (lv_at hl 1 rfl) ?_
  refine lv_iadd hx hb dX7_changes_26 ?_
  refine rc_topi 4 (by decide) ?_
  refine lv_bipush (v := 40) hx hb dX7_changes_27 (by decide) ?_
  refine lv_icmp_le (tgt := 38) hx hb dX7_changes_29 (by decide) (fun _ => ?_) (fun c9 => absurd (by decide) c9)
  refine lv_aload_n hx hb dX7_changes_38 rfl (lv_at hl 0 rfl) ?_
  refine lv_dup hx hb dX7_changes_39 rfl ?_
  refine rc_get (v := .int 1) hx hb hown hAm hw lyX7 0 rfl rfl 6 (by decide) qw_866 (fun _ h9 => h9) rfl dX7_changes_40 ?_
  refine lv_iload_n hx hb dX7_changes_43 rfl (lv_at hl 1 rfl) ?_
  refine lv_iadd hx hb dX7_changes_44 ?_
  refine rc_topi 4 (by decide) ?_
  refine rc_put hx hb hown hAm hw lyX7 tyX7 tyX7_ok nmX7 0 rfl rfl 6 (by decide) qw_866 (fun _ h9 => h9) rfl rfl (by decide +kernel) (Nat.le_of_ble_eq_true rfl) [(h0, .inr (12, [.int 0, .ref h1, .ref h2, .ref h3, .ref h4, .ref h5, .int 4, .int 3, .int 50, .int (-1), .int (-1), .int (-1), .int (-1), .int 0, .int 100, .int 1000, .long 0]))] rfl dX7_changes_45 (fun H locs hw => ?_)
  refine lv_aload_n hx hb dX7_changes_48 rfl (lv_at hl 0 rfl) ?_
  refine rc_get (v := .int 4) hx hb hown hAm hw lyX7 0 rfl rfl 6 (by decide) qw_866 (fun _ h9 => h9) rfl dX7_changes_49 ?_
  exact rc_iret (v := 4) hx hb hr hlocks hw [(h0, .inr (12, [.int 0, .ref h1, .ref h2, .ref h3, .ref h4, .ref h5, .int 4, .int 3, .int 50, .int (-1), .int (-1), .int (-1), .int (-1), .int 0, .int 100, .int 1000, .long 0]))] (⟨rfl, rfl⟩) [0] rfl (by decide) (Nat.le_of_ble_eq_true rfl) (Nat.le_of_ble_eq_true rfl) dX7_changes_52
set_option maxHeartbeats 4000000 in
set_option maxRecDepth 100000 in
theorem cw_X7_thrown_6 (l : Launch) (E : rc_E) (sz : Nat) (h0 : Nat) (h1 : Nat) (h2 : Nat) (h3 : Nat) (h4 : Nat) (h5 : Nat) : rc_Mi l yX7_thrown [Cond.code yX7_thrown cX7_thrown 1 (some FieldType.int)] { frames := 0, cells := 0, slots := 0, locals := 0 } E [.ref h0] [(h0, .inr (12, [.int 0, .ref h1, .ref h2, .ref h3, .ref h4, .ref h5, .int 4, .int 3, .int 50, .int (-1), .int (-1), .int (-1), .int (-1), .int 0, .int 100, .int 1000, .long 0]))] sz (S := va_W) (fun (r : Int32) (u : va_W) => (0 = r ∧ u = [(h0, .inr (12, [.int 0, .ref h1, .ref h2, .ref h3, .ref h4, .ref h5, .int 4, .int 3, .int 50, .int (-1), .int (-1), .int (-1), .int (-1), .int 0, .int 100, .int 1000, .long 0]))])) (fun u => u) 0 0 := by
  refine rc_ini (cc := cX7_thrown) (maxL := 1) (ret := (some FieldType.int)) (by decide) rfl (Nat.le_of_ble_eq_true rfl) ?_
  intro p e s m args below meth c ls A hx hb hr hml _ hown hlocks hin hA hAm hw hl
  have hown : s.vm.findClass RX7 = some m.cls := hown
  have hl : lv_has ls 1 [(0, .ref h0)] := hl
  refine lv_aload_n hx hb dX7_thrown_0 rfl (lv_at hl 0 rfl) ?_
  refine rc_get (v := .int 0) hx hb hown hAm hw lyX7 0 rfl rfl 0 (by decide) qw_860 (fun _ h9 => h9) rfl dX7_thrown_1 ?_
  exact rc_iret (v := 0) hx hb hr hlocks hw [(h0, .inr (12, [.int 0, .ref h1, .ref h2, .ref h3, .ref h4, .ref h5, .int 4, .int 3, .int 50, .int (-1), .int (-1), .int (-1), .int (-1), .int 0, .int 100, .int 1000, .long 0]))] (⟨rfl, rfl⟩) [0] rfl (by decide) (Nat.le_of_ble_eq_true rfl) (Nat.le_of_ble_eq_true rfl) dX7_thrown_4
set_option maxHeartbeats 4000000 in
set_option maxRecDepth 100000 in
theorem cw_X7_is_18 (l : Launch) (E : rc_E) (sz : Nat) : rc_Mi l yX7_is [Cond.code yX7_is cX7_is 3 (some FieldType.boolean)] { frames := 0, cells := 0, slots := 0, locals := 0 } E [.int 4, .int 1, .int 39] [] sz (S := va_W) (fun (r : Int32) (u : va_W) => (1 = r ∧ u = [])) (fun u => u) 0 0 := by
  refine rc_ini (cc := cX7_is) (maxL := 3) (ret := (some FieldType.boolean)) (by decide) rfl (Nat.le_of_ble_eq_true rfl) ?_
  intro p e s m args below meth c ls A hx hb hr hml _ hown hlocks hin hA hAm hw hl
  have hown : s.vm.findClass RX7 = some m.cls := hown
  have hl : lv_has ls 3 [(0, .int 4), (1, .int 1), (2, .int 39)] := hl
  refine lv_iload_n hx hb dX7_is_0 rfl (lv_at hl 0 rfl) ?_
  refine lv_iload_n hx hb dX7_is_1 rfl (lv_at hl 1 rfl) ?_
  refine lv_icmp_lt (tgt := 14) hx hb dX7_is_2 (by decide) (fun c9 => absurd c9 (by decide)) (fun _ => ?_)
  refine lv_iload_n hx hb dX7_is_5 rfl (lv_at hl 0 rfl) ?_
  refine lv_iload_n hx hb dX7_is_6 rfl (lv_at hl 2 rfl) ?_
  refine lv_icmp_gt (tgt := 14) hx hb dX7_is_7 (by decide) (fun c9 => absurd c9 (by decide)) (fun _ => ?_)
  refine lv_iconst (v := 1) hx hb dX7_is_10 (by decide) ?_
  refine lv_goto (tgt := 15) hx hb dX7_is_11 (by decide) ?_
  exact rc_zret (v := 1) hx hb hr hlocks hw rfl [] (⟨rfl, rfl⟩) [] rfl (by decide) (Nat.le_of_ble_eq_true rfl) (Nat.le_of_ble_eq_true rfl) dX7_is_15
set_option maxHeartbeats 4000000 in
set_option maxRecDepth 100000 in
theorem cw_X7_changes_5 (l : Launch) (E : rc_E) (sz : Nat) (h0 : Nat) (h1 : Nat) (h2 : Nat) (h3 : Nat) (h4 : Nat) (h5 : Nat) : rc_Mi l yX7_changes [Cond.code yX7_changes cX7_changes 2 (some FieldType.int)] { frames := 1, cells := 0, slots := 0, locals := 22 } E [.ref h0, .int 4] [(h0, .inr (12, [.int 0, .ref h1, .ref h2, .ref h3, .ref h4, .ref h5, .int 1, .int 3, .int 50, .int (-1), .int (-1), .int (-1), .int (-1), .int 0, .int 100, .int 1000, .long 0]))] sz (S := va_W) (fun (r : Int32) (u : va_W) => (5 = r ∧ u = [(h0, .inr (12, [.int 0, .ref h1, .ref h2, .ref h3, .ref h4, .ref h5, .int 5, .int 3, .int 50, .int (-1), .int (-1), .int (-1), .int (-1), .int 0, .int 100, .int 1000, .long 0]))])) (fun u => u) 0 0 := by
  refine rc_ini (cc := cX7_changes) (maxL := 2) (ret := (some FieldType.int)) (by decide) rfl (Nat.le_of_ble_eq_true rfl) ?_
  intro p e s m args below meth c ls A hx hb hr hml _ hown hlocks hin hA hAm hw hl
  have hown : s.vm.findClass RX7 = some m.cls := hown
  have hl : lv_has ls 2 [(0, .ref h0), (1, .int 4)] := hl
  refine lv_aload_n hx hb dX7_changes_0 rfl (lv_at hl 0 rfl) ?_
  refine lv_iconst (v := 0) hx hb dX7_changes_1 (by decide) ?_
  refine rc_put hx hb hown hAm hw lyX7 tyX7 tyX7_ok nmX7 0 rfl rfl 0 (by decide) qw_860 (fun _ h9 => h9) rfl rfl (by decide +kernel) (Nat.le_of_ble_eq_true rfl) [(h0, .inr (12, [.int 0, .ref h1, .ref h2, .ref h3, .ref h4, .ref h5, .int 1, .int 3, .int 50, .int (-1), .int (-1), .int (-1), .int (-1), .int 0, .int 100, .int 1000, .long 0]))] rfl dX7_changes_2 (fun H locs hw => ?_)
  refine lv_iload_n hx hb dX7_changes_5 rfl (lv_at hl 1 rfl) ?_
  refine lv_iconst (v := 1) hx hb dX7_changes_6 (by decide) ?_
  refine lv_bipush (v := 39) hx hb dX7_changes_7 (by decide) ?_
  refine rc_calli (wr := [(h0, .inr (12, [.int 0, .ref h1, .ref h2, .ref h3, .ref h4, .ref h5, .int 1, .int 3, .int 50, .int (-1), .int (-1), .int (-1), .int (-1), .int 0, .int 100, .int 1000, .long 0]))]) (va_runS (As := [.int 4, .int 1, .int 39]) (rest := []) (Ts := []) ⟨hx, hb, hml, hown, fun _ h9 => absurd h9 List.not_mem_nil⟩ (cw_X7_is_18 l E _) (rc_cwS hAm qw_921 qw_13 qw_923 qw_922 rfl rfl hd_X7_is ⟨Nat.le_of_ble_eq_true rfl, Nat.le_of_ble_eq_true rfl⟩) (rc_preS hAm hA hw [] rfl rfl) rfl rfl hl.1 rfl (lv_room (Nat.le_of_ble_eq_true rfl)) dX7_changes_9 ⟨Nat.le_of_ble_eq_true rfl, Nat.le_of_ble_eq_true rfl⟩) hA hw [] [0] rfl rfl rfl (by decide) (fun r_1 u_2 H locs hp hw => ?_)
  obtain ⟨rfl, rfl⟩ := hp
  have hw : rc_W E A s [(h0, .inr (12, [.int 0, .ref h1, .ref h2, .ref h3, .ref h4, .ref h5, .int 1, .int 3, .int 50, .int (-1), .int (-1), .int (-1), .int (-1), .int 0, .int 100, .int 1000, .long 0]))] H locs := hw
  refine lv_if_ne (tgt := 21) hx hb dX7_changes_12 (by decide) (fun _ => ?_) (fun c9 => absurd c9 (by decide))
  refine lv_aload_n hx hb dX7_changes_21 rfl (lv_at hl 0 rfl) ?_
  refine rc_get (v := .int 1) hx hb hown hAm hw lyX7 0 rfl rfl 6 (by decide) qw_866 (fun _ h9 => h9) rfl dX7_changes_22 ?_
  refine lv_iload_n hx hb dX7_changes_25 rfl (lv_at hl 1 rfl) ?_
  refine lv_iadd hx hb dX7_changes_26 ?_
  refine rc_topi 5 (by decide) ?_
  refine lv_bipush (v := 40) hx hb dX7_changes_27 (by decide) ?_
  refine lv_icmp_le (tgt := 38) hx hb dX7_changes_29 (by decide) (fun _ => ?_) (fun c9 => absurd (by decide) c9)
  refine lv_aload_n hx hb dX7_changes_38 rfl (lv_at hl 0 rfl) ?_
  refine lv_dup hx hb dX7_changes_39 rfl ?_
  refine rc_get (v := .int 1) hx hb hown hAm hw lyX7 0 rfl rfl 6 (by decide) qw_866 (fun _ h9 => h9) rfl dX7_changes_40 ?_
  refine lv_iload_n hx hb dX7_changes_43 rfl (lv_at hl 1 rfl) ?_
  refine lv_iadd hx hb dX7_changes_44 ?_
  refine rc_topi 5 (by decide) ?_
  refine rc_put hx hb hown hAm hw lyX7 tyX7 tyX7_ok nmX7 0 rfl rfl 6 (by decide) qw_866 (fun _ h9 => h9) rfl rfl (by decide +kernel) (Nat.le_of_ble_eq_true rfl) [(h0, .inr (12, [.int 0, .ref h1, .ref h2, .ref h3, .ref h4, .ref h5, .int 5, .int 3, .int 50, .int (-1), .int (-1), .int (-1), .int (-1), .int 0, .int 100, .int 1000, .long 0]))] rfl dX7_changes_45 (fun H locs hw => ?_)
  refine lv_aload_n hx hb dX7_changes_48 rfl (lv_at hl 0 rfl) ?_
  refine rc_get (v := .int 5) hx hb hown hAm hw lyX7 0 rfl rfl 6 (by decide) qw_866 (fun _ h9 => h9) rfl dX7_changes_49 ?_
  exact rc_iret (v := 5) hx hb hr hlocks hw [(h0, .inr (12, [.int 0, .ref h1, .ref h2, .ref h3, .ref h4, .ref h5, .int 5, .int 3, .int 50, .int (-1), .int (-1), .int (-1), .int (-1), .int 0, .int 100, .int 1000, .long 0]))] (⟨rfl, rfl⟩) [0] rfl (by decide) (Nat.le_of_ble_eq_true rfl) (Nat.le_of_ble_eq_true rfl) dX7_changes_52
set_option maxHeartbeats 4000000 in
set_option maxRecDepth 100000 in
theorem cw_X7_thrown_7 (l : Launch) (E : rc_E) (sz : Nat) (h0 : Nat) (h1 : Nat) (h2 : Nat) (h3 : Nat) (h4 : Nat) (h5 : Nat) : rc_Mi l yX7_thrown [Cond.code yX7_thrown cX7_thrown 1 (some FieldType.int)] { frames := 0, cells := 0, slots := 0, locals := 0 } E [.ref h0] [(h0, .inr (12, [.int 0, .ref h1, .ref h2, .ref h3, .ref h4, .ref h5, .int 5, .int 3, .int 50, .int (-1), .int (-1), .int (-1), .int (-1), .int 0, .int 100, .int 1000, .long 0]))] sz (S := va_W) (fun (r : Int32) (u : va_W) => (0 = r ∧ u = [(h0, .inr (12, [.int 0, .ref h1, .ref h2, .ref h3, .ref h4, .ref h5, .int 5, .int 3, .int 50, .int (-1), .int (-1), .int (-1), .int (-1), .int 0, .int 100, .int 1000, .long 0]))])) (fun u => u) 0 0 := by
  refine rc_ini (cc := cX7_thrown) (maxL := 1) (ret := (some FieldType.int)) (by decide) rfl (Nat.le_of_ble_eq_true rfl) ?_
  intro p e s m args below meth c ls A hx hb hr hml _ hown hlocks hin hA hAm hw hl
  have hown : s.vm.findClass RX7 = some m.cls := hown
  have hl : lv_has ls 1 [(0, .ref h0)] := hl
  refine lv_aload_n hx hb dX7_thrown_0 rfl (lv_at hl 0 rfl) ?_
  refine rc_get (v := .int 0) hx hb hown hAm hw lyX7 0 rfl rfl 0 (by decide) qw_860 (fun _ h9 => h9) rfl dX7_thrown_1 ?_
  exact rc_iret (v := 0) hx hb hr hlocks hw [(h0, .inr (12, [.int 0, .ref h1, .ref h2, .ref h3, .ref h4, .ref h5, .int 5, .int 3, .int 50, .int (-1), .int (-1), .int (-1), .int (-1), .int 0, .int 100, .int 1000, .long 0]))] (⟨rfl, rfl⟩) [0] rfl (by decide) (Nat.le_of_ble_eq_true rfl) (Nat.le_of_ble_eq_true rfl) dX7_thrown_4
set_option maxHeartbeats 4000000 in
set_option maxRecDepth 100000 in
theorem cw_X7_is_19 (l : Launch) (E : rc_E) (sz : Nat) : rc_Mi l yX7_is [Cond.code yX7_is cX7_is 3 (some FieldType.boolean)] { frames := 0, cells := 0, slots := 0, locals := 0 } E [.int 5, .int 1, .int 39] [] sz (S := va_W) (fun (r : Int32) (u : va_W) => (1 = r ∧ u = [])) (fun u => u) 0 0 := by
  refine rc_ini (cc := cX7_is) (maxL := 3) (ret := (some FieldType.boolean)) (by decide) rfl (Nat.le_of_ble_eq_true rfl) ?_
  intro p e s m args below meth c ls A hx hb hr hml _ hown hlocks hin hA hAm hw hl
  have hown : s.vm.findClass RX7 = some m.cls := hown
  have hl : lv_has ls 3 [(0, .int 5), (1, .int 1), (2, .int 39)] := hl
  refine lv_iload_n hx hb dX7_is_0 rfl (lv_at hl 0 rfl) ?_
  refine lv_iload_n hx hb dX7_is_1 rfl (lv_at hl 1 rfl) ?_
  refine lv_icmp_lt (tgt := 14) hx hb dX7_is_2 (by decide) (fun c9 => absurd c9 (by decide)) (fun _ => ?_)
  refine lv_iload_n hx hb dX7_is_5 rfl (lv_at hl 0 rfl) ?_
  refine lv_iload_n hx hb dX7_is_6 rfl (lv_at hl 2 rfl) ?_
  refine lv_icmp_gt (tgt := 14) hx hb dX7_is_7 (by decide) (fun c9 => absurd c9 (by decide)) (fun _ => ?_)
  refine lv_iconst (v := 1) hx hb dX7_is_10 (by decide) ?_
  refine lv_goto (tgt := 15) hx hb dX7_is_11 (by decide) ?_
  exact rc_zret (v := 1) hx hb hr hlocks hw rfl [] (⟨rfl, rfl⟩) [] rfl (by decide) (Nat.le_of_ble_eq_true rfl) (Nat.le_of_ble_eq_true rfl) dX7_is_15
set_option maxHeartbeats 4000000 in
set_option maxRecDepth 100000 in
theorem cw_X7_changes_6 (l : Launch) (E : rc_E) (sz : Nat) (h0 : Nat) (h1 : Nat) (h2 : Nat) (h3 : Nat) (h4 : Nat) (h5 : Nat) : rc_Mi l yX7_changes [Cond.code yX7_changes cX7_changes 2 (some FieldType.int)] { frames := 1, cells := 0, slots := 0, locals := 22 } E [.ref h0, .int 5] [(h0, .inr (12, [.int 0, .ref h1, .ref h2, .ref h3, .ref h4, .ref h5, .int 1, .int 3, .int 50, .int (-1), .int (-1), .int (-1), .int (-1), .int 0, .int 100, .int 1000, .long 0]))] sz (S := va_W) (fun (r : Int32) (u : va_W) => (6 = r ∧ u = [(h0, .inr (12, [.int 0, .ref h1, .ref h2, .ref h3, .ref h4, .ref h5, .int 6, .int 3, .int 50, .int (-1), .int (-1), .int (-1), .int (-1), .int 0, .int 100, .int 1000, .long 0]))])) (fun u => u) 0 0 := by
  refine rc_ini (cc := cX7_changes) (maxL := 2) (ret := (some FieldType.int)) (by decide) rfl (Nat.le_of_ble_eq_true rfl) ?_
  intro p e s m args below meth c ls A hx hb hr hml _ hown hlocks hin hA hAm hw hl
  have hown : s.vm.findClass RX7 = some m.cls := hown
  have hl : lv_has ls 2 [(0, .ref h0), (1, .int 5)] := hl
  refine lv_aload_n hx hb dX7_changes_0 rfl (lv_at hl 0 rfl) ?_
  refine lv_iconst (v := 0) hx hb dX7_changes_1 (by decide) ?_
  refine rc_put hx hb hown hAm hw lyX7 tyX7 tyX7_ok nmX7 0 rfl rfl 0 (by decide) qw_860 (fun _ h9 => h9) rfl rfl (by decide +kernel) (Nat.le_of_ble_eq_true rfl) [(h0, .inr (12, [.int 0, .ref h1, .ref h2, .ref h3, .ref h4, .ref h5, .int 1, .int 3, .int 50, .int (-1), .int (-1), .int (-1), .int (-1), .int 0, .int 100, .int 1000, .long 0]))] rfl dX7_changes_2 (fun H locs hw => ?_)
  refine lv_iload_n hx hb dX7_changes_5 rfl (lv_at hl 1 rfl) ?_
  refine lv_iconst (v := 1) hx hb dX7_changes_6 (by decide) ?_
  refine lv_bipush (v := 39) hx hb dX7_changes_7 (by decide) ?_
  refine rc_calli (wr := [(h0, .inr (12, [.int 0, .ref h1, .ref h2, .ref h3, .ref h4, .ref h5, .int 1, .int 3, .int 50, .int (-1), .int (-1), .int (-1), .int (-1), .int 0, .int 100, .int 1000, .long 0]))]) (va_runS (As := [.int 5, .int 1, .int 39]) (rest := []) (Ts := []) ⟨hx, hb, hml, hown, fun _ h9 => absurd h9 List.not_mem_nil⟩ (cw_X7_is_19 l E _) (rc_cwS hAm qw_921 qw_13 qw_923 qw_922 rfl rfl hd_X7_is ⟨Nat.le_of_ble_eq_true rfl, Nat.le_of_ble_eq_true rfl⟩) (rc_preS hAm hA hw [] rfl rfl) rfl rfl hl.1 rfl (lv_room (Nat.le_of_ble_eq_true rfl)) dX7_changes_9 ⟨Nat.le_of_ble_eq_true rfl, Nat.le_of_ble_eq_true rfl⟩) hA hw [] [0] rfl rfl rfl (by decide) (fun r_1 u_2 H locs hp hw => ?_)
  obtain ⟨rfl, rfl⟩ := hp
  have hw : rc_W E A s [(h0, .inr (12, [.int 0, .ref h1, .ref h2, .ref h3, .ref h4, .ref h5, .int 1, .int 3, .int 50, .int (-1), .int (-1), .int (-1), .int (-1), .int 0, .int 100, .int 1000, .long 0]))] H locs := hw
  refine lv_if_ne (tgt := 21) hx hb dX7_changes_12 (by decide) (fun _ => ?_) (fun c9 => absurd c9 (by decide))
  refine lv_aload_n hx hb dX7_changes_21 rfl (lv_at hl 0 rfl) ?_
  refine rc_get (v := .int 1) hx hb hown hAm hw lyX7 0 rfl rfl 6 (by decide) qw_866 (fun _ h9 => h9) rfl dX7_changes_22 ?_
  refine lv_iload_n hx hb dX7_changes_25 rfl (lv_at hl 1 rfl) ?_
  refine lv_iadd hx hb dX7_changes_26 ?_
  refine rc_topi 6 (by decide) ?_
  refine lv_bipush (v := 40) hx hb dX7_changes_27 (by decide) ?_
  refine lv_icmp_le (tgt := 38) hx hb dX7_changes_29 (by decide) (fun _ => ?_) (fun c9 => absurd (by decide) c9)
  refine lv_aload_n hx hb dX7_changes_38 rfl (lv_at hl 0 rfl) ?_
  refine lv_dup hx hb dX7_changes_39 rfl ?_
  refine rc_get (v := .int 1) hx hb hown hAm hw lyX7 0 rfl rfl 6 (by decide) qw_866 (fun _ h9 => h9) rfl dX7_changes_40 ?_
  refine lv_iload_n hx hb dX7_changes_43 rfl (lv_at hl 1 rfl) ?_
  refine lv_iadd hx hb dX7_changes_44 ?_
  refine rc_topi 6 (by decide) ?_
  refine rc_put hx hb hown hAm hw lyX7 tyX7 tyX7_ok nmX7 0 rfl rfl 6 (by decide) qw_866 (fun _ h9 => h9) rfl rfl (by decide +kernel) (Nat.le_of_ble_eq_true rfl) [(h0, .inr (12, [.int 0, .ref h1, .ref h2, .ref h3, .ref h4, .ref h5, .int 6, .int 3, .int 50, .int (-1), .int (-1), .int (-1), .int (-1), .int 0, .int 100, .int 1000, .long 0]))] rfl dX7_changes_45 (fun H locs hw => ?_)
  refine lv_aload_n hx hb dX7_changes_48 rfl (lv_at hl 0 rfl) ?_
  refine rc_get (v := .int 6) hx hb hown hAm hw lyX7 0 rfl rfl 6 (by decide) qw_866 (fun _ h9 => h9) rfl dX7_changes_49 ?_
  exact rc_iret (v := 6) hx hb hr hlocks hw [(h0, .inr (12, [.int 0, .ref h1, .ref h2, .ref h3, .ref h4, .ref h5, .int 6, .int 3, .int 50, .int (-1), .int (-1), .int (-1), .int (-1), .int 0, .int 100, .int 1000, .long 0]))] (⟨rfl, rfl⟩) [0] rfl (by decide) (Nat.le_of_ble_eq_true rfl) (Nat.le_of_ble_eq_true rfl) dX7_changes_52
set_option maxHeartbeats 4000000 in
set_option maxRecDepth 100000 in
theorem cw_X7_thrown_8 (l : Launch) (E : rc_E) (sz : Nat) (h0 : Nat) (h1 : Nat) (h2 : Nat) (h3 : Nat) (h4 : Nat) (h5 : Nat) : rc_Mi l yX7_thrown [Cond.code yX7_thrown cX7_thrown 1 (some FieldType.int)] { frames := 0, cells := 0, slots := 0, locals := 0 } E [.ref h0] [(h0, .inr (12, [.int 0, .ref h1, .ref h2, .ref h3, .ref h4, .ref h5, .int 6, .int 3, .int 50, .int (-1), .int (-1), .int (-1), .int (-1), .int 0, .int 100, .int 1000, .long 0]))] sz (S := va_W) (fun (r : Int32) (u : va_W) => (0 = r ∧ u = [(h0, .inr (12, [.int 0, .ref h1, .ref h2, .ref h3, .ref h4, .ref h5, .int 6, .int 3, .int 50, .int (-1), .int (-1), .int (-1), .int (-1), .int 0, .int 100, .int 1000, .long 0]))])) (fun u => u) 0 0 := by
  refine rc_ini (cc := cX7_thrown) (maxL := 1) (ret := (some FieldType.int)) (by decide) rfl (Nat.le_of_ble_eq_true rfl) ?_
  intro p e s m args below meth c ls A hx hb hr hml _ hown hlocks hin hA hAm hw hl
  have hown : s.vm.findClass RX7 = some m.cls := hown
  have hl : lv_has ls 1 [(0, .ref h0)] := hl
  refine lv_aload_n hx hb dX7_thrown_0 rfl (lv_at hl 0 rfl) ?_
  refine rc_get (v := .int 0) hx hb hown hAm hw lyX7 0 rfl rfl 0 (by decide) qw_860 (fun _ h9 => h9) rfl dX7_thrown_1 ?_
  exact rc_iret (v := 0) hx hb hr hlocks hw [(h0, .inr (12, [.int 0, .ref h1, .ref h2, .ref h3, .ref h4, .ref h5, .int 6, .int 3, .int 50, .int (-1), .int (-1), .int (-1), .int (-1), .int 0, .int 100, .int 1000, .long 0]))] (⟨rfl, rfl⟩) [0] rfl (by decide) (Nat.le_of_ble_eq_true rfl) (Nat.le_of_ble_eq_true rfl) dX7_thrown_4
set_option maxHeartbeats 4000000 in
set_option maxRecDepth 100000 in
theorem cw_X7_is_20 (l : Launch) (E : rc_E) (sz : Nat) : rc_Mi l yX7_is [Cond.code yX7_is cX7_is 3 (some FieldType.boolean)] { frames := 0, cells := 0, slots := 0, locals := 0 } E [.int 6, .int 1, .int 39] [] sz (S := va_W) (fun (r : Int32) (u : va_W) => (1 = r ∧ u = [])) (fun u => u) 0 0 := by
  refine rc_ini (cc := cX7_is) (maxL := 3) (ret := (some FieldType.boolean)) (by decide) rfl (Nat.le_of_ble_eq_true rfl) ?_
  intro p e s m args below meth c ls A hx hb hr hml _ hown hlocks hin hA hAm hw hl
  have hown : s.vm.findClass RX7 = some m.cls := hown
  have hl : lv_has ls 3 [(0, .int 6), (1, .int 1), (2, .int 39)] := hl
  refine lv_iload_n hx hb dX7_is_0 rfl (lv_at hl 0 rfl) ?_
  refine lv_iload_n hx hb dX7_is_1 rfl (lv_at hl 1 rfl) ?_
  refine lv_icmp_lt (tgt := 14) hx hb dX7_is_2 (by decide) (fun c9 => absurd c9 (by decide)) (fun _ => ?_)
  refine lv_iload_n hx hb dX7_is_5 rfl (lv_at hl 0 rfl) ?_
  refine lv_iload_n hx hb dX7_is_6 rfl (lv_at hl 2 rfl) ?_
  refine lv_icmp_gt (tgt := 14) hx hb dX7_is_7 (by decide) (fun c9 => absurd c9 (by decide)) (fun _ => ?_)
  refine lv_iconst (v := 1) hx hb dX7_is_10 (by decide) ?_
  refine lv_goto (tgt := 15) hx hb dX7_is_11 (by decide) ?_
  exact rc_zret (v := 1) hx hb hr hlocks hw rfl [] (⟨rfl, rfl⟩) [] rfl (by decide) (Nat.le_of_ble_eq_true rfl) (Nat.le_of_ble_eq_true rfl) dX7_is_15
set_option maxHeartbeats 4000000 in
set_option maxRecDepth 100000 in
theorem cw_X7_changes_7 (l : Launch) (E : rc_E) (sz : Nat) (h0 : Nat) (h1 : Nat) (h2 : Nat) (h3 : Nat) (h4 : Nat) (h5 : Nat) : rc_Mi l yX7_changes [Cond.code yX7_changes cX7_changes 2 (some FieldType.int)] { frames := 1, cells := 0, slots := 0, locals := 22 } E [.ref h0, .int 6] [(h0, .inr (12, [.int 0, .ref h1, .ref h2, .ref h3, .ref h4, .ref h5, .int 1, .int 3, .int 50, .int (-1), .int (-1), .int (-1), .int (-1), .int 0, .int 100, .int 1000, .long 0]))] sz (S := va_W) (fun (r : Int32) (u : va_W) => (7 = r ∧ u = [(h0, .inr (12, [.int 0, .ref h1, .ref h2, .ref h3, .ref h4, .ref h5, .int 7, .int 3, .int 50, .int (-1), .int (-1), .int (-1), .int (-1), .int 0, .int 100, .int 1000, .long 0]))])) (fun u => u) 0 0 := by
  refine rc_ini (cc := cX7_changes) (maxL := 2) (ret := (some FieldType.int)) (by decide) rfl (Nat.le_of_ble_eq_true rfl) ?_
  intro p e s m args below meth c ls A hx hb hr hml _ hown hlocks hin hA hAm hw hl
  have hown : s.vm.findClass RX7 = some m.cls := hown
  have hl : lv_has ls 2 [(0, .ref h0), (1, .int 6)] := hl
  refine lv_aload_n hx hb dX7_changes_0 rfl (lv_at hl 0 rfl) ?_
  refine lv_iconst (v := 0) hx hb dX7_changes_1 (by decide) ?_
  refine rc_put hx hb hown hAm hw lyX7 tyX7 tyX7_ok nmX7 0 rfl rfl 0 (by decide) qw_860 (fun _ h9 => h9) rfl rfl (by decide +kernel) (Nat.le_of_ble_eq_true rfl) [(h0, .inr (12, [.int 0, .ref h1, .ref h2, .ref h3, .ref h4, .ref h5, .int 1, .int 3, .int 50, .int (-1), .int (-1), .int (-1), .int (-1), .int 0, .int 100, .int 1000, .long 0]))] rfl dX7_changes_2 (fun H locs hw => ?_)
  refine lv_iload_n hx hb dX7_changes_5 rfl (lv_at hl 1 rfl) ?_
  refine lv_iconst (v := 1) hx hb dX7_changes_6 (by decide) ?_
  refine lv_bipush (v := 39) hx hb dX7_changes_7 (by decide) ?_
  refine rc_calli (wr := [(h0, .inr (12, [.int 0, .ref h1, .ref h2, .ref h3, .ref h4, .ref h5, .int 1, .int 3, .int 50, .int (-1), .int (-1), .int (-1), .int (-1), .int 0, .int 100, .int 1000, .long 0]))]) (va_runS (As := [.int 6, .int 1, .int 39]) (rest := []) (Ts := []) ⟨hx, hb, hml, hown, fun _ h9 => absurd h9 List.not_mem_nil⟩ (cw_X7_is_20 l E _) (rc_cwS hAm qw_921 qw_13 qw_923 qw_922 rfl rfl hd_X7_is ⟨Nat.le_of_ble_eq_true rfl, Nat.le_of_ble_eq_true rfl⟩) (rc_preS hAm hA hw [] rfl rfl) rfl rfl hl.1 rfl (lv_room (Nat.le_of_ble_eq_true rfl)) dX7_changes_9 ⟨Nat.le_of_ble_eq_true rfl, Nat.le_of_ble_eq_true rfl⟩) hA hw [] [0] rfl rfl rfl (by decide) (fun r_1 u_2 H locs hp hw => ?_)
  obtain ⟨rfl, rfl⟩ := hp
  have hw : rc_W E A s [(h0, .inr (12, [.int 0, .ref h1, .ref h2, .ref h3, .ref h4, .ref h5, .int 1, .int 3, .int 50, .int (-1), .int (-1), .int (-1), .int (-1), .int 0, .int 100, .int 1000, .long 0]))] H locs := hw
  refine lv_if_ne (tgt := 21) hx hb dX7_changes_12 (by decide) (fun _ => ?_) (fun c9 => absurd c9 (by decide))
  refine lv_aload_n hx hb dX7_changes_21 rfl (lv_at hl 0 rfl) ?_
  refine rc_get (v := .int 1) hx hb hown hAm hw lyX7 0 rfl rfl 6 (by decide) qw_866 (fun _ h9 => h9) rfl dX7_changes_22 ?_
  refine lv_iload_n hx hb dX7_changes_25 rfl (lv_at hl 1 rfl) ?_
  refine lv_iadd hx hb dX7_changes_26 ?_
  refine rc_topi 7 (by decide) ?_
  refine lv_bipush (v := 40) hx hb dX7_changes_27 (by decide) ?_
  refine lv_icmp_le (tgt := 38) hx hb dX7_changes_29 (by decide) (fun _ => ?_) (fun c9 => absurd (by decide) c9)
  refine lv_aload_n hx hb dX7_changes_38 rfl (lv_at hl 0 rfl) ?_
  refine lv_dup hx hb dX7_changes_39 rfl ?_
  refine rc_get (v := .int 1) hx hb hown hAm hw lyX7 0 rfl rfl 6 (by decide) qw_866 (fun _ h9 => h9) rfl dX7_changes_40 ?_
  refine lv_iload_n hx hb dX7_changes_43 rfl (lv_at hl 1 rfl) ?_
  refine lv_iadd hx hb dX7_changes_44 ?_
  refine rc_topi 7 (by decide) ?_
  refine rc_put hx hb hown hAm hw lyX7 tyX7 tyX7_ok nmX7 0 rfl rfl 6 (by decide) qw_866 (fun _ h9 => h9) rfl rfl (by decide +kernel) (Nat.le_of_ble_eq_true rfl) [(h0, .inr (12, [.int 0, .ref h1, .ref h2, .ref h3, .ref h4, .ref h5, .int 7, .int 3, .int 50, .int (-1), .int (-1), .int (-1), .int (-1), .int 0, .int 100, .int 1000, .long 0]))] rfl dX7_changes_45 (fun H locs hw => ?_)
  refine lv_aload_n hx hb dX7_changes_48 rfl (lv_at hl 0 rfl) ?_
  refine rc_get (v := .int 7) hx hb hown hAm hw lyX7 0 rfl rfl 6 (by decide) qw_866 (fun _ h9 => h9) rfl dX7_changes_49 ?_
  exact rc_iret (v := 7) hx hb hr hlocks hw [(h0, .inr (12, [.int 0, .ref h1, .ref h2, .ref h3, .ref h4, .ref h5, .int 7, .int 3, .int 50, .int (-1), .int (-1), .int (-1), .int (-1), .int 0, .int 100, .int 1000, .long 0]))] (⟨rfl, rfl⟩) [0] rfl (by decide) (Nat.le_of_ble_eq_true rfl) (Nat.le_of_ble_eq_true rfl) dX7_changes_52
set_option maxHeartbeats 4000000 in
set_option maxRecDepth 100000 in
theorem cw_X7_thrown_9 (l : Launch) (E : rc_E) (sz : Nat) (h0 : Nat) (h1 : Nat) (h2 : Nat) (h3 : Nat) (h4 : Nat) (h5 : Nat) : rc_Mi l yX7_thrown [Cond.code yX7_thrown cX7_thrown 1 (some FieldType.int)] { frames := 0, cells := 0, slots := 0, locals := 0 } E [.ref h0] [(h0, .inr (12, [.int 0, .ref h1, .ref h2, .ref h3, .ref h4, .ref h5, .int 7, .int 3, .int 50, .int (-1), .int (-1), .int (-1), .int (-1), .int 0, .int 100, .int 1000, .long 0]))] sz (S := va_W) (fun (r : Int32) (u : va_W) => (0 = r ∧ u = [(h0, .inr (12, [.int 0, .ref h1, .ref h2, .ref h3, .ref h4, .ref h5, .int 7, .int 3, .int 50, .int (-1), .int (-1), .int (-1), .int (-1), .int 0, .int 100, .int 1000, .long 0]))])) (fun u => u) 0 0 := by
  refine rc_ini (cc := cX7_thrown) (maxL := 1) (ret := (some FieldType.int)) (by decide) rfl (Nat.le_of_ble_eq_true rfl) ?_
  intro p e s m args below meth c ls A hx hb hr hml _ hown hlocks hin hA hAm hw hl
  have hown : s.vm.findClass RX7 = some m.cls := hown
  have hl : lv_has ls 1 [(0, .ref h0)] := hl
  refine lv_aload_n hx hb dX7_thrown_0 rfl (lv_at hl 0 rfl) ?_
  refine rc_get (v := .int 0) hx hb hown hAm hw lyX7 0 rfl rfl 0 (by decide) qw_860 (fun _ h9 => h9) rfl dX7_thrown_1 ?_
  exact rc_iret (v := 0) hx hb hr hlocks hw [(h0, .inr (12, [.int 0, .ref h1, .ref h2, .ref h3, .ref h4, .ref h5, .int 7, .int 3, .int 50, .int (-1), .int (-1), .int (-1), .int (-1), .int 0, .int 100, .int 1000, .long 0]))] (⟨rfl, rfl⟩) [0] rfl (by decide) (Nat.le_of_ble_eq_true rfl) (Nat.le_of_ble_eq_true rfl) dX7_thrown_4
set_option maxHeartbeats 4000000 in
set_option maxRecDepth 100000 in
theorem cw_X7_is_21 (l : Launch) (E : rc_E) (sz : Nat) : rc_Mi l yX7_is [Cond.code yX7_is cX7_is 3 (some FieldType.boolean)] { frames := 0, cells := 0, slots := 0, locals := 0 } E [.int 7, .int 1, .int 39] [] sz (S := va_W) (fun (r : Int32) (u : va_W) => (1 = r ∧ u = [])) (fun u => u) 0 0 := by
  refine rc_ini (cc := cX7_is) (maxL := 3) (ret := (some FieldType.boolean)) (by decide) rfl (Nat.le_of_ble_eq_true rfl) ?_
  intro p e s m args below meth c ls A hx hb hr hml _ hown hlocks hin hA hAm hw hl
  have hown : s.vm.findClass RX7 = some m.cls := hown
  have hl : lv_has ls 3 [(0, .int 7), (1, .int 1), (2, .int 39)] := hl
  refine lv_iload_n hx hb dX7_is_0 rfl (lv_at hl 0 rfl) ?_
  refine lv_iload_n hx hb dX7_is_1 rfl (lv_at hl 1 rfl) ?_
  refine lv_icmp_lt (tgt := 14) hx hb dX7_is_2 (by decide) (fun c9 => absurd c9 (by decide)) (fun _ => ?_)
  refine lv_iload_n hx hb dX7_is_5 rfl (lv_at hl 0 rfl) ?_
  refine lv_iload_n hx hb dX7_is_6 rfl (lv_at hl 2 rfl) ?_
  refine lv_icmp_gt (tgt := 14) hx hb dX7_is_7 (by decide) (fun c9 => absurd c9 (by decide)) (fun _ => ?_)
  refine lv_iconst (v := 1) hx hb dX7_is_10 (by decide) ?_
  refine lv_goto (tgt := 15) hx hb dX7_is_11 (by decide) ?_
  exact rc_zret (v := 1) hx hb hr hlocks hw rfl [] (⟨rfl, rfl⟩) [] rfl (by decide) (Nat.le_of_ble_eq_true rfl) (Nat.le_of_ble_eq_true rfl) dX7_is_15
set_option maxHeartbeats 4000000 in
set_option maxRecDepth 100000 in
theorem cw_X7_changes_8 (l : Launch) (E : rc_E) (sz : Nat) (h0 : Nat) (h1 : Nat) (h2 : Nat) (h3 : Nat) (h4 : Nat) (h5 : Nat) : rc_Mi l yX7_changes [Cond.code yX7_changes cX7_changes 2 (some FieldType.int)] { frames := 1, cells := 0, slots := 0, locals := 22 } E [.ref h0, .int 7] [(h0, .inr (12, [.int 0, .ref h1, .ref h2, .ref h3, .ref h4, .ref h5, .int 1, .int 3, .int 50, .int (-1), .int (-1), .int (-1), .int (-1), .int 0, .int 100, .int 1000, .long 0]))] sz (S := va_W) (fun (r : Int32) (u : va_W) => (8 = r ∧ u = [(h0, .inr (12, [.int 0, .ref h1, .ref h2, .ref h3, .ref h4, .ref h5, .int 8, .int 3, .int 50, .int (-1), .int (-1), .int (-1), .int (-1), .int 0, .int 100, .int 1000, .long 0]))])) (fun u => u) 0 0 := by
  refine rc_ini (cc := cX7_changes) (maxL := 2) (ret := (some FieldType.int)) (by decide) rfl (Nat.le_of_ble_eq_true rfl) ?_
  intro p e s m args below meth c ls A hx hb hr hml _ hown hlocks hin hA hAm hw hl
  have hown : s.vm.findClass RX7 = some m.cls := hown
  have hl : lv_has ls 2 [(0, .ref h0), (1, .int 7)] := hl
  refine lv_aload_n hx hb dX7_changes_0 rfl (lv_at hl 0 rfl) ?_
  refine lv_iconst (v := 0) hx hb dX7_changes_1 (by decide) ?_
  refine rc_put hx hb hown hAm hw lyX7 tyX7 tyX7_ok nmX7 0 rfl rfl 0 (by decide) qw_860 (fun _ h9 => h9) rfl rfl (by decide +kernel) (Nat.le_of_ble_eq_true rfl) [(h0, .inr (12, [.int 0, .ref h1, .ref h2, .ref h3, .ref h4, .ref h5, .int 1, .int 3, .int 50, .int (-1), .int (-1), .int (-1), .int (-1), .int 0, .int 100, .int 1000, .long 0]))] rfl dX7_changes_2 (fun H locs hw => ?_)
  refine lv_iload_n hx hb dX7_changes_5 rfl (lv_at hl 1 rfl) ?_
  refine lv_iconst (v := 1) hx hb dX7_changes_6 (by decide) ?_
  refine lv_bipush (v := 39) hx hb dX7_changes_7 (by decide) ?_
  refine rc_calli (wr := [(h0, .inr (12, [.int 0, .ref h1, .ref h2, .ref h3, .ref h4, .ref h5, .int 1, .int 3, .int 50, .int (-1), .int (-1), .int (-1), .int (-1), .int 0, .int 100, .int 1000, .long 0]))]) (va_runS (As := [.int 7, .int 1, .int 39]) (rest := []) (Ts := []) ⟨hx, hb, hml, hown, fun _ h9 => absurd h9 List.not_mem_nil⟩ (cw_X7_is_21 l E _) (rc_cwS hAm qw_921 qw_13 qw_923 qw_922 rfl rfl hd_X7_is ⟨Nat.le_of_ble_eq_true rfl, Nat.le_of_ble_eq_true rfl⟩) (rc_preS hAm hA hw [] rfl rfl) rfl rfl hl.1 rfl (lv_room (Nat.le_of_ble_eq_true rfl)) dX7_changes_9 ⟨Nat.le_of_ble_eq_true rfl, Nat.le_of_ble_eq_true rfl⟩) hA hw [] [0] rfl rfl rfl (by decide) (fun r_1 u_2 H locs hp hw => ?_)
  obtain ⟨rfl, rfl⟩ := hp
  have hw : rc_W E A s [(h0, .inr (12, [.int 0, .ref h1, .ref h2, .ref h3, .ref h4, .ref h5, .int 1, .int 3, .int 50, .int (-1), .int (-1), .int (-1), .int (-1), .int 0, .int 100, .int 1000, .long 0]))] H locs := hw
  refine lv_if_ne (tgt := 21) hx hb dX7_changes_12 (by decide) (fun _ => ?_) (fun c9 => absurd c9 (by decide))
  refine lv_aload_n hx hb dX7_changes_21 rfl (lv_at hl 0 rfl) ?_
  refine rc_get (v := .int 1) hx hb hown hAm hw lyX7 0 rfl rfl 6 (by decide) qw_866 (fun _ h9 => h9) rfl dX7_changes_22 ?_
  refine lv_iload_n hx hb dX7_changes_25 rfl (lv_at hl 1 rfl) ?_
  refine lv_iadd hx hb dX7_changes_26 ?_
  refine rc_topi 8 (by decide) ?_
  refine lv_bipush (v := 40) hx hb dX7_changes_27 (by decide) ?_
  refine lv_icmp_le (tgt := 38) hx hb dX7_changes_29 (by decide) (fun _ => ?_) (fun c9 => absurd (by decide) c9)
  refine lv_aload_n hx hb dX7_changes_38 rfl (lv_at hl 0 rfl) ?_
  refine lv_dup hx hb dX7_changes_39 rfl ?_
  refine rc_get (v := .int 1) hx hb hown hAm hw lyX7 0 rfl rfl 6 (by decide) qw_866 (fun _ h9 => h9) rfl dX7_changes_40 ?_
  refine lv_iload_n hx hb dX7_changes_43 rfl (lv_at hl 1 rfl) ?_
  refine lv_iadd hx hb dX7_changes_44 ?_
  refine rc_topi 8 (by decide) ?_
  refine rc_put hx hb hown hAm hw lyX7 tyX7 tyX7_ok nmX7 0 rfl rfl 6 (by decide) qw_866 (fun _ h9 => h9) rfl rfl (by decide +kernel) (Nat.le_of_ble_eq_true rfl) [(h0, .inr (12, [.int 0, .ref h1, .ref h2, .ref h3, .ref h4, .ref h5, .int 8, .int 3, .int 50, .int (-1), .int (-1), .int (-1), .int (-1), .int 0, .int 100, .int 1000, .long 0]))] rfl dX7_changes_45 (fun H locs hw => ?_)
  refine lv_aload_n hx hb dX7_changes_48 rfl (lv_at hl 0 rfl) ?_
  refine rc_get (v := .int 8) hx hb hown hAm hw lyX7 0 rfl rfl 6 (by decide) qw_866 (fun _ h9 => h9) rfl dX7_changes_49 ?_
  exact rc_iret (v := 8) hx hb hr hlocks hw [(h0, .inr (12, [.int 0, .ref h1, .ref h2, .ref h3, .ref h4, .ref h5, .int 8, .int 3, .int 50, .int (-1), .int (-1), .int (-1), .int (-1), .int 0, .int 100, .int 1000, .long 0]))] (⟨rfl, rfl⟩) [0] rfl (by decide) (Nat.le_of_ble_eq_true rfl) (Nat.le_of_ble_eq_true rfl) dX7_changes_52
set_option maxHeartbeats 4000000 in
set_option maxRecDepth 100000 in
theorem cw_X7_thrown_10 (l : Launch) (E : rc_E) (sz : Nat) (h0 : Nat) (h1 : Nat) (h2 : Nat) (h3 : Nat) (h4 : Nat) (h5 : Nat) : rc_Mi l yX7_thrown [Cond.code yX7_thrown cX7_thrown 1 (some FieldType.int)] { frames := 0, cells := 0, slots := 0, locals := 0 } E [.ref h0] [(h0, .inr (12, [.int 0, .ref h1, .ref h2, .ref h3, .ref h4, .ref h5, .int 8, .int 3, .int 50, .int (-1), .int (-1), .int (-1), .int (-1), .int 0, .int 100, .int 1000, .long 0]))] sz (S := va_W) (fun (r : Int32) (u : va_W) => (0 = r ∧ u = [(h0, .inr (12, [.int 0, .ref h1, .ref h2, .ref h3, .ref h4, .ref h5, .int 8, .int 3, .int 50, .int (-1), .int (-1), .int (-1), .int (-1), .int 0, .int 100, .int 1000, .long 0]))])) (fun u => u) 0 0 := by
  refine rc_ini (cc := cX7_thrown) (maxL := 1) (ret := (some FieldType.int)) (by decide) rfl (Nat.le_of_ble_eq_true rfl) ?_
  intro p e s m args below meth c ls A hx hb hr hml _ hown hlocks hin hA hAm hw hl
  have hown : s.vm.findClass RX7 = some m.cls := hown
  have hl : lv_has ls 1 [(0, .ref h0)] := hl
  refine lv_aload_n hx hb dX7_thrown_0 rfl (lv_at hl 0 rfl) ?_
  refine rc_get (v := .int 0) hx hb hown hAm hw lyX7 0 rfl rfl 0 (by decide) qw_860 (fun _ h9 => h9) rfl dX7_thrown_1 ?_
  exact rc_iret (v := 0) hx hb hr hlocks hw [(h0, .inr (12, [.int 0, .ref h1, .ref h2, .ref h3, .ref h4, .ref h5, .int 8, .int 3, .int 50, .int (-1), .int (-1), .int (-1), .int (-1), .int 0, .int 100, .int 1000, .long 0]))] (⟨rfl, rfl⟩) [0] rfl (by decide) (Nat.le_of_ble_eq_true rfl) (Nat.le_of_ble_eq_true rfl) dX7_thrown_4
set_option maxHeartbeats 4000000 in
set_option maxRecDepth 100000 in
theorem cw_X7_is_22 (l : Launch) (E : rc_E) (sz : Nat) : rc_Mi l yX7_is [Cond.code yX7_is cX7_is 3 (some FieldType.boolean)] { frames := 0, cells := 0, slots := 0, locals := 0 } E [.int 8, .int 1, .int 39] [] sz (S := va_W) (fun (r : Int32) (u : va_W) => (1 = r ∧ u = [])) (fun u => u) 0 0 := by
  refine rc_ini (cc := cX7_is) (maxL := 3) (ret := (some FieldType.boolean)) (by decide) rfl (Nat.le_of_ble_eq_true rfl) ?_
  intro p e s m args below meth c ls A hx hb hr hml _ hown hlocks hin hA hAm hw hl
  have hown : s.vm.findClass RX7 = some m.cls := hown
  have hl : lv_has ls 3 [(0, .int 8), (1, .int 1), (2, .int 39)] := hl
  refine lv_iload_n hx hb dX7_is_0 rfl (lv_at hl 0 rfl) ?_
  refine lv_iload_n hx hb dX7_is_1 rfl (lv_at hl 1 rfl) ?_
  refine lv_icmp_lt (tgt := 14) hx hb dX7_is_2 (by decide) (fun c9 => absurd c9 (by decide)) (fun _ => ?_)
  refine lv_iload_n hx hb dX7_is_5 rfl (lv_at hl 0 rfl) ?_
  refine lv_iload_n hx hb dX7_is_6 rfl (lv_at hl 2 rfl) ?_
  refine lv_icmp_gt (tgt := 14) hx hb dX7_is_7 (by decide) (fun c9 => absurd c9 (by decide)) (fun _ => ?_)
  refine lv_iconst (v := 1) hx hb dX7_is_10 (by decide) ?_
  refine lv_goto (tgt := 15) hx hb dX7_is_11 (by decide) ?_
  exact rc_zret (v := 1) hx hb hr hlocks hw rfl [] (⟨rfl, rfl⟩) [] rfl (by decide) (Nat.le_of_ble_eq_true rfl) (Nat.le_of_ble_eq_true rfl) dX7_is_15
set_option maxHeartbeats 4000000 in
set_option maxRecDepth 100000 in
theorem cw_X7_changes_9 (l : Launch) (E : rc_E) (sz : Nat) (h0 : Nat) (h1 : Nat) (h2 : Nat) (h3 : Nat) (h4 : Nat) (h5 : Nat) : rc_Mi l yX7_changes [Cond.code yX7_changes cX7_changes 2 (some FieldType.int)] { frames := 1, cells := 0, slots := 0, locals := 22 } E [.ref h0, .int 8] [(h0, .inr (12, [.int 0, .ref h1, .ref h2, .ref h3, .ref h4, .ref h5, .int 1, .int 3, .int 50, .int (-1), .int (-1), .int (-1), .int (-1), .int 0, .int 100, .int 1000, .long 0]))] sz (S := va_W) (fun (r : Int32) (u : va_W) => (9 = r ∧ u = [(h0, .inr (12, [.int 0, .ref h1, .ref h2, .ref h3, .ref h4, .ref h5, .int 9, .int 3, .int 50, .int (-1), .int (-1), .int (-1), .int (-1), .int 0, .int 100, .int 1000, .long 0]))])) (fun u => u) 0 0 := by
  refine rc_ini (cc := cX7_changes) (maxL := 2) (ret := (some FieldType.int)) (by decide) rfl (Nat.le_of_ble_eq_true rfl) ?_
  intro p e s m args below meth c ls A hx hb hr hml _ hown hlocks hin hA hAm hw hl
  have hown : s.vm.findClass RX7 = some m.cls := hown
  have hl : lv_has ls 2 [(0, .ref h0), (1, .int 8)] := hl
  refine lv_aload_n hx hb dX7_changes_0 rfl (lv_at hl 0 rfl) ?_
  refine lv_iconst (v := 0) hx hb dX7_changes_1 (by decide) ?_
  refine rc_put hx hb hown hAm hw lyX7 tyX7 tyX7_ok nmX7 0 rfl rfl 0 (by decide) qw_860 (fun _ h9 => h9) rfl rfl (by decide +kernel) (Nat.le_of_ble_eq_true rfl) [(h0, .inr (12, [.int 0, .ref h1, .ref h2, .ref h3, .ref h4, .ref h5, .int 1, .int 3, .int 50, .int (-1), .int (-1), .int (-1), .int (-1), .int 0, .int 100, .int 1000, .long 0]))] rfl dX7_changes_2 (fun H locs hw => ?_)
  refine lv_iload_n hx hb dX7_changes_5 rfl (lv_at hl 1 rfl) ?_
  refine lv_iconst (v := 1) hx hb dX7_changes_6 (by decide) ?_
  refine lv_bipush (v := 39) hx hb dX7_changes_7 (by decide) ?_
  refine rc_calli (wr := [(h0, .inr (12, [.int 0, .ref h1, .ref h2, .ref h3, .ref h4, .ref h5, .int 1, .int 3, .int 50, .int (-1), .int (-1), .int (-1), .int (-1), .int 0, .int 100, .int 1000, .long 0]))]) (va_runS (As := [.int 8, .int 1, .int 39]) (rest := []) (Ts := []) ⟨hx, hb, hml, hown, fun _ h9 => absurd h9 List.not_mem_nil⟩ (cw_X7_is_22 l E _) (rc_cwS hAm qw_921 qw_13 qw_923 qw_922 rfl rfl hd_X7_is ⟨Nat.le_of_ble_eq_true rfl, Nat.le_of_ble_eq_true rfl⟩) (rc_preS hAm hA hw [] rfl rfl) rfl rfl hl.1 rfl (lv_room (Nat.le_of_ble_eq_true rfl)) dX7_changes_9 ⟨Nat.le_of_ble_eq_true rfl, Nat.le_of_ble_eq_true rfl⟩) hA hw [] [0] rfl rfl rfl (by decide) (fun r_1 u_2 H locs hp hw => ?_)
  obtain ⟨rfl, rfl⟩ := hp
  have hw : rc_W E A s [(h0, .inr (12, [.int 0, .ref h1, .ref h2, .ref h3, .ref h4, .ref h5, .int 1, .int 3, .int 50, .int (-1), .int (-1), .int (-1), .int (-1), .int 0, .int 100, .int 1000, .long 0]))] H locs := hw
  refine lv_if_ne (tgt := 21) hx hb dX7_changes_12 (by decide) (fun _ => ?_) (fun c9 => absurd c9 (by decide))
  refine lv_aload_n hx hb dX7_changes_21 rfl (lv_at hl 0 rfl) ?_
  refine rc_get (v := .int 1) hx hb hown hAm hw lyX7 0 rfl rfl 6 (by decide) qw_866 (fun _ h9 => h9) rfl dX7_changes_22 ?_
  refine lv_iload_n hx hb dX7_changes_25 rfl (lv_at hl 1 rfl) ?_
  refine lv_iadd hx hb dX7_changes_26 ?_
  refine rc_topi 9 (by decide) ?_
  refine lv_bipush (v := 40) hx hb dX7_changes_27 (by decide) ?_
  refine lv_icmp_le (tgt := 38) hx hb dX7_changes_29 (by decide) (fun _ => ?_) (fun c9 => absurd (by decide) c9)
  refine lv_aload_n hx hb dX7_changes_38 rfl (lv_at hl 0 rfl) ?_
  refine lv_dup hx hb dX7_changes_39 rfl ?_
  refine rc_get (v := .int 1) hx hb hown hAm hw lyX7 0 rfl rfl 6 (by decide) qw_866 (fun _ h9 => h9) rfl dX7_changes_40 ?_
  refine lv_iload_n hx hb dX7_changes_43 rfl (lv_at hl 1 rfl) ?_
  refine lv_iadd hx hb dX7_changes_44 ?_
  refine rc_topi 9 (by decide) ?_
  refine rc_put hx hb hown hAm hw lyX7 tyX7 tyX7_ok nmX7 0 rfl rfl 6 (by decide) qw_866 (fun _ h9 => h9) rfl rfl (by decide +kernel) (Nat.le_of_ble_eq_true rfl) [(h0, .inr (12, [.int 0, .ref h1, .ref h2, .ref h3, .ref h4, .ref h5, .int 9, .int 3, .int 50, .int (-1), .int (-1), .int (-1), .int (-1), .int 0, .int 100, .int 1000, .long 0]))] rfl dX7_changes_45 (fun H locs hw => ?_)
  refine lv_aload_n hx hb dX7_changes_48 rfl (lv_at hl 0 rfl) ?_
  refine rc_get (v := .int 9) hx hb hown hAm hw lyX7 0 rfl rfl 6 (by decide) qw_866 (fun _ h9 => h9) rfl dX7_changes_49 ?_
  exact rc_iret (v := 9) hx hb hr hlocks hw [(h0, .inr (12, [.int 0, .ref h1, .ref h2, .ref h3, .ref h4, .ref h5, .int 9, .int 3, .int 50, .int (-1), .int (-1), .int (-1), .int (-1), .int 0, .int 100, .int 1000, .long 0]))] (⟨rfl, rfl⟩) [0] rfl (by decide) (Nat.le_of_ble_eq_true rfl) (Nat.le_of_ble_eq_true rfl) dX7_changes_52
set_option maxHeartbeats 4000000 in
set_option maxRecDepth 100000 in
theorem cw_X7_thrown_11 (l : Launch) (E : rc_E) (sz : Nat) (h0 : Nat) (h1 : Nat) (h2 : Nat) (h3 : Nat) (h4 : Nat) (h5 : Nat) : rc_Mi l yX7_thrown [Cond.code yX7_thrown cX7_thrown 1 (some FieldType.int)] { frames := 0, cells := 0, slots := 0, locals := 0 } E [.ref h0] [(h0, .inr (12, [.int 0, .ref h1, .ref h2, .ref h3, .ref h4, .ref h5, .int 9, .int 3, .int 50, .int (-1), .int (-1), .int (-1), .int (-1), .int 0, .int 100, .int 1000, .long 0]))] sz (S := va_W) (fun (r : Int32) (u : va_W) => (0 = r ∧ u = [(h0, .inr (12, [.int 0, .ref h1, .ref h2, .ref h3, .ref h4, .ref h5, .int 9, .int 3, .int 50, .int (-1), .int (-1), .int (-1), .int (-1), .int 0, .int 100, .int 1000, .long 0]))])) (fun u => u) 0 0 := by
  refine rc_ini (cc := cX7_thrown) (maxL := 1) (ret := (some FieldType.int)) (by decide) rfl (Nat.le_of_ble_eq_true rfl) ?_
  intro p e s m args below meth c ls A hx hb hr hml _ hown hlocks hin hA hAm hw hl
  have hown : s.vm.findClass RX7 = some m.cls := hown
  have hl : lv_has ls 1 [(0, .ref h0)] := hl
  refine lv_aload_n hx hb dX7_thrown_0 rfl (lv_at hl 0 rfl) ?_
  refine rc_get (v := .int 0) hx hb hown hAm hw lyX7 0 rfl rfl 0 (by decide) qw_860 (fun _ h9 => h9) rfl dX7_thrown_1 ?_
  exact rc_iret (v := 0) hx hb hr hlocks hw [(h0, .inr (12, [.int 0, .ref h1, .ref h2, .ref h3, .ref h4, .ref h5, .int 9, .int 3, .int 50, .int (-1), .int (-1), .int (-1), .int (-1), .int 0, .int 100, .int 1000, .long 0]))] (⟨rfl, rfl⟩) [0] rfl (by decide) (Nat.le_of_ble_eq_true rfl) (Nat.le_of_ble_eq_true rfl) dX7_thrown_4
set_option maxHeartbeats 4000000 in
set_option maxRecDepth 100000 in
theorem cw_X7_is_23 (l : Launch) (E : rc_E) (sz : Nat) : rc_Mi l yX7_is [Cond.code yX7_is cX7_is 3 (some FieldType.boolean)] { frames := 0, cells := 0, slots := 0, locals := 0 } E [.int 9, .int 1, .int 39] [] sz (S := va_W) (fun (r : Int32) (u : va_W) => (1 = r ∧ u = [])) (fun u => u) 0 0 := by
  refine rc_ini (cc := cX7_is) (maxL := 3) (ret := (some FieldType.boolean)) (by decide) rfl (Nat.le_of_ble_eq_true rfl) ?_
  intro p e s m args below meth c ls A hx hb hr hml _ hown hlocks hin hA hAm hw hl
  have hown : s.vm.findClass RX7 = some m.cls := hown
  have hl : lv_has ls 3 [(0, .int 9), (1, .int 1), (2, .int 39)] := hl
  refine lv_iload_n hx hb dX7_is_0 rfl (lv_at hl 0 rfl) ?_
  refine lv_iload_n hx hb dX7_is_1 rfl (lv_at hl 1 rfl) ?_
  refine lv_icmp_lt (tgt := 14) hx hb dX7_is_2 (by decide) (fun c9 => absurd c9 (by decide)) (fun _ => ?_)
  refine lv_iload_n hx hb dX7_is_5 rfl (lv_at hl 0 rfl) ?_
  refine lv_iload_n hx hb dX7_is_6 rfl (lv_at hl 2 rfl) ?_
  refine lv_icmp_gt (tgt := 14) hx hb dX7_is_7 (by decide) (fun c9 => absurd c9 (by decide)) (fun _ => ?_)
  refine lv_iconst (v := 1) hx hb dX7_is_10 (by decide) ?_
  refine lv_goto (tgt := 15) hx hb dX7_is_11 (by decide) ?_
  exact rc_zret (v := 1) hx hb hr hlocks hw rfl [] (⟨rfl, rfl⟩) [] rfl (by decide) (Nat.le_of_ble_eq_true rfl) (Nat.le_of_ble_eq_true rfl) dX7_is_15
set_option maxHeartbeats 4000000 in
set_option maxRecDepth 100000 in
theorem cw_X7_changes_10 (l : Launch) (E : rc_E) (sz : Nat) (h0 : Nat) (h1 : Nat) (h2 : Nat) (h3 : Nat) (h4 : Nat) (h5 : Nat) : rc_Mi l yX7_changes [Cond.code yX7_changes cX7_changes 2 (some FieldType.int)] { frames := 1, cells := 0, slots := 0, locals := 22 } E [.ref h0, .int 9] [(h0, .inr (12, [.int 0, .ref h1, .ref h2, .ref h3, .ref h4, .ref h5, .int 1, .int 3, .int 50, .int (-1), .int (-1), .int (-1), .int (-1), .int 0, .int 100, .int 1000, .long 0]))] sz (S := va_W) (fun (r : Int32) (u : va_W) => (10 = r ∧ u = [(h0, .inr (12, [.int 0, .ref h1, .ref h2, .ref h3, .ref h4, .ref h5, .int 10, .int 3, .int 50, .int (-1), .int (-1), .int (-1), .int (-1), .int 0, .int 100, .int 1000, .long 0]))])) (fun u => u) 0 0 := by
  refine rc_ini (cc := cX7_changes) (maxL := 2) (ret := (some FieldType.int)) (by decide) rfl (Nat.le_of_ble_eq_true rfl) ?_
  intro p e s m args below meth c ls A hx hb hr hml _ hown hlocks hin hA hAm hw hl
  have hown : s.vm.findClass RX7 = some m.cls := hown
  have hl : lv_has ls 2 [(0, .ref h0), (1, .int 9)] := hl
  refine lv_aload_n hx hb dX7_changes_0 rfl (lv_at hl 0 rfl) ?_
  refine lv_iconst (v := 0) hx hb dX7_changes_1 (by decide) ?_
  refine rc_put hx hb hown hAm hw lyX7 tyX7 tyX7_ok nmX7 0 rfl rfl 0 (by decide) qw_860 (fun _ h9 => h9) rfl rfl (by decide +kernel) (Nat.le_of_ble_eq_true rfl) [(h0, .inr (12, [.int 0, .ref h1, .ref h2, .ref h3, .ref h4, .ref h5, .int 1, .int 3, .int 50, .int (-1), .int (-1), .int (-1), .int (-1), .int 0, .int 100, .int 1000, .long 0]))] rfl dX7_changes_2 (fun H locs hw => ?_)
  refine lv_iload_n hx hb dX7_changes_5 rfl (lv_at hl 1 rfl) ?_
  refine lv_iconst (v := 1) hx hb dX7_changes_6 (by decide) ?_
  refine lv_bipush (v := 39) hx hb dX7_changes_7 (by decide) ?_
  refine rc_calli (wr := [(h0, .inr (12, [.int 0, .ref h1, .ref h2, .ref h3, .ref h4, .ref h5, .int 1, .int 3, .int 50, .int (-1), .int (-1), .int (-1), .int (-1), .int 0, .int 100, .int 1000, .long 0]))]) (va_runS (As := [.int 9, .int 1, .int 39]) (rest := []) (Ts := []) ⟨hx, hb, hml, hown, fun _ h9 => absurd h9 List.not_mem_nil⟩ (cw_X7_is_23 l E _) (rc_cwS hAm qw_921 qw_13 qw_923 qw_922 rfl rfl hd_X7_is ⟨Nat.le_of_ble_eq_true rfl, Nat.le_of_ble_eq_true rfl⟩) (rc_preS hAm hA hw [] rfl rfl) rfl rfl hl.1 rfl (lv_room (Nat.le_of_ble_eq_true rfl)) dX7_changes_9 ⟨Nat.le_of_ble_eq_true rfl, Nat.le_of_ble_eq_true rfl⟩) hA hw [] [0] rfl rfl rfl (by decide) (fun r_1 u_2 H locs hp hw => ?_)
  obtain ⟨rfl, rfl⟩ := hp
  have hw : rc_W E A s [(h0, .inr (12, [.int 0, .ref h1, .ref h2, .ref h3, .ref h4, .ref h5, .int 1, .int 3, .int 50, .int (-1), .int (-1), .int (-1), .int (-1), .int 0, .int 100, .int 1000, .long 0]))] H locs := hw
  refine lv_if_ne (tgt := 21) hx hb dX7_changes_12 (by decide) (fun _ => ?_) (fun c9 => absurd c9 (by decide))
  refine lv_aload_n hx hb dX7_changes_21 rfl (lv_at hl 0 rfl) ?_
  refine rc_get (v := .int 1) hx hb hown hAm hw lyX7 0 rfl rfl 6 (by decide) qw_866 (fun _ h9 => h9) rfl dX7_changes_22 ?_
  refine lv_iload_n hx hb dX7_changes_25 rfl (lv_at hl 1 rfl) ?_
  refine lv_iadd hx hb dX7_changes_26 ?_
  refine rc_topi 10 (by decide) ?_
  refine lv_bipush (v := 40) hx hb dX7_changes_27 (by decide) ?_
  refine lv_icmp_le (tgt := 38) hx hb dX7_changes_29 (by decide) (fun _ => ?_) (fun c9 => absurd (by decide) c9)
  refine lv_aload_n hx hb dX7_changes_38 rfl (lv_at hl 0 rfl) ?_
  refine lv_dup hx hb dX7_changes_39 rfl ?_
  refine rc_get (v := .int 1) hx hb hown hAm hw lyX7 0 rfl rfl 6 (by decide) qw_866 (fun _ h9 => h9) rfl dX7_changes_40 ?_
  refine lv_iload_n hx hb dX7_changes_43 rfl (lv_at hl 1 rfl) ?_
  refine lv_iadd hx hb dX7_changes_44 ?_
  refine rc_topi 10 (by decide) ?_
  refine rc_put hx hb hown hAm hw lyX7 tyX7 tyX7_ok nmX7 0 rfl rfl 6 (by decide) qw_866 (fun _ h9 => h9) rfl rfl (by decide +kernel) (Nat.le_of_ble_eq_true rfl) [(h0, .inr (12, [.int 0, .ref h1, .ref h2, .ref h3, .ref h4, .ref h5, .int 10, .int 3, .int 50, .int (-1), .int (-1), .int (-1), .int (-1), .int 0, .int 100, .int 1000, .long 0]))] rfl dX7_changes_45 (fun H locs hw => ?_)
  refine lv_aload_n hx hb dX7_changes_48 rfl (lv_at hl 0 rfl) ?_
  refine rc_get (v := .int 10) hx hb hown hAm hw lyX7 0 rfl rfl 6 (by decide) qw_866 (fun _ h9 => h9) rfl dX7_changes_49 ?_
  exact rc_iret (v := 10) hx hb hr hlocks hw [(h0, .inr (12, [.int 0, .ref h1, .ref h2, .ref h3, .ref h4, .ref h5, .int 10, .int 3, .int 50, .int (-1), .int (-1), .int (-1), .int (-1), .int 0, .int 100, .int 1000, .long 0]))] (⟨rfl, rfl⟩) [0] rfl (by decide) (Nat.le_of_ble_eq_true rfl) (Nat.le_of_ble_eq_true rfl) dX7_changes_52
set_option maxHeartbeats 4000000 in
set_option maxRecDepth 100000 in
theorem cw_X7_thrown_12 (l : Launch) (E : rc_E) (sz : Nat) (h0 : Nat) (h1 : Nat) (h2 : Nat) (h3 : Nat) (h4 : Nat) (h5 : Nat) : rc_Mi l yX7_thrown [Cond.code yX7_thrown cX7_thrown 1 (some FieldType.int)] { frames := 0, cells := 0, slots := 0, locals := 0 } E [.ref h0] [(h0, .inr (12, [.int 0, .ref h1, .ref h2, .ref h3, .ref h4, .ref h5, .int 10, .int 3, .int 50, .int (-1), .int (-1), .int (-1), .int (-1), .int 0, .int 100, .int 1000, .long 0]))] sz (S := va_W) (fun (r : Int32) (u : va_W) => (0 = r ∧ u = [(h0, .inr (12, [.int 0, .ref h1, .ref h2, .ref h3, .ref h4, .ref h5, .int 10, .int 3, .int 50, .int (-1), .int (-1), .int (-1), .int (-1), .int 0, .int 100, .int 1000, .long 0]))])) (fun u => u) 0 0 := by
  refine rc_ini (cc := cX7_thrown) (maxL := 1) (ret := (some FieldType.int)) (by decide) rfl (Nat.le_of_ble_eq_true rfl) ?_
  intro p e s m args below meth c ls A hx hb hr hml _ hown hlocks hin hA hAm hw hl
  have hown : s.vm.findClass RX7 = some m.cls := hown
  have hl : lv_has ls 1 [(0, .ref h0)] := hl
  refine lv_aload_n hx hb dX7_thrown_0 rfl (lv_at hl 0 rfl) ?_
  refine rc_get (v := .int 0) hx hb hown hAm hw lyX7 0 rfl rfl 0 (by decide) qw_860 (fun _ h9 => h9) rfl dX7_thrown_1 ?_
  exact rc_iret (v := 0) hx hb hr hlocks hw [(h0, .inr (12, [.int 0, .ref h1, .ref h2, .ref h3, .ref h4, .ref h5, .int 10, .int 3, .int 50, .int (-1), .int (-1), .int (-1), .int (-1), .int 0, .int 100, .int 1000, .long 0]))] (⟨rfl, rfl⟩) [0] rfl (by decide) (Nat.le_of_ble_eq_true rfl) (Nat.le_of_ble_eq_true rfl) dX7_thrown_4
set_option maxHeartbeats 4000000 in
set_option maxRecDepth 100000 in
theorem cw_X7_is_24 (l : Launch) (E : rc_E) (sz : Nat) : rc_Mi l yX7_is [Cond.code yX7_is cX7_is 3 (some FieldType.boolean)] { frames := 0, cells := 0, slots := 0, locals := 0 } E [.int 10, .int 1, .int 39] [] sz (S := va_W) (fun (r : Int32) (u : va_W) => (1 = r ∧ u = [])) (fun u => u) 0 0 := by
  refine rc_ini (cc := cX7_is) (maxL := 3) (ret := (some FieldType.boolean)) (by decide) rfl (Nat.le_of_ble_eq_true rfl) ?_
  intro p e s m args below meth c ls A hx hb hr hml _ hown hlocks hin hA hAm hw hl
  have hown : s.vm.findClass RX7 = some m.cls := hown
  have hl : lv_has ls 3 [(0, .int 10), (1, .int 1), (2, .int 39)] := hl
  refine lv_iload_n hx hb dX7_is_0 rfl (lv_at hl 0 rfl) ?_
  refine lv_iload_n hx hb dX7_is_1 rfl (lv_at hl 1 rfl) ?_
  refine lv_icmp_lt (tgt := 14) hx hb dX7_is_2 (by decide) (fun c9 => absurd c9 (by decide)) (fun _ => ?_)
  refine lv_iload_n hx hb dX7_is_5 rfl (lv_at hl 0 rfl) ?_
  refine lv_iload_n hx hb dX7_is_6 rfl (lv_at hl 2 rfl) ?_
  refine lv_icmp_gt (tgt := 14) hx hb dX7_is_7 (by decide) (fun c9 => absurd c9 (by decide)) (fun _ => ?_)
  refine lv_iconst (v := 1) hx hb dX7_is_10 (by decide) ?_
  refine lv_goto (tgt := 15) hx hb dX7_is_11 (by decide) ?_
  exact rc_zret (v := 1) hx hb hr hlocks hw rfl [] (⟨rfl, rfl⟩) [] rfl (by decide) (Nat.le_of_ble_eq_true rfl) (Nat.le_of_ble_eq_true rfl) dX7_is_15
set_option maxHeartbeats 4000000 in
set_option maxRecDepth 100000 in
theorem cw_X7_changes_11 (l : Launch) (E : rc_E) (sz : Nat) (h0 : Nat) (h1 : Nat) (h2 : Nat) (h3 : Nat) (h4 : Nat) (h5 : Nat) : rc_Mi l yX7_changes [Cond.code yX7_changes cX7_changes 2 (some FieldType.int)] { frames := 1, cells := 0, slots := 0, locals := 22 } E [.ref h0, .int 10] [(h0, .inr (12, [.int 0, .ref h1, .ref h2, .ref h3, .ref h4, .ref h5, .int 1, .int 3, .int 50, .int (-1), .int (-1), .int (-1), .int (-1), .int 0, .int 100, .int 1000, .long 0]))] sz (S := va_W) (fun (r : Int32) (u : va_W) => (11 = r ∧ u = [(h0, .inr (12, [.int 0, .ref h1, .ref h2, .ref h3, .ref h4, .ref h5, .int 11, .int 3, .int 50, .int (-1), .int (-1), .int (-1), .int (-1), .int 0, .int 100, .int 1000, .long 0]))])) (fun u => u) 0 0 := by
  refine rc_ini (cc := cX7_changes) (maxL := 2) (ret := (some FieldType.int)) (by decide) rfl (Nat.le_of_ble_eq_true rfl) ?_
  intro p e s m args below meth c ls A hx hb hr hml _ hown hlocks hin hA hAm hw hl
  have hown : s.vm.findClass RX7 = some m.cls := hown
  have hl : lv_has ls 2 [(0, .ref h0), (1, .int 10)] := hl
  refine lv_aload_n hx hb dX7_changes_0 rfl (lv_at hl 0 rfl) ?_
  refine lv_iconst (v := 0) hx hb dX7_changes_1 (by decide) ?_
  refine rc_put hx hb hown hAm hw lyX7 tyX7 tyX7_ok nmX7 0 rfl rfl 0 (by decide) qw_860 (fun _ h9 => h9) rfl rfl (by decide +kernel) (Nat.le_of_ble_eq_true rfl) [(h0, .inr (12, [.int 0, .ref h1, .ref h2, .ref h3, .ref h4, .ref h5, .int 1, .int 3, .int 50, .int (-1), .int (-1), .int (-1), .int (-1), .int 0, .int 100, .int 1000, .long 0]))] rfl dX7_changes_2 (fun H locs hw => ?_)
  refine lv_iload_n hx hb dX7_changes_5 rfl (lv_at hl 1 rfl) ?_
  refine lv_iconst (v := 1) hx hb dX7_changes_6 (by decide) ?_
  refine lv_bipush (v := 39) hx hb dX7_changes_7 (by decide) ?_
  refine rc_calli (wr := [(h0, .inr (12, [.int 0, .ref h1, .ref h2, .ref h3, .ref h4, .ref h5, .int 1, .int 3, .int 50, .int (-1), .int (-1), .int (-1), .int (-1), .int 0, .int 100, .int 1000, .long 0]))]) (va_runS (As := [.int 10, .int 1, .int 39]) (rest := []) (Ts := []) ⟨hx, hb, hml, hown, fun _ h9 => absurd h9 List.not_mem_nil⟩ (cw_X7_is_24 l E _) (rc_cwS hAm qw_921 qw_13 qw_923 qw_922 rfl rfl hd_X7_is ⟨Nat.le_of_ble_eq_true rfl, Nat.le_of_ble_eq_true rfl⟩) (rc_preS hAm hA hw [] rfl rfl) rfl rfl hl.1 rfl (lv_room (Nat.le_of_ble_eq_true rfl)) dX7_changes_9 ⟨Nat.le_of_ble_eq_true rfl, Nat.le_of_ble_eq_true rfl⟩) hA hw [] [0] rfl rfl rfl (by decide) (fun r_1 u_2 H locs hp hw => ?_)
  obtain ⟨rfl, rfl⟩ := hp
  have hw : rc_W E A s [(h0, .inr (12, [.int 0, .ref h1, .ref h2, .ref h3, .ref h4, .ref h5, .int 1, .int 3, .int 50, .int (-1), .int (-1), .int (-1), .int (-1), .int 0, .int 100, .int 1000, .long 0]))] H locs := hw
  refine lv_if_ne (tgt := 21) hx hb dX7_changes_12 (by decide) (fun _ => ?_) (fun c9 => absurd c9 (by decide))
  refine lv_aload_n hx hb dX7_changes_21 rfl (lv_at hl 0 rfl) ?_
  refine rc_get (v := .int 1) hx hb hown hAm hw lyX7 0 rfl rfl 6 (by decide) qw_866 (fun _ h9 => h9) rfl dX7_changes_22 ?_
  refine lv_iload_n hx hb dX7_changes_25 rfl (lv_at hl 1 rfl) ?_
  refine lv_iadd hx hb dX7_changes_26 ?_
  refine rc_topi 11 (by decide) ?_
  refine lv_bipush (v := 40) hx hb dX7_changes_27 (by decide) ?_
  refine lv_icmp_le (tgt := 38) hx hb dX7_changes_29 (by decide) (fun _ => ?_) (fun c9 => absurd (by decide) c9)
  refine lv_aload_n hx hb dX7_changes_38 rfl (lv_at hl 0 rfl) ?_
  refine lv_dup hx hb dX7_changes_39 rfl ?_
  refine rc_get (v := .int 1) hx hb hown hAm hw lyX7 0 rfl rfl 6 (by decide) qw_866 (fun _ h9 => h9) rfl dX7_changes_40 ?_
  refine lv_iload_n hx hb dX7_changes_43 rfl (lv_at hl 1 rfl) ?_
  refine lv_iadd hx hb dX7_changes_44 ?_
  refine rc_topi 11 (by decide) ?_
  refine rc_put hx hb hown hAm hw lyX7 tyX7 tyX7_ok nmX7 0 rfl rfl 6 (by decide) qw_866 (fun _ h9 => h9) rfl rfl (by decide +kernel) (Nat.le_of_ble_eq_true rfl) [(h0, .inr (12, [.int 0, .ref h1, .ref h2, .ref h3, .ref h4, .ref h5, .int 11, .int 3, .int 50, .int (-1), .int (-1), .int (-1), .int (-1), .int 0, .int 100, .int 1000, .long 0]))] rfl dX7_changes_45 (fun H locs hw => ?_)
  refine lv_aload_n hx hb dX7_changes_48 rfl (lv_at hl 0 rfl) ?_
  refine rc_get (v := .int 11) hx hb hown hAm hw lyX7 0 rfl rfl 6 (by decide) qw_866 (fun _ h9 => h9) rfl dX7_changes_49 ?_
  exact rc_iret (v := 11) hx hb hr hlocks hw [(h0, .inr (12, [.int 0, .ref h1, .ref h2, .ref h3, .ref h4, .ref h5, .int 11, .int 3, .int 50, .int (-1), .int (-1), .int (-1), .int (-1), .int 0, .int 100, .int 1000, .long 0]))] (⟨rfl, rfl⟩) [0] rfl (by decide) (Nat.le_of_ble_eq_true rfl) (Nat.le_of_ble_eq_true rfl) dX7_changes_52
set_option maxHeartbeats 4000000 in
set_option maxRecDepth 100000 in
theorem cw_X7_thrown_13 (l : Launch) (E : rc_E) (sz : Nat) (h0 : Nat) (h1 : Nat) (h2 : Nat) (h3 : Nat) (h4 : Nat) (h5 : Nat) : rc_Mi l yX7_thrown [Cond.code yX7_thrown cX7_thrown 1 (some FieldType.int)] { frames := 0, cells := 0, slots := 0, locals := 0 } E [.ref h0] [(h0, .inr (12, [.int 0, .ref h1, .ref h2, .ref h3, .ref h4, .ref h5, .int 11, .int 3, .int 50, .int (-1), .int (-1), .int (-1), .int (-1), .int 0, .int 100, .int 1000, .long 0]))] sz (S := va_W) (fun (r : Int32) (u : va_W) => (0 = r ∧ u = [(h0, .inr (12, [.int 0, .ref h1, .ref h2, .ref h3, .ref h4, .ref h5, .int 11, .int 3, .int 50, .int (-1), .int (-1), .int (-1), .int (-1), .int 0, .int 100, .int 1000, .long 0]))])) (fun u => u) 0 0 := by
  refine rc_ini (cc := cX7_thrown) (maxL := 1) (ret := (some FieldType.int)) (by decide) rfl (Nat.le_of_ble_eq_true rfl) ?_
  intro p e s m args below meth c ls A hx hb hr hml _ hown hlocks hin hA hAm hw hl
  have hown : s.vm.findClass RX7 = some m.cls := hown
  have hl : lv_has ls 1 [(0, .ref h0)] := hl
  refine lv_aload_n hx hb dX7_thrown_0 rfl (lv_at hl 0 rfl) ?_
  refine rc_get (v := .int 0) hx hb hown hAm hw lyX7 0 rfl rfl 0 (by decide) qw_860 (fun _ h9 => h9) rfl dX7_thrown_1 ?_
  exact rc_iret (v := 0) hx hb hr hlocks hw [(h0, .inr (12, [.int 0, .ref h1, .ref h2, .ref h3, .ref h4, .ref h5, .int 11, .int 3, .int 50, .int (-1), .int (-1), .int (-1), .int (-1), .int 0, .int 100, .int 1000, .long 0]))] (⟨rfl, rfl⟩) [0] rfl (by decide) (Nat.le_of_ble_eq_true rfl) (Nat.le_of_ble_eq_true rfl) dX7_thrown_4
set_option maxHeartbeats 4000000 in
set_option maxRecDepth 100000 in
theorem cw_X7_is_25 (l : Launch) (E : rc_E) (sz : Nat) : rc_Mi l yX7_is [Cond.code yX7_is cX7_is 3 (some FieldType.boolean)] { frames := 0, cells := 0, slots := 0, locals := 0 } E [.int 11, .int 1, .int 39] [] sz (S := va_W) (fun (r : Int32) (u : va_W) => (1 = r ∧ u = [])) (fun u => u) 0 0 := by
  refine rc_ini (cc := cX7_is) (maxL := 3) (ret := (some FieldType.boolean)) (by decide) rfl (Nat.le_of_ble_eq_true rfl) ?_
  intro p e s m args below meth c ls A hx hb hr hml _ hown hlocks hin hA hAm hw hl
  have hown : s.vm.findClass RX7 = some m.cls := hown
  have hl : lv_has ls 3 [(0, .int 11), (1, .int 1), (2, .int 39)] := hl
  refine lv_iload_n hx hb dX7_is_0 rfl (lv_at hl 0 rfl) ?_
  refine lv_iload_n hx hb dX7_is_1 rfl (lv_at hl 1 rfl) ?_
  refine lv_icmp_lt (tgt := 14) hx hb dX7_is_2 (by decide) (fun c9 => absurd c9 (by decide)) (fun _ => ?_)
  refine lv_iload_n hx hb dX7_is_5 rfl (lv_at hl 0 rfl) ?_
  refine lv_iload_n hx hb dX7_is_6 rfl (lv_at hl 2 rfl) ?_
  refine lv_icmp_gt (tgt := 14) hx hb dX7_is_7 (by decide) (fun c9 => absurd c9 (by decide)) (fun _ => ?_)
  refine lv_iconst (v := 1) hx hb dX7_is_10 (by decide) ?_
  refine lv_goto (tgt := 15) hx hb dX7_is_11 (by decide) ?_
  exact rc_zret (v := 1) hx hb hr hlocks hw rfl [] (⟨rfl, rfl⟩) [] rfl (by decide) (Nat.le_of_ble_eq_true rfl) (Nat.le_of_ble_eq_true rfl) dX7_is_15
set_option maxHeartbeats 4000000 in
set_option maxRecDepth 100000 in
theorem cw_X7_changes_12 (l : Launch) (E : rc_E) (sz : Nat) (h0 : Nat) (h1 : Nat) (h2 : Nat) (h3 : Nat) (h4 : Nat) (h5 : Nat) : rc_Mi l yX7_changes [Cond.code yX7_changes cX7_changes 2 (some FieldType.int)] { frames := 1, cells := 0, slots := 0, locals := 22 } E [.ref h0, .int 11] [(h0, .inr (12, [.int 0, .ref h1, .ref h2, .ref h3, .ref h4, .ref h5, .int 1, .int 3, .int 50, .int (-1), .int (-1), .int (-1), .int (-1), .int 0, .int 100, .int 1000, .long 0]))] sz (S := va_W) (fun (r : Int32) (u : va_W) => (12 = r ∧ u = [(h0, .inr (12, [.int 0, .ref h1, .ref h2, .ref h3, .ref h4, .ref h5, .int 12, .int 3, .int 50, .int (-1), .int (-1), .int (-1), .int (-1), .int 0, .int 100, .int 1000, .long 0]))])) (fun u => u) 0 0 := by
  refine rc_ini (cc := cX7_changes) (maxL := 2) (ret := (some FieldType.int)) (by decide) rfl (Nat.le_of_ble_eq_true rfl) ?_
  intro p e s m args below meth c ls A hx hb hr hml _ hown hlocks hin hA hAm hw hl
  have hown : s.vm.findClass RX7 = some m.cls := hown
  have hl : lv_has ls 2 [(0, .ref h0), (1, .int 11)] := hl
  refine lv_aload_n hx hb dX7_changes_0 rfl (lv_at hl 0 rfl) ?_
  refine lv_iconst (v := 0) hx hb dX7_changes_1 (by decide) ?_
  refine rc_put hx hb hown hAm hw lyX7 tyX7 tyX7_ok nmX7 0 rfl rfl 0 (by decide) qw_860 (fun _ h9 => h9) rfl rfl (by decide +kernel) (Nat.le_of_ble_eq_true rfl) [(h0, .inr (12, [.int 0, .ref h1, .ref h2, .ref h3, .ref h4, .ref h5, .int 1, .int 3, .int 50, .int (-1), .int (-1), .int (-1), .int (-1), .int 0, .int 100, .int 1000, .long 0]))] rfl dX7_changes_2 (fun H locs hw => ?_)
  refine lv_iload_n hx hb dX7_changes_5 rfl (lv_at hl 1 rfl) ?_
  refine lv_iconst (v := 1) hx hb dX7_changes_6 (by decide) ?_
  refine lv_bipush (v := 39) hx hb dX7_changes_7 (by decide) ?_
  refine rc_calli (wr := [(h0, .inr (12, [.int 0, .ref h1, .ref h2, .ref h3, .ref h4, .ref h5, .int 1, .int 3, .int 50, .int (-1), .int (-1), .int (-1), .int (-1), .int 0, .int 100, .int 1000, .long 0]))]) (va_runS (As := [.int 11, .int 1, .int 39]) (rest := []) (Ts := []) ⟨hx, hb, hml, hown, fun _ h9 => absurd h9 List.not_mem_nil⟩ (cw_X7_is_25 l E _) (rc_cwS hAm qw_921 qw_13 qw_923 qw_922 rfl rfl hd_X7_is ⟨Nat.le_of_ble_eq_true rfl, Nat.le_of_ble_eq_true rfl⟩) (rc_preS hAm hA hw [] rfl rfl) rfl rfl hl.1 rfl (lv_room (Nat.le_of_ble_eq_true rfl)) dX7_changes_9 ⟨Nat.le_of_ble_eq_true rfl, Nat.le_of_ble_eq_true rfl⟩) hA hw [] [0] rfl rfl rfl (by decide) (fun r_1 u_2 H locs hp hw => ?_)
  obtain ⟨rfl, rfl⟩ := hp
  have hw : rc_W E A s [(h0, .inr (12, [.int 0, .ref h1, .ref h2, .ref h3, .ref h4, .ref h5, .int 1, .int 3, .int 50, .int (-1), .int (-1), .int (-1), .int (-1), .int 0, .int 100, .int 1000, .long 0]))] H locs := hw
  refine lv_if_ne (tgt := 21) hx hb dX7_changes_12 (by decide) (fun _ => ?_) (fun c9 => absurd c9 (by decide))
  refine lv_aload_n hx hb dX7_changes_21 rfl (lv_at hl 0 rfl) ?_
  refine rc_get (v := .int 1) hx hb hown hAm hw lyX7 0 rfl rfl 6 (by decide) qw_866 (fun _ h9 => h9) rfl dX7_changes_22 ?_
  refine lv_iload_n hx hb dX7_changes_25 rfl (lv_at hl 1 rfl) ?_
  refine lv_iadd hx hb dX7_changes_26 ?_
  refine rc_topi 12 (by decide) ?_
  refine lv_bipush (v := 40) hx hb dX7_changes_27 (by decide) ?_
  refine lv_icmp_le (tgt := 38) hx hb dX7_changes_29 (by decide) (fun _ => ?_) (fun c9 => absurd (by decide) c9)
  refine lv_aload_n hx hb dX7_changes_38 rfl (lv_at hl 0 rfl) ?_
  refine lv_dup hx hb dX7_changes_39 rfl ?_
  refine rc_get (v := .int 1) hx hb hown hAm hw lyX7 0 rfl rfl 6 (by decide) qw_866 (fun _ h9 => h9) rfl dX7_changes_40 ?_
  refine lv_iload_n hx hb dX7_changes_43 rfl (lv_at hl 1 rfl) ?_
  refine lv_iadd hx hb dX7_changes_44 ?_
  refine rc_topi 12 (by decide) ?_
  refine rc_put hx hb hown hAm hw lyX7 tyX7 tyX7_ok nmX7 0 rfl rfl 6 (by decide) qw_866 (fun _ h9 => h9) rfl rfl (by decide +kernel) (Nat.le_of_ble_eq_true rfl) [(h0, .inr (12, [.int 0, .ref h1, .ref h2, .ref h3, .ref h4, .ref h5, .int 12, .int 3, .int 50, .int (-1), .int (-1), .int (-1), .int (-1), .int 0, .int 100, .int 1000, .long 0]))] rfl dX7_changes_45 (fun H locs hw => ?_)
  refine lv_aload_n hx hb dX7_changes_48 rfl (lv_at hl 0 rfl) ?_
  refine rc_get (v := .int 12) hx hb hown hAm hw lyX7 0 rfl rfl 6 (by decide) qw_866 (fun _ h9 => h9) rfl dX7_changes_49 ?_
  exact rc_iret (v := 12) hx hb hr hlocks hw [(h0, .inr (12, [.int 0, .ref h1, .ref h2, .ref h3, .ref h4, .ref h5, .int 12, .int 3, .int 50, .int (-1), .int (-1), .int (-1), .int (-1), .int 0, .int 100, .int 1000, .long 0]))] (⟨rfl, rfl⟩) [0] rfl (by decide) (Nat.le_of_ble_eq_true rfl) (Nat.le_of_ble_eq_true rfl) dX7_changes_52
set_option maxHeartbeats 4000000 in
set_option maxRecDepth 100000 in
theorem cw_X7_thrown_14 (l : Launch) (E : rc_E) (sz : Nat) (h0 : Nat) (h1 : Nat) (h2 : Nat) (h3 : Nat) (h4 : Nat) (h5 : Nat) : rc_Mi l yX7_thrown [Cond.code yX7_thrown cX7_thrown 1 (some FieldType.int)] { frames := 0, cells := 0, slots := 0, locals := 0 } E [.ref h0] [(h0, .inr (12, [.int 0, .ref h1, .ref h2, .ref h3, .ref h4, .ref h5, .int 12, .int 3, .int 50, .int (-1), .int (-1), .int (-1), .int (-1), .int 0, .int 100, .int 1000, .long 0]))] sz (S := va_W) (fun (r : Int32) (u : va_W) => (0 = r ∧ u = [(h0, .inr (12, [.int 0, .ref h1, .ref h2, .ref h3, .ref h4, .ref h5, .int 12, .int 3, .int 50, .int (-1), .int (-1), .int (-1), .int (-1), .int 0, .int 100, .int 1000, .long 0]))])) (fun u => u) 0 0 := by
  refine rc_ini (cc := cX7_thrown) (maxL := 1) (ret := (some FieldType.int)) (by decide) rfl (Nat.le_of_ble_eq_true rfl) ?_
  intro p e s m args below meth c ls A hx hb hr hml _ hown hlocks hin hA hAm hw hl
  have hown : s.vm.findClass RX7 = some m.cls := hown
  have hl : lv_has ls 1 [(0, .ref h0)] := hl
  refine lv_aload_n hx hb dX7_thrown_0 rfl (lv_at hl 0 rfl) ?_
  refine rc_get (v := .int 0) hx hb hown hAm hw lyX7 0 rfl rfl 0 (by decide) qw_860 (fun _ h9 => h9) rfl dX7_thrown_1 ?_
  exact rc_iret (v := 0) hx hb hr hlocks hw [(h0, .inr (12, [.int 0, .ref h1, .ref h2, .ref h3, .ref h4, .ref h5, .int 12, .int 3, .int 50, .int (-1), .int (-1), .int (-1), .int (-1), .int 0, .int 100, .int 1000, .long 0]))] (⟨rfl, rfl⟩) [0] rfl (by decide) (Nat.le_of_ble_eq_true rfl) (Nat.le_of_ble_eq_true rfl) dX7_thrown_4
set_option maxHeartbeats 4000000 in
set_option maxRecDepth 100000 in
theorem cw_X7_is_26 (l : Launch) (E : rc_E) (sz : Nat) : rc_Mi l yX7_is [Cond.code yX7_is cX7_is 3 (some FieldType.boolean)] { frames := 0, cells := 0, slots := 0, locals := 0 } E [.int 12, .int 1, .int 39] [] sz (S := va_W) (fun (r : Int32) (u : va_W) => (1 = r ∧ u = [])) (fun u => u) 0 0 := by
  refine rc_ini (cc := cX7_is) (maxL := 3) (ret := (some FieldType.boolean)) (by decide) rfl (Nat.le_of_ble_eq_true rfl) ?_
  intro p e s m args below meth c ls A hx hb hr hml _ hown hlocks hin hA hAm hw hl
  have hown : s.vm.findClass RX7 = some m.cls := hown
  have hl : lv_has ls 3 [(0, .int 12), (1, .int 1), (2, .int 39)] := hl
  refine lv_iload_n hx hb dX7_is_0 rfl (lv_at hl 0 rfl) ?_
  refine lv_iload_n hx hb dX7_is_1 rfl (lv_at hl 1 rfl) ?_
  refine lv_icmp_lt (tgt := 14) hx hb dX7_is_2 (by decide) (fun c9 => absurd c9 (by decide)) (fun _ => ?_)
  refine lv_iload_n hx hb dX7_is_5 rfl (lv_at hl 0 rfl) ?_
  refine lv_iload_n hx hb dX7_is_6 rfl (lv_at hl 2 rfl) ?_
  refine lv_icmp_gt (tgt := 14) hx hb dX7_is_7 (by decide) (fun c9 => absurd c9 (by decide)) (fun _ => ?_)
  refine lv_iconst (v := 1) hx hb dX7_is_10 (by decide) ?_
  refine lv_goto (tgt := 15) hx hb dX7_is_11 (by decide) ?_
  exact rc_zret (v := 1) hx hb hr hlocks hw rfl [] (⟨rfl, rfl⟩) [] rfl (by decide) (Nat.le_of_ble_eq_true rfl) (Nat.le_of_ble_eq_true rfl) dX7_is_15
set_option maxHeartbeats 4000000 in
set_option maxRecDepth 100000 in
theorem cw_X7_changes_13 (l : Launch) (E : rc_E) (sz : Nat) (h0 : Nat) (h1 : Nat) (h2 : Nat) (h3 : Nat) (h4 : Nat) (h5 : Nat) : rc_Mi l yX7_changes [Cond.code yX7_changes cX7_changes 2 (some FieldType.int)] { frames := 1, cells := 0, slots := 0, locals := 22 } E [.ref h0, .int 12] [(h0, .inr (12, [.int 0, .ref h1, .ref h2, .ref h3, .ref h4, .ref h5, .int 1, .int 3, .int 50, .int (-1), .int (-1), .int (-1), .int (-1), .int 0, .int 100, .int 1000, .long 0]))] sz (S := va_W) (fun (r : Int32) (u : va_W) => (13 = r ∧ u = [(h0, .inr (12, [.int 0, .ref h1, .ref h2, .ref h3, .ref h4, .ref h5, .int 13, .int 3, .int 50, .int (-1), .int (-1), .int (-1), .int (-1), .int 0, .int 100, .int 1000, .long 0]))])) (fun u => u) 0 0 := by
  refine rc_ini (cc := cX7_changes) (maxL := 2) (ret := (some FieldType.int)) (by decide) rfl (Nat.le_of_ble_eq_true rfl) ?_
  intro p e s m args below meth c ls A hx hb hr hml _ hown hlocks hin hA hAm hw hl
  have hown : s.vm.findClass RX7 = some m.cls := hown
  have hl : lv_has ls 2 [(0, .ref h0), (1, .int 12)] := hl
  refine lv_aload_n hx hb dX7_changes_0 rfl (lv_at hl 0 rfl) ?_
  refine lv_iconst (v := 0) hx hb dX7_changes_1 (by decide) ?_
  refine rc_put hx hb hown hAm hw lyX7 tyX7 tyX7_ok nmX7 0 rfl rfl 0 (by decide) qw_860 (fun _ h9 => h9) rfl rfl (by decide +kernel) (Nat.le_of_ble_eq_true rfl) [(h0, .inr (12, [.int 0, .ref h1, .ref h2, .ref h3, .ref h4, .ref h5, .int 1, .int 3, .int 50, .int (-1), .int (-1), .int (-1), .int (-1), .int 0, .int 100, .int 1000, .long 0]))] rfl dX7_changes_2 (fun H locs hw => ?_)
  refine lv_iload_n hx hb dX7_changes_5 rfl (lv_at hl 1 rfl) ?_
  refine lv_iconst (v := 1) hx hb dX7_changes_6 (by decide) ?_
  refine lv_bipush (v := 39) hx hb dX7_changes_7 (by decide) ?_
  refine rc_calli (wr := [(h0, .inr (12, [.int 0, .ref h1, .ref h2, .ref h3, .ref h4, .ref h5, .int 1, .int 3, .int 50, .int (-1), .int (-1), .int (-1), .int (-1), .int 0, .int 100, .int 1000, .long 0]))]) (va_runS (As := [.int 12, .int 1, .int 39]) (rest := []) (Ts := []) ⟨hx, hb, hml, hown, fun _ h9 => absurd h9 List.not_mem_nil⟩ (cw_X7_is_26 l E _) (rc_cwS hAm qw_921 qw_13 qw_923 qw_922 rfl rfl hd_X7_is ⟨Nat.le_of_ble_eq_true rfl, Nat.le_of_ble_eq_true rfl⟩) (rc_preS hAm hA hw [] rfl rfl) rfl rfl hl.1 rfl (lv_room (Nat.le_of_ble_eq_true rfl)) dX7_changes_9 ⟨Nat.le_of_ble_eq_true rfl, Nat.le_of_ble_eq_true rfl⟩) hA hw [] [0] rfl rfl rfl (by decide) (fun r_1 u_2 H locs hp hw => ?_)
  obtain ⟨rfl, rfl⟩ := hp
  have hw : rc_W E A s [(h0, .inr (12, [.int 0, .ref h1, .ref h2, .ref h3, .ref h4, .ref h5, .int 1, .int 3, .int 50, .int (-1), .int (-1), .int (-1), .int (-1), .int 0, .int 100, .int 1000, .long 0]))] H locs := hw
  refine lv_if_ne (tgt := 21) hx hb dX7_changes_12 (by decide) (fun _ => ?_) (fun c9 => absurd c9 (by decide))
  refine lv_aload_n hx hb dX7_changes_21 rfl (lv_at hl 0 rfl) ?_
  refine rc_get (v := .int 1) hx hb hown hAm hw lyX7 0 rfl rfl 6 (by decide) qw_866 (fun _ h9 => h9) rfl dX7_changes_22 ?_
  refine lv_iload_n hx hb dX7_changes_25 rfl (lv_at hl 1 rfl) ?_
  refine lv_iadd hx hb dX7_changes_26 ?_
  refine rc_topi 13 (by decide) ?_
  refine lv_bipush (v := 40) hx hb dX7_changes_27 (by decide) ?_
  refine lv_icmp_le (tgt := 38) hx hb dX7_changes_29 (by decide) (fun _ => ?_) (fun c9 => absurd (by decide) c9)
  refine lv_aload_n hx hb dX7_changes_38 rfl (lv_at hl 0 rfl) ?_
  refine lv_dup hx hb dX7_changes_39 rfl ?_
  refine rc_get (v := .int 1) hx hb hown hAm hw lyX7 0 rfl rfl 6 (by decide) qw_866 (fun _ h9 => h9) rfl dX7_changes_40 ?_
  refine lv_iload_n hx hb dX7_changes_43 rfl (lv_at hl 1 rfl) ?_
  refine lv_iadd hx hb dX7_changes_44 ?_
  refine rc_topi 13 (by decide) ?_
  refine rc_put hx hb hown hAm hw lyX7 tyX7 tyX7_ok nmX7 0 rfl rfl 6 (by decide) qw_866 (fun _ h9 => h9) rfl rfl (by decide +kernel) (Nat.le_of_ble_eq_true rfl) [(h0, .inr (12, [.int 0, .ref h1, .ref h2, .ref h3, .ref h4, .ref h5, .int 13, .int 3, .int 50, .int (-1), .int (-1), .int (-1), .int (-1), .int 0, .int 100, .int 1000, .long 0]))] rfl dX7_changes_45 (fun H locs hw => ?_)
  refine lv_aload_n hx hb dX7_changes_48 rfl (lv_at hl 0 rfl) ?_
  refine rc_get (v := .int 13) hx hb hown hAm hw lyX7 0 rfl rfl 6 (by decide) qw_866 (fun _ h9 => h9) rfl dX7_changes_49 ?_
  exact rc_iret (v := 13) hx hb hr hlocks hw [(h0, .inr (12, [.int 0, .ref h1, .ref h2, .ref h3, .ref h4, .ref h5, .int 13, .int 3, .int 50, .int (-1), .int (-1), .int (-1), .int (-1), .int 0, .int 100, .int 1000, .long 0]))] (⟨rfl, rfl⟩) [0] rfl (by decide) (Nat.le_of_ble_eq_true rfl) (Nat.le_of_ble_eq_true rfl) dX7_changes_52
set_option maxHeartbeats 4000000 in
set_option maxRecDepth 100000 in
theorem cw_X7_thrown_15 (l : Launch) (E : rc_E) (sz : Nat) (h0 : Nat) (h1 : Nat) (h2 : Nat) (h3 : Nat) (h4 : Nat) (h5 : Nat) : rc_Mi l yX7_thrown [Cond.code yX7_thrown cX7_thrown 1 (some FieldType.int)] { frames := 0, cells := 0, slots := 0, locals := 0 } E [.ref h0] [(h0, .inr (12, [.int 0, .ref h1, .ref h2, .ref h3, .ref h4, .ref h5, .int 13, .int 3, .int 50, .int (-1), .int (-1), .int (-1), .int (-1), .int 0, .int 100, .int 1000, .long 0]))] sz (S := va_W) (fun (r : Int32) (u : va_W) => (0 = r ∧ u = [(h0, .inr (12, [.int 0, .ref h1, .ref h2, .ref h3, .ref h4, .ref h5, .int 13, .int 3, .int 50, .int (-1), .int (-1), .int (-1), .int (-1), .int 0, .int 100, .int 1000, .long 0]))])) (fun u => u) 0 0 := by
  refine rc_ini (cc := cX7_thrown) (maxL := 1) (ret := (some FieldType.int)) (by decide) rfl (Nat.le_of_ble_eq_true rfl) ?_
  intro p e s m args below meth c ls A hx hb hr hml _ hown hlocks hin hA hAm hw hl
  have hown : s.vm.findClass RX7 = some m.cls := hown
  have hl : lv_has ls 1 [(0, .ref h0)] := hl
  refine lv_aload_n hx hb dX7_thrown_0 rfl (lv_at hl 0 rfl) ?_
  refine rc_get (v := .int 0) hx hb hown hAm hw lyX7 0 rfl rfl 0 (by decide) qw_860 (fun _ h9 => h9) rfl dX7_thrown_1 ?_
  exact rc_iret (v := 0) hx hb hr hlocks hw [(h0, .inr (12, [.int 0, .ref h1, .ref h2, .ref h3, .ref h4, .ref h5, .int 13, .int 3, .int 50, .int (-1), .int (-1), .int (-1), .int (-1), .int 0, .int 100, .int 1000, .long 0]))] (⟨rfl, rfl⟩) [0] rfl (by decide) (Nat.le_of_ble_eq_true rfl) (Nat.le_of_ble_eq_true rfl) dX7_thrown_4
set_option maxHeartbeats 4000000 in
set_option maxRecDepth 100000 in
theorem cw_X7_is_27 (l : Launch) (E : rc_E) (sz : Nat) : rc_Mi l yX7_is [Cond.code yX7_is cX7_is 3 (some FieldType.boolean)] { frames := 0, cells := 0, slots := 0, locals := 0 } E [.int 13, .int 1, .int 39] [] sz (S := va_W) (fun (r : Int32) (u : va_W) => (1 = r ∧ u = [])) (fun u => u) 0 0 := by
  refine rc_ini (cc := cX7_is) (maxL := 3) (ret := (some FieldType.boolean)) (by decide) rfl (Nat.le_of_ble_eq_true rfl) ?_
  intro p e s m args below meth c ls A hx hb hr hml _ hown hlocks hin hA hAm hw hl
  have hown : s.vm.findClass RX7 = some m.cls := hown
  have hl : lv_has ls 3 [(0, .int 13), (1, .int 1), (2, .int 39)] := hl
  refine lv_iload_n hx hb dX7_is_0 rfl (lv_at hl 0 rfl) ?_
  refine lv_iload_n hx hb dX7_is_1 rfl (lv_at hl 1 rfl) ?_
  refine lv_icmp_lt (tgt := 14) hx hb dX7_is_2 (by decide) (fun c9 => absurd c9 (by decide)) (fun _ => ?_)
  refine lv_iload_n hx hb dX7_is_5 rfl (lv_at hl 0 rfl) ?_
  refine lv_iload_n hx hb dX7_is_6 rfl (lv_at hl 2 rfl) ?_
  refine lv_icmp_gt (tgt := 14) hx hb dX7_is_7 (by decide) (fun c9 => absurd c9 (by decide)) (fun _ => ?_)
  refine lv_iconst (v := 1) hx hb dX7_is_10 (by decide) ?_
  refine lv_goto (tgt := 15) hx hb dX7_is_11 (by decide) ?_
  exact rc_zret (v := 1) hx hb hr hlocks hw rfl [] (⟨rfl, rfl⟩) [] rfl (by decide) (Nat.le_of_ble_eq_true rfl) (Nat.le_of_ble_eq_true rfl) dX7_is_15
set_option maxHeartbeats 4000000 in
set_option maxRecDepth 100000 in
theorem cw_X7_changes_14 (l : Launch) (E : rc_E) (sz : Nat) (h0 : Nat) (h1 : Nat) (h2 : Nat) (h3 : Nat) (h4 : Nat) (h5 : Nat) : rc_Mi l yX7_changes [Cond.code yX7_changes cX7_changes 2 (some FieldType.int)] { frames := 1, cells := 0, slots := 0, locals := 22 } E [.ref h0, .int 13] [(h0, .inr (12, [.int 0, .ref h1, .ref h2, .ref h3, .ref h4, .ref h5, .int 1, .int 3, .int 50, .int (-1), .int (-1), .int (-1), .int (-1), .int 0, .int 100, .int 1000, .long 0]))] sz (S := va_W) (fun (r : Int32) (u : va_W) => (14 = r ∧ u = [(h0, .inr (12, [.int 0, .ref h1, .ref h2, .ref h3, .ref h4, .ref h5, .int 14, .int 3, .int 50, .int (-1), .int (-1), .int (-1), .int (-1), .int 0, .int 100, .int 1000, .long 0]))])) (fun u => u) 0 0 := by
  refine rc_ini (cc := cX7_changes) (maxL := 2) (ret := (some FieldType.int)) (by decide) rfl (Nat.le_of_ble_eq_true rfl) ?_
  intro p e s m args below meth c ls A hx hb hr hml _ hown hlocks hin hA hAm hw hl
  have hown : s.vm.findClass RX7 = some m.cls := hown
  have hl : lv_has ls 2 [(0, .ref h0), (1, .int 13)] := hl
  refine lv_aload_n hx hb dX7_changes_0 rfl (lv_at hl 0 rfl) ?_
  refine lv_iconst (v := 0) hx hb dX7_changes_1 (by decide) ?_
  refine rc_put hx hb hown hAm hw lyX7 tyX7 tyX7_ok nmX7 0 rfl rfl 0 (by decide) qw_860 (fun _ h9 => h9) rfl rfl (by decide +kernel) (Nat.le_of_ble_eq_true rfl) [(h0, .inr (12, [.int 0, .ref h1, .ref h2, .ref h3, .ref h4, .ref h5, .int 1, .int 3, .int 50, .int (-1), .int (-1), .int (-1), .int (-1), .int 0, .int 100, .int 1000, .long 0]))] rfl dX7_changes_2 (fun H locs hw => ?_)
  refine lv_iload_n hx hb dX7_changes_5 rfl (lv_at hl 1 rfl) ?_
  refine lv_iconst (v := 1) hx hb dX7_changes_6 (by decide) ?_
  refine lv_bipush (v := 39) hx hb dX7_changes_7 (by decide) ?_
  refine rc_calli (wr := [(h0, .inr (12, [.int 0, .ref h1, .ref h2, .ref h3, .ref h4, .ref h5, .int 1, .int 3, .int 50, .int (-1), .int (-1), .int (-1), .int (-1), .int 0, .int 100, .int 1000, .long 0]))]) (va_runS (As := [.int 13, .int 1, .int 39]) (rest := []) (Ts := []) ⟨hx, hb, hml, hown, fun _ h9 => absurd h9 List.not_mem_nil⟩ (cw_X7_is_27 l E _) (rc_cwS hAm qw_921 qw_13 qw_923 qw_922 rfl rfl hd_X7_is ⟨Nat.le_of_ble_eq_true rfl, Nat.le_of_ble_eq_true rfl⟩) (rc_preS hAm hA hw [] rfl rfl) rfl rfl hl.1 rfl (lv_room (Nat.le_of_ble_eq_true rfl)) dX7_changes_9 ⟨Nat.le_of_ble_eq_true rfl, Nat.le_of_ble_eq_true rfl⟩) hA hw [] [0] rfl rfl rfl (by decide) (fun r_1 u_2 H locs hp hw => ?_)
  obtain ⟨rfl, rfl⟩ := hp
  have hw : rc_W E A s [(h0, .inr (12, [.int 0, .ref h1, .ref h2, .ref h3, .ref h4, .ref h5, .int 1, .int 3, .int 50, .int (-1), .int (-1), .int (-1), .int (-1), .int 0, .int 100, .int 1000, .long 0]))] H locs := hw
  refine lv_if_ne (tgt := 21) hx hb dX7_changes_12 (by decide) (fun _ => ?_) (fun c9 => absurd c9 (by decide))
  refine lv_aload_n hx hb dX7_changes_21 rfl (lv_at hl 0 rfl) ?_
  refine rc_get (v := .int 1) hx hb hown hAm hw lyX7 0 rfl rfl 6 (by decide) qw_866 (fun _ h9 => h9) rfl dX7_changes_22 ?_
  refine lv_iload_n hx hb dX7_changes_25 rfl (lv_at hl 1 rfl) ?_
  refine lv_iadd hx hb dX7_changes_26 ?_
  refine rc_topi 14 (by decide) ?_
  refine lv_bipush (v := 40) hx hb dX7_changes_27 (by decide) ?_
  refine lv_icmp_le (tgt := 38) hx hb dX7_changes_29 (by decide) (fun _ => ?_) (fun c9 => absurd (by decide) c9)
  refine lv_aload_n hx hb dX7_changes_38 rfl (lv_at hl 0 rfl) ?_
  refine lv_dup hx hb dX7_changes_39 rfl ?_
  refine rc_get (v := .int 1) hx hb hown hAm hw lyX7 0 rfl rfl 6 (by decide) qw_866 (fun _ h9 => h9) rfl dX7_changes_40 ?_
  refine lv_iload_n hx hb dX7_changes_43 rfl (lv_at hl 1 rfl) ?_
  refine lv_iadd hx hb dX7_changes_44 ?_
  refine rc_topi 14 (by decide) ?_
  refine rc_put hx hb hown hAm hw lyX7 tyX7 tyX7_ok nmX7 0 rfl rfl 6 (by decide) qw_866 (fun _ h9 => h9) rfl rfl (by decide +kernel) (Nat.le_of_ble_eq_true rfl) [(h0, .inr (12, [.int 0, .ref h1, .ref h2, .ref h3, .ref h4, .ref h5, .int 14, .int 3, .int 50, .int (-1), .int (-1), .int (-1), .int (-1), .int 0, .int 100, .int 1000, .long 0]))] rfl dX7_changes_45 (fun H locs hw => ?_)
  refine lv_aload_n hx hb dX7_changes_48 rfl (lv_at hl 0 rfl) ?_
  refine rc_get (v := .int 14) hx hb hown hAm hw lyX7 0 rfl rfl 6 (by decide) qw_866 (fun _ h9 => h9) rfl dX7_changes_49 ?_
  exact rc_iret (v := 14) hx hb hr hlocks hw [(h0, .inr (12, [.int 0, .ref h1, .ref h2, .ref h3, .ref h4, .ref h5, .int 14, .int 3, .int 50, .int (-1), .int (-1), .int (-1), .int (-1), .int 0, .int 100, .int 1000, .long 0]))] (⟨rfl, rfl⟩) [0] rfl (by decide) (Nat.le_of_ble_eq_true rfl) (Nat.le_of_ble_eq_true rfl) dX7_changes_52
set_option maxHeartbeats 4000000 in
set_option maxRecDepth 100000 in
theorem cw_X7_thrown_16 (l : Launch) (E : rc_E) (sz : Nat) (h0 : Nat) (h1 : Nat) (h2 : Nat) (h3 : Nat) (h4 : Nat) (h5 : Nat) : rc_Mi l yX7_thrown [Cond.code yX7_thrown cX7_thrown 1 (some FieldType.int)] { frames := 0, cells := 0, slots := 0, locals := 0 } E [.ref h0] [(h0, .inr (12, [.int 0, .ref h1, .ref h2, .ref h3, .ref h4, .ref h5, .int 14, .int 3, .int 50, .int (-1), .int (-1), .int (-1), .int (-1), .int 0, .int 100, .int 1000, .long 0]))] sz (S := va_W) (fun (r : Int32) (u : va_W) => (0 = r ∧ u = [(h0, .inr (12, [.int 0, .ref h1, .ref h2, .ref h3, .ref h4, .ref h5, .int 14, .int 3, .int 50, .int (-1), .int (-1), .int (-1), .int (-1), .int 0, .int 100, .int 1000, .long 0]))])) (fun u => u) 0 0 := by
  refine rc_ini (cc := cX7_thrown) (maxL := 1) (ret := (some FieldType.int)) (by decide) rfl (Nat.le_of_ble_eq_true rfl) ?_
  intro p e s m args below meth c ls A hx hb hr hml _ hown hlocks hin hA hAm hw hl
  have hown : s.vm.findClass RX7 = some m.cls := hown
  have hl : lv_has ls 1 [(0, .ref h0)] := hl
  refine lv_aload_n hx hb dX7_thrown_0 rfl (lv_at hl 0 rfl) ?_
  refine rc_get (v := .int 0) hx hb hown hAm hw lyX7 0 rfl rfl 0 (by decide) qw_860 (fun _ h9 => h9) rfl dX7_thrown_1 ?_
  exact rc_iret (v := 0) hx hb hr hlocks hw [(h0, .inr (12, [.int 0, .ref h1, .ref h2, .ref h3, .ref h4, .ref h5, .int 14, .int 3, .int 50, .int (-1), .int (-1), .int (-1), .int (-1), .int 0, .int 100, .int 1000, .long 0]))] (⟨rfl, rfl⟩) [0] rfl (by decide) (Nat.le_of_ble_eq_true rfl) (Nat.le_of_ble_eq_true rfl) dX7_thrown_4
set_option maxHeartbeats 4000000 in
set_option maxRecDepth 100000 in
theorem cw_X7_is_28 (l : Launch) (E : rc_E) (sz : Nat) : rc_Mi l yX7_is [Cond.code yX7_is cX7_is 3 (some FieldType.boolean)] { frames := 0, cells := 0, slots := 0, locals := 0 } E [.int 14, .int 1, .int 39] [] sz (S := va_W) (fun (r : Int32) (u : va_W) => (1 = r ∧ u = [])) (fun u => u) 0 0 := by
  refine rc_ini (cc := cX7_is) (maxL := 3) (ret := (some FieldType.boolean)) (by decide) rfl (Nat.le_of_ble_eq_true rfl) ?_
  intro p e s m args below meth c ls A hx hb hr hml _ hown hlocks hin hA hAm hw hl
  have hown : s.vm.findClass RX7 = some m.cls := hown
  have hl : lv_has ls 3 [(0, .int 14), (1, .int 1), (2, .int 39)] := hl
  refine lv_iload_n hx hb dX7_is_0 rfl (lv_at hl 0 rfl) ?_
  refine lv_iload_n hx hb dX7_is_1 rfl (lv_at hl 1 rfl) ?_
  refine lv_icmp_lt (tgt := 14) hx hb dX7_is_2 (by decide) (fun c9 => absurd c9 (by decide)) (fun _ => ?_)
  refine lv_iload_n hx hb dX7_is_5 rfl (lv_at hl 0 rfl) ?_
  refine lv_iload_n hx hb dX7_is_6 rfl (lv_at hl 2 rfl) ?_
  refine lv_icmp_gt (tgt := 14) hx hb dX7_is_7 (by decide) (fun c9 => absurd c9 (by decide)) (fun _ => ?_)
  refine lv_iconst (v := 1) hx hb dX7_is_10 (by decide) ?_
  refine lv_goto (tgt := 15) hx hb dX7_is_11 (by decide) ?_
  exact rc_zret (v := 1) hx hb hr hlocks hw rfl [] (⟨rfl, rfl⟩) [] rfl (by decide) (Nat.le_of_ble_eq_true rfl) (Nat.le_of_ble_eq_true rfl) dX7_is_15
set_option maxHeartbeats 4000000 in
set_option maxRecDepth 100000 in
theorem cw_X7_changes_15 (l : Launch) (E : rc_E) (sz : Nat) (h0 : Nat) (h1 : Nat) (h2 : Nat) (h3 : Nat) (h4 : Nat) (h5 : Nat) : rc_Mi l yX7_changes [Cond.code yX7_changes cX7_changes 2 (some FieldType.int)] { frames := 1, cells := 0, slots := 0, locals := 22 } E [.ref h0, .int 14] [(h0, .inr (12, [.int 0, .ref h1, .ref h2, .ref h3, .ref h4, .ref h5, .int 1, .int 3, .int 50, .int (-1), .int (-1), .int (-1), .int (-1), .int 0, .int 100, .int 1000, .long 0]))] sz (S := va_W) (fun (r : Int32) (u : va_W) => (15 = r ∧ u = [(h0, .inr (12, [.int 0, .ref h1, .ref h2, .ref h3, .ref h4, .ref h5, .int 15, .int 3, .int 50, .int (-1), .int (-1), .int (-1), .int (-1), .int 0, .int 100, .int 1000, .long 0]))])) (fun u => u) 0 0 := by
  refine rc_ini (cc := cX7_changes) (maxL := 2) (ret := (some FieldType.int)) (by decide) rfl (Nat.le_of_ble_eq_true rfl) ?_
  intro p e s m args below meth c ls A hx hb hr hml _ hown hlocks hin hA hAm hw hl
  have hown : s.vm.findClass RX7 = some m.cls := hown
  have hl : lv_has ls 2 [(0, .ref h0), (1, .int 14)] := hl
  refine lv_aload_n hx hb dX7_changes_0 rfl (lv_at hl 0 rfl) ?_
  refine lv_iconst (v := 0) hx hb dX7_changes_1 (by decide) ?_
  refine rc_put hx hb hown hAm hw lyX7 tyX7 tyX7_ok nmX7 0 rfl rfl 0 (by decide) qw_860 (fun _ h9 => h9) rfl rfl (by decide +kernel) (Nat.le_of_ble_eq_true rfl) [(h0, .inr (12, [.int 0, .ref h1, .ref h2, .ref h3, .ref h4, .ref h5, .int 1, .int 3, .int 50, .int (-1), .int (-1), .int (-1), .int (-1), .int 0, .int 100, .int 1000, .long 0]))] rfl dX7_changes_2 (fun H locs hw => ?_)
  refine lv_iload_n hx hb dX7_changes_5 rfl (lv_at hl 1 rfl) ?_
  refine lv_iconst (v := 1) hx hb dX7_changes_6 (by decide) ?_
  refine lv_bipush (v := 39) hx hb dX7_changes_7 (by decide) ?_
  refine rc_calli (wr := [(h0, .inr (12, [.int 0, .ref h1, .ref h2, .ref h3, .ref h4, .ref h5, .int 1, .int 3, .int 50, .int (-1), .int (-1), .int (-1), .int (-1), .int 0, .int 100, .int 1000, .long 0]))]) (va_runS (As := [.int 14, .int 1, .int 39]) (rest := []) (Ts := []) ⟨hx, hb, hml, hown, fun _ h9 => absurd h9 List.not_mem_nil⟩ (cw_X7_is_28 l E _) (rc_cwS hAm qw_921 qw_13 qw_923 qw_922 rfl rfl hd_X7_is ⟨Nat.le_of_ble_eq_true rfl, Nat.le_of_ble_eq_true rfl⟩) (rc_preS hAm hA hw [] rfl rfl) rfl rfl hl.1 rfl (lv_room (Nat.le_of_ble_eq_true rfl)) dX7_changes_9 ⟨Nat.le_of_ble_eq_true rfl, Nat.le_of_ble_eq_true rfl⟩) hA hw [] [0] rfl rfl rfl (by decide) (fun r_1 u_2 H locs hp hw => ?_)
  obtain ⟨rfl, rfl⟩ := hp
  have hw : rc_W E A s [(h0, .inr (12, [.int 0, .ref h1, .ref h2, .ref h3, .ref h4, .ref h5, .int 1, .int 3, .int 50, .int (-1), .int (-1), .int (-1), .int (-1), .int 0, .int 100, .int 1000, .long 0]))] H locs := hw
  refine lv_if_ne (tgt := 21) hx hb dX7_changes_12 (by decide) (fun _ => ?_) (fun c9 => absurd c9 (by decide))
  refine lv_aload_n hx hb dX7_changes_21 rfl (lv_at hl 0 rfl) ?_
  refine rc_get (v := .int 1) hx hb hown hAm hw lyX7 0 rfl rfl 6 (by decide) qw_866 (fun _ h9 => h9) rfl dX7_changes_22 ?_
  refine lv_iload_n hx hb dX7_changes_25 rfl (lv_at hl 1 rfl) ?_
  refine lv_iadd hx hb dX7_changes_26 ?_
  refine rc_topi 15 (by decide) ?_
  refine lv_bipush (v := 40) hx hb dX7_changes_27 (by decide) ?_
  refine lv_icmp_le (tgt := 38) hx hb dX7_changes_29 (by decide) (fun _ => ?_) (fun c9 => absurd (by decide) c9)
  refine lv_aload_n hx hb dX7_changes_38 rfl (lv_at hl 0 rfl) ?_
  refine lv_dup hx hb dX7_changes_39 rfl ?_
  refine rc_get (v := .int 1) hx hb hown hAm hw lyX7 0 rfl rfl 6 (by decide) qw_866 (fun _ h9 => h9) rfl dX7_changes_40 ?_
  refine lv_iload_n hx hb dX7_changes_43 rfl (lv_at hl 1 rfl) ?_
  refine lv_iadd hx hb dX7_changes_44 ?_
  refine rc_topi 15 (by decide) ?_
  refine rc_put hx hb hown hAm hw lyX7 tyX7 tyX7_ok nmX7 0 rfl rfl 6 (by decide) qw_866 (fun _ h9 => h9) rfl rfl (by decide +kernel) (Nat.le_of_ble_eq_true rfl) [(h0, .inr (12, [.int 0, .ref h1, .ref h2, .ref h3, .ref h4, .ref h5, .int 15, .int 3, .int 50, .int (-1), .int (-1), .int (-1), .int (-1), .int 0, .int 100, .int 1000, .long 0]))] rfl dX7_changes_45 (fun H locs hw => ?_)
  refine lv_aload_n hx hb dX7_changes_48 rfl (lv_at hl 0 rfl) ?_
  refine rc_get (v := .int 15) hx hb hown hAm hw lyX7 0 rfl rfl 6 (by decide) qw_866 (fun _ h9 => h9) rfl dX7_changes_49 ?_
  exact rc_iret (v := 15) hx hb hr hlocks hw [(h0, .inr (12, [.int 0, .ref h1, .ref h2, .ref h3, .ref h4, .ref h5, .int 15, .int 3, .int 50, .int (-1), .int (-1), .int (-1), .int (-1), .int 0, .int 100, .int 1000, .long 0]))] (⟨rfl, rfl⟩) [0] rfl (by decide) (Nat.le_of_ble_eq_true rfl) (Nat.le_of_ble_eq_true rfl) dX7_changes_52
set_option maxHeartbeats 4000000 in
set_option maxRecDepth 100000 in
theorem cw_X7_thrown_17 (l : Launch) (E : rc_E) (sz : Nat) (h0 : Nat) (h1 : Nat) (h2 : Nat) (h3 : Nat) (h4 : Nat) (h5 : Nat) : rc_Mi l yX7_thrown [Cond.code yX7_thrown cX7_thrown 1 (some FieldType.int)] { frames := 0, cells := 0, slots := 0, locals := 0 } E [.ref h0] [(h0, .inr (12, [.int 0, .ref h1, .ref h2, .ref h3, .ref h4, .ref h5, .int 15, .int 3, .int 50, .int (-1), .int (-1), .int (-1), .int (-1), .int 0, .int 100, .int 1000, .long 0]))] sz (S := va_W) (fun (r : Int32) (u : va_W) => (0 = r ∧ u = [(h0, .inr (12, [.int 0, .ref h1, .ref h2, .ref h3, .ref h4, .ref h5, .int 15, .int 3, .int 50, .int (-1), .int (-1), .int (-1), .int (-1), .int 0, .int 100, .int 1000, .long 0]))])) (fun u => u) 0 0 := by
  refine rc_ini (cc := cX7_thrown) (maxL := 1) (ret := (some FieldType.int)) (by decide) rfl (Nat.le_of_ble_eq_true rfl) ?_
  intro p e s m args below meth c ls A hx hb hr hml _ hown hlocks hin hA hAm hw hl
  have hown : s.vm.findClass RX7 = some m.cls := hown
  have hl : lv_has ls 1 [(0, .ref h0)] := hl
  refine lv_aload_n hx hb dX7_thrown_0 rfl (lv_at hl 0 rfl) ?_
  refine rc_get (v := .int 0) hx hb hown hAm hw lyX7 0 rfl rfl 0 (by decide) qw_860 (fun _ h9 => h9) rfl dX7_thrown_1 ?_
  exact rc_iret (v := 0) hx hb hr hlocks hw [(h0, .inr (12, [.int 0, .ref h1, .ref h2, .ref h3, .ref h4, .ref h5, .int 15, .int 3, .int 50, .int (-1), .int (-1), .int (-1), .int (-1), .int 0, .int 100, .int 1000, .long 0]))] (⟨rfl, rfl⟩) [0] rfl (by decide) (Nat.le_of_ble_eq_true rfl) (Nat.le_of_ble_eq_true rfl) dX7_thrown_4
set_option maxHeartbeats 4000000 in
set_option maxRecDepth 100000 in
theorem cw_X7_is_29 (l : Launch) (E : rc_E) (sz : Nat) : rc_Mi l yX7_is [Cond.code yX7_is cX7_is 3 (some FieldType.boolean)] { frames := 0, cells := 0, slots := 0, locals := 0 } E [.int 15, .int 1, .int 39] [] sz (S := va_W) (fun (r : Int32) (u : va_W) => (1 = r ∧ u = [])) (fun u => u) 0 0 := by
  refine rc_ini (cc := cX7_is) (maxL := 3) (ret := (some FieldType.boolean)) (by decide) rfl (Nat.le_of_ble_eq_true rfl) ?_
  intro p e s m args below meth c ls A hx hb hr hml _ hown hlocks hin hA hAm hw hl
  have hown : s.vm.findClass RX7 = some m.cls := hown
  have hl : lv_has ls 3 [(0, .int 15), (1, .int 1), (2, .int 39)] := hl
  refine lv_iload_n hx hb dX7_is_0 rfl (lv_at hl 0 rfl) ?_
  refine lv_iload_n hx hb dX7_is_1 rfl (lv_at hl 1 rfl) ?_
  refine lv_icmp_lt (tgt := 14) hx hb dX7_is_2 (by decide) (fun c9 => absurd c9 (by decide)) (fun _ => ?_)
  refine lv_iload_n hx hb dX7_is_5 rfl (lv_at hl 0 rfl) ?_
  refine lv_iload_n hx hb dX7_is_6 rfl (lv_at hl 2 rfl) ?_
  refine lv_icmp_gt (tgt := 14) hx hb dX7_is_7 (by decide) (fun c9 => absurd c9 (by decide)) (fun _ => ?_)
  refine lv_iconst (v := 1) hx hb dX7_is_10 (by decide) ?_
  refine lv_goto (tgt := 15) hx hb dX7_is_11 (by decide) ?_
  exact rc_zret (v := 1) hx hb hr hlocks hw rfl [] (⟨rfl, rfl⟩) [] rfl (by decide) (Nat.le_of_ble_eq_true rfl) (Nat.le_of_ble_eq_true rfl) dX7_is_15
set_option maxHeartbeats 4000000 in
set_option maxRecDepth 100000 in
theorem cw_X7_changes_16 (l : Launch) (E : rc_E) (sz : Nat) (h0 : Nat) (h1 : Nat) (h2 : Nat) (h3 : Nat) (h4 : Nat) (h5 : Nat) : rc_Mi l yX7_changes [Cond.code yX7_changes cX7_changes 2 (some FieldType.int)] { frames := 1, cells := 0, slots := 0, locals := 22 } E [.ref h0, .int 15] [(h0, .inr (12, [.int 0, .ref h1, .ref h2, .ref h3, .ref h4, .ref h5, .int 1, .int 3, .int 50, .int (-1), .int (-1), .int (-1), .int (-1), .int 0, .int 100, .int 1000, .long 0]))] sz (S := va_W) (fun (r : Int32) (u : va_W) => (16 = r ∧ u = [(h0, .inr (12, [.int 0, .ref h1, .ref h2, .ref h3, .ref h4, .ref h5, .int 16, .int 3, .int 50, .int (-1), .int (-1), .int (-1), .int (-1), .int 0, .int 100, .int 1000, .long 0]))])) (fun u => u) 0 0 := by
  refine rc_ini (cc := cX7_changes) (maxL := 2) (ret := (some FieldType.int)) (by decide) rfl (Nat.le_of_ble_eq_true rfl) ?_
  intro p e s m args below meth c ls A hx hb hr hml _ hown hlocks hin hA hAm hw hl
  have hown : s.vm.findClass RX7 = some m.cls := hown
  have hl : lv_has ls 2 [(0, .ref h0), (1, .int 15)] := hl
  refine lv_aload_n hx hb dX7_changes_0 rfl (lv_at hl 0 rfl) ?_
  refine lv_iconst (v := 0) hx hb dX7_changes_1 (by decide) ?_
  refine rc_put hx hb hown hAm hw lyX7 tyX7 tyX7_ok nmX7 0 rfl rfl 0 (by decide) qw_860 (fun _ h9 => h9) rfl rfl (by decide +kernel) (Nat.le_of_ble_eq_true rfl) [(h0, .inr (12, [.int 0, .ref h1, .ref h2, .ref h3, .ref h4, .ref h5, .int 1, .int 3, .int 50, .int (-1), .int (-1), .int (-1), .int (-1), .int 0, .int 100, .int 1000, .long 0]))] rfl dX7_changes_2 (fun H locs hw => ?_)
  refine lv_iload_n hx hb dX7_changes_5 rfl (lv_at hl 1 rfl) ?_
  refine lv_iconst (v := 1) hx hb dX7_changes_6 (by decide) ?_
  refine lv_bipush (v := 39) hx hb dX7_changes_7 (by decide) ?_
  refine rc_calli (wr := [(h0, .inr (12, [.int 0, .ref h1, .ref h2, .ref h3, .ref h4, .ref h5, .int 1, .int 3, .int 50, .int (-1), .int (-1), .int (-1), .int (-1), .int 0, .int 100, .int 1000, .long 0]))]) (va_runS (As := [.int 15, .int 1, .int 39]) (rest := []) (Ts := []) ⟨hx, hb, hml, hown, fun _ h9 => absurd h9 List.not_mem_nil⟩ (cw_X7_is_29 l E _) (rc_cwS hAm qw_921 qw_13 qw_923 qw_922 rfl rfl hd_X7_is ⟨Nat.le_of_ble_eq_true rfl, Nat.le_of_ble_eq_true rfl⟩) (rc_preS hAm hA hw [] rfl rfl) rfl rfl hl.1 rfl (lv_room (Nat.le_of_ble_eq_true rfl)) dX7_changes_9 ⟨Nat.le_of_ble_eq_true rfl, Nat.le_of_ble_eq_true rfl⟩) hA hw [] [0] rfl rfl rfl (by decide) (fun r_1 u_2 H locs hp hw => ?_)
  obtain ⟨rfl, rfl⟩ := hp
  have hw : rc_W E A s [(h0, .inr (12, [.int 0, .ref h1, .ref h2, .ref h3, .ref h4, .ref h5, .int 1, .int 3, .int 50, .int (-1), .int (-1), .int (-1), .int (-1), .int 0, .int 100, .int 1000, .long 0]))] H locs := hw
  refine lv_if_ne (tgt := 21) hx hb dX7_changes_12 (by decide) (fun _ => ?_) (fun c9 => absurd c9 (by decide))
  refine lv_aload_n hx hb dX7_changes_21 rfl (lv_at hl 0 rfl) ?_
  refine rc_get (v := .int 1) hx hb hown hAm hw lyX7 0 rfl rfl 6 (by decide) qw_866 (fun _ h9 => h9) rfl dX7_changes_22 ?_
  refine lv_iload_n hx hb dX7_changes_25 rfl (lv_at hl 1 rfl) ?_
  refine lv_iadd hx hb dX7_changes_26 ?_
  refine rc_topi 16 (by decide) ?_
  refine lv_bipush (v := 40) hx hb dX7_changes_27 (by decide) ?_
  refine lv_icmp_le (tgt := 38) hx hb dX7_changes_29 (by decide) (fun _ => ?_) (fun c9 => absurd (by decide) c9)
  refine lv_aload_n hx hb dX7_changes_38 rfl (lv_at hl 0 rfl) ?_
  refine lv_dup hx hb dX7_changes_39 rfl ?_
  refine rc_get (v := .int 1) hx hb hown hAm hw lyX7 0 rfl rfl 6 (by decide) qw_866 (fun _ h9 => h9) rfl dX7_changes_40 ?_
  refine lv_iload_n hx hb dX7_changes_43 rfl (lv_at hl 1 rfl) ?_
  refine lv_iadd hx hb dX7_changes_44 ?_
  refine rc_topi 16 (by decide) ?_
  refine rc_put hx hb hown hAm hw lyX7 tyX7 tyX7_ok nmX7 0 rfl rfl 6 (by decide) qw_866 (fun _ h9 => h9) rfl rfl (by decide +kernel) (Nat.le_of_ble_eq_true rfl) [(h0, .inr (12, [.int 0, .ref h1, .ref h2, .ref h3, .ref h4, .ref h5, .int 16, .int 3, .int 50, .int (-1), .int (-1), .int (-1), .int (-1), .int 0, .int 100, .int 1000, .long 0]))] rfl dX7_changes_45 (fun H locs hw => ?_)
  refine lv_aload_n hx hb dX7_changes_48 rfl (lv_at hl 0 rfl) ?_
  refine rc_get (v := .int 16) hx hb hown hAm hw lyX7 0 rfl rfl 6 (by decide) qw_866 (fun _ h9 => h9) rfl dX7_changes_49 ?_
  exact rc_iret (v := 16) hx hb hr hlocks hw [(h0, .inr (12, [.int 0, .ref h1, .ref h2, .ref h3, .ref h4, .ref h5, .int 16, .int 3, .int 50, .int (-1), .int (-1), .int (-1), .int (-1), .int 0, .int 100, .int 1000, .long 0]))] (⟨rfl, rfl⟩) [0] rfl (by decide) (Nat.le_of_ble_eq_true rfl) (Nat.le_of_ble_eq_true rfl) dX7_changes_52
set_option maxHeartbeats 4000000 in
set_option maxRecDepth 100000 in
theorem cw_X7_thrown_18 (l : Launch) (E : rc_E) (sz : Nat) (h0 : Nat) (h1 : Nat) (h2 : Nat) (h3 : Nat) (h4 : Nat) (h5 : Nat) : rc_Mi l yX7_thrown [Cond.code yX7_thrown cX7_thrown 1 (some FieldType.int)] { frames := 0, cells := 0, slots := 0, locals := 0 } E [.ref h0] [(h0, .inr (12, [.int 0, .ref h1, .ref h2, .ref h3, .ref h4, .ref h5, .int 16, .int 3, .int 50, .int (-1), .int (-1), .int (-1), .int (-1), .int 0, .int 100, .int 1000, .long 0]))] sz (S := va_W) (fun (r : Int32) (u : va_W) => (0 = r ∧ u = [(h0, .inr (12, [.int 0, .ref h1, .ref h2, .ref h3, .ref h4, .ref h5, .int 16, .int 3, .int 50, .int (-1), .int (-1), .int (-1), .int (-1), .int 0, .int 100, .int 1000, .long 0]))])) (fun u => u) 0 0 := by
  refine rc_ini (cc := cX7_thrown) (maxL := 1) (ret := (some FieldType.int)) (by decide) rfl (Nat.le_of_ble_eq_true rfl) ?_
  intro p e s m args below meth c ls A hx hb hr hml _ hown hlocks hin hA hAm hw hl
  have hown : s.vm.findClass RX7 = some m.cls := hown
  have hl : lv_has ls 1 [(0, .ref h0)] := hl
  refine lv_aload_n hx hb dX7_thrown_0 rfl (lv_at hl 0 rfl) ?_
  refine rc_get (v := .int 0) hx hb hown hAm hw lyX7 0 rfl rfl 0 (by decide) qw_860 (fun _ h9 => h9) rfl dX7_thrown_1 ?_
  exact rc_iret (v := 0) hx hb hr hlocks hw [(h0, .inr (12, [.int 0, .ref h1, .ref h2, .ref h3, .ref h4, .ref h5, .int 16, .int 3, .int 50, .int (-1), .int (-1), .int (-1), .int (-1), .int 0, .int 100, .int 1000, .long 0]))] (⟨rfl, rfl⟩) [0] rfl (by decide) (Nat.le_of_ble_eq_true rfl) (Nat.le_of_ble_eq_true rfl) dX7_thrown_4
set_option maxHeartbeats 4000000 in
set_option maxRecDepth 100000 in
theorem cw_X7_is_30 (l : Launch) (E : rc_E) (sz : Nat) : rc_Mi l yX7_is [Cond.code yX7_is cX7_is 3 (some FieldType.boolean)] { frames := 0, cells := 0, slots := 0, locals := 0 } E [.int 16, .int 1, .int 39] [] sz (S := va_W) (fun (r : Int32) (u : va_W) => (1 = r ∧ u = [])) (fun u => u) 0 0 := by
  refine rc_ini (cc := cX7_is) (maxL := 3) (ret := (some FieldType.boolean)) (by decide) rfl (Nat.le_of_ble_eq_true rfl) ?_
  intro p e s m args below meth c ls A hx hb hr hml _ hown hlocks hin hA hAm hw hl
  have hown : s.vm.findClass RX7 = some m.cls := hown
  have hl : lv_has ls 3 [(0, .int 16), (1, .int 1), (2, .int 39)] := hl
  refine lv_iload_n hx hb dX7_is_0 rfl (lv_at hl 0 rfl) ?_
  refine lv_iload_n hx hb dX7_is_1 rfl (lv_at hl 1 rfl) ?_
  refine lv_icmp_lt (tgt := 14) hx hb dX7_is_2 (by decide) (fun c9 => absurd c9 (by decide)) (fun _ => ?_)
  refine lv_iload_n hx hb dX7_is_5 rfl (lv_at hl 0 rfl) ?_
  refine lv_iload_n hx hb dX7_is_6 rfl (lv_at hl 2 rfl) ?_
  refine lv_icmp_gt (tgt := 14) hx hb dX7_is_7 (by decide) (fun c9 => absurd c9 (by decide)) (fun _ => ?_)
  refine lv_iconst (v := 1) hx hb dX7_is_10 (by decide) ?_
  refine lv_goto (tgt := 15) hx hb dX7_is_11 (by decide) ?_
  exact rc_zret (v := 1) hx hb hr hlocks hw rfl [] (⟨rfl, rfl⟩) [] rfl (by decide) (Nat.le_of_ble_eq_true rfl) (Nat.le_of_ble_eq_true rfl) dX7_is_15
set_option maxHeartbeats 4000000 in
set_option maxRecDepth 100000 in
theorem cw_X7_changes_17 (l : Launch) (E : rc_E) (sz : Nat) (h0 : Nat) (h1 : Nat) (h2 : Nat) (h3 : Nat) (h4 : Nat) (h5 : Nat) : rc_Mi l yX7_changes [Cond.code yX7_changes cX7_changes 2 (some FieldType.int)] { frames := 1, cells := 0, slots := 0, locals := 22 } E [.ref h0, .int 16] [(h0, .inr (12, [.int 0, .ref h1, .ref h2, .ref h3, .ref h4, .ref h5, .int 1, .int 3, .int 50, .int (-1), .int (-1), .int (-1), .int (-1), .int 0, .int 100, .int 1000, .long 0]))] sz (S := va_W) (fun (r : Int32) (u : va_W) => (17 = r ∧ u = [(h0, .inr (12, [.int 0, .ref h1, .ref h2, .ref h3, .ref h4, .ref h5, .int 17, .int 3, .int 50, .int (-1), .int (-1), .int (-1), .int (-1), .int 0, .int 100, .int 1000, .long 0]))])) (fun u => u) 0 0 := by
  refine rc_ini (cc := cX7_changes) (maxL := 2) (ret := (some FieldType.int)) (by decide) rfl (Nat.le_of_ble_eq_true rfl) ?_
  intro p e s m args below meth c ls A hx hb hr hml _ hown hlocks hin hA hAm hw hl
  have hown : s.vm.findClass RX7 = some m.cls := hown
  have hl : lv_has ls 2 [(0, .ref h0), (1, .int 16)] := hl
  refine lv_aload_n hx hb dX7_changes_0 rfl (lv_at hl 0 rfl) ?_
  refine lv_iconst (v := 0) hx hb dX7_changes_1 (by decide) ?_
  refine rc_put hx hb hown hAm hw lyX7 tyX7 tyX7_ok nmX7 0 rfl rfl 0 (by decide) qw_860 (fun _ h9 => h9) rfl rfl (by decide +kernel) (Nat.le_of_ble_eq_true rfl) [(h0, .inr (12, [.int 0, .ref h1, .ref h2, .ref h3, .ref h4, .ref h5, .int 1, .int 3, .int 50, .int (-1), .int (-1), .int (-1), .int (-1), .int 0, .int 100, .int 1000, .long 0]))] rfl dX7_changes_2 (fun H locs hw => ?_)
  refine lv_iload_n hx hb dX7_changes_5 rfl (lv_at hl 1 rfl) ?_
  refine lv_iconst (v := 1) hx hb dX7_changes_6 (by decide) ?_
  refine lv_bipush (v := 39) hx hb dX7_changes_7 (by decide) ?_
  refine rc_calli (wr := [(h0, .inr (12, [.int 0, .ref h1, .ref h2, .ref h3, .ref h4, .ref h5, .int 1, .int 3, .int 50, .int (-1), .int (-1), .int (-1), .int (-1), .int 0, .int 100, .int 1000, .long 0]))]) (va_runS (As := [.int 16, .int 1, .int 39]) (rest := []) (Ts := []) ⟨hx, hb, hml, hown, fun _ h9 => absurd h9 List.not_mem_nil⟩ (cw_X7_is_30 l E _) (rc_cwS hAm qw_921 qw_13 qw_923 qw_922 rfl rfl hd_X7_is ⟨Nat.le_of_ble_eq_true rfl, Nat.le_of_ble_eq_true rfl⟩) (rc_preS hAm hA hw [] rfl rfl) rfl rfl hl.1 rfl (lv_room (Nat.le_of_ble_eq_true rfl)) dX7_changes_9 ⟨Nat.le_of_ble_eq_true rfl, Nat.le_of_ble_eq_true rfl⟩) hA hw [] [0] rfl rfl rfl (by decide) (fun r_1 u_2 H locs hp hw => ?_)
  obtain ⟨rfl, rfl⟩ := hp
  have hw : rc_W E A s [(h0, .inr (12, [.int 0, .ref h1, .ref h2, .ref h3, .ref h4, .ref h5, .int 1, .int 3, .int 50, .int (-1), .int (-1), .int (-1), .int (-1), .int 0, .int 100, .int 1000, .long 0]))] H locs := hw
  refine lv_if_ne (tgt := 21) hx hb dX7_changes_12 (by decide) (fun _ => ?_) (fun c9 => absurd c9 (by decide))
  refine lv_aload_n hx hb dX7_changes_21 rfl (lv_at hl 0 rfl) ?_
  refine rc_get (v := .int 1) hx hb hown hAm hw lyX7 0 rfl rfl 6 (by decide) qw_866 (fun _ h9 => h9) rfl dX7_changes_22 ?_
  refine lv_iload_n hx hb dX7_changes_25 rfl (lv_at hl 1 rfl) ?_
  refine lv_iadd hx hb dX7_changes_26 ?_
  refine rc_topi 17 (by decide) ?_
  refine lv_bipush (v := 40) hx hb dX7_changes_27 (by decide) ?_
  refine lv_icmp_le (tgt := 38) hx hb dX7_changes_29 (by decide) (fun _ => ?_) (fun c9 => absurd (by decide) c9)
  refine lv_aload_n hx hb dX7_changes_38 rfl (lv_at hl 0 rfl) ?_
  refine lv_dup hx hb dX7_changes_39 rfl ?_
  refine rc_get (v := .int 1) hx hb hown hAm hw lyX7 0 rfl rfl 6 (by decide) qw_866 (fun _ h9 => h9) rfl dX7_changes_40 ?_
  refine lv_iload_n hx hb dX7_changes_43 rfl (lv_at hl 1 rfl) ?_
  refine lv_iadd hx hb dX7_changes_44 ?_
  refine rc_topi 17 (by decide) ?_
  refine rc_put hx hb hown hAm hw lyX7 tyX7 tyX7_ok nmX7 0 rfl rfl 6 (by decide) qw_866 (fun _ h9 => h9) rfl rfl (by decide +kernel) (Nat.le_of_ble_eq_true rfl) [(h0, .inr (12, [.int 0, .ref h1, .ref h2, .ref h3, .ref h4, .ref h5, .int 17, .int 3, .int 50, .int (-1), .int (-1), .int (-1), .int (-1), .int 0, .int 100, .int 1000, .long 0]))] rfl dX7_changes_45 (fun H locs hw => ?_)
  refine lv_aload_n hx hb dX7_changes_48 rfl (lv_at hl 0 rfl) ?_
  refine rc_get (v := .int 17) hx hb hown hAm hw lyX7 0 rfl rfl 6 (by decide) qw_866 (fun _ h9 => h9) rfl dX7_changes_49 ?_
  exact rc_iret (v := 17) hx hb hr hlocks hw [(h0, .inr (12, [.int 0, .ref h1, .ref h2, .ref h3, .ref h4, .ref h5, .int 17, .int 3, .int 50, .int (-1), .int (-1), .int (-1), .int (-1), .int 0, .int 100, .int 1000, .long 0]))] (⟨rfl, rfl⟩) [0] rfl (by decide) (Nat.le_of_ble_eq_true rfl) (Nat.le_of_ble_eq_true rfl) dX7_changes_52
set_option maxHeartbeats 4000000 in
set_option maxRecDepth 100000 in
theorem cw_X7_thrown_19 (l : Launch) (E : rc_E) (sz : Nat) (h0 : Nat) (h1 : Nat) (h2 : Nat) (h3 : Nat) (h4 : Nat) (h5 : Nat) : rc_Mi l yX7_thrown [Cond.code yX7_thrown cX7_thrown 1 (some FieldType.int)] { frames := 0, cells := 0, slots := 0, locals := 0 } E [.ref h0] [(h0, .inr (12, [.int 0, .ref h1, .ref h2, .ref h3, .ref h4, .ref h5, .int 17, .int 3, .int 50, .int (-1), .int (-1), .int (-1), .int (-1), .int 0, .int 100, .int 1000, .long 0]))] sz (S := va_W) (fun (r : Int32) (u : va_W) => (0 = r ∧ u = [(h0, .inr (12, [.int 0, .ref h1, .ref h2, .ref h3, .ref h4, .ref h5, .int 17, .int 3, .int 50, .int (-1), .int (-1), .int (-1), .int (-1), .int 0, .int 100, .int 1000, .long 0]))])) (fun u => u) 0 0 := by
  refine rc_ini (cc := cX7_thrown) (maxL := 1) (ret := (some FieldType.int)) (by decide) rfl (Nat.le_of_ble_eq_true rfl) ?_
  intro p e s m args below meth c ls A hx hb hr hml _ hown hlocks hin hA hAm hw hl
  have hown : s.vm.findClass RX7 = some m.cls := hown
  have hl : lv_has ls 1 [(0, .ref h0)] := hl
  refine lv_aload_n hx hb dX7_thrown_0 rfl (lv_at hl 0 rfl) ?_
  refine rc_get (v := .int 0) hx hb hown hAm hw lyX7 0 rfl rfl 0 (by decide) qw_860 (fun _ h9 => h9) rfl dX7_thrown_1 ?_
  exact rc_iret (v := 0) hx hb hr hlocks hw [(h0, .inr (12, [.int 0, .ref h1, .ref h2, .ref h3, .ref h4, .ref h5, .int 17, .int 3, .int 50, .int (-1), .int (-1), .int (-1), .int (-1), .int 0, .int 100, .int 1000, .long 0]))] (⟨rfl, rfl⟩) [0] rfl (by decide) (Nat.le_of_ble_eq_true rfl) (Nat.le_of_ble_eq_true rfl) dX7_thrown_4
set_option maxHeartbeats 4000000 in
set_option maxRecDepth 100000 in
theorem cw_X7_is_31 (l : Launch) (E : rc_E) (sz : Nat) : rc_Mi l yX7_is [Cond.code yX7_is cX7_is 3 (some FieldType.boolean)] { frames := 0, cells := 0, slots := 0, locals := 0 } E [.int 17, .int 1, .int 39] [] sz (S := va_W) (fun (r : Int32) (u : va_W) => (1 = r ∧ u = [])) (fun u => u) 0 0 := by
  refine rc_ini (cc := cX7_is) (maxL := 3) (ret := (some FieldType.boolean)) (by decide) rfl (Nat.le_of_ble_eq_true rfl) ?_
  intro p e s m args below meth c ls A hx hb hr hml _ hown hlocks hin hA hAm hw hl
  have hown : s.vm.findClass RX7 = some m.cls := hown
  have hl : lv_has ls 3 [(0, .int 17), (1, .int 1), (2, .int 39)] := hl
  refine lv_iload_n hx hb dX7_is_0 rfl (lv_at hl 0 rfl) ?_
  refine lv_iload_n hx hb dX7_is_1 rfl (lv_at hl 1 rfl) ?_
  refine lv_icmp_lt (tgt := 14) hx hb dX7_is_2 (by decide) (fun c9 => absurd c9 (by decide)) (fun _ => ?_)
  refine lv_iload_n hx hb dX7_is_5 rfl (lv_at hl 0 rfl) ?_
  refine lv_iload_n hx hb dX7_is_6 rfl (lv_at hl 2 rfl) ?_
  refine lv_icmp_gt (tgt := 14) hx hb dX7_is_7 (by decide) (fun c9 => absurd c9 (by decide)) (fun _ => ?_)
  refine lv_iconst (v := 1) hx hb dX7_is_10 (by decide) ?_
  refine lv_goto (tgt := 15) hx hb dX7_is_11 (by decide) ?_
  exact rc_zret (v := 1) hx hb hr hlocks hw rfl [] (⟨rfl, rfl⟩) [] rfl (by decide) (Nat.le_of_ble_eq_true rfl) (Nat.le_of_ble_eq_true rfl) dX7_is_15
set_option maxHeartbeats 4000000 in
set_option maxRecDepth 100000 in
theorem cw_X7_changes_18 (l : Launch) (E : rc_E) (sz : Nat) (h0 : Nat) (h1 : Nat) (h2 : Nat) (h3 : Nat) (h4 : Nat) (h5 : Nat) : rc_Mi l yX7_changes [Cond.code yX7_changes cX7_changes 2 (some FieldType.int)] { frames := 1, cells := 0, slots := 0, locals := 22 } E [.ref h0, .int 17] [(h0, .inr (12, [.int 0, .ref h1, .ref h2, .ref h3, .ref h4, .ref h5, .int 1, .int 3, .int 50, .int (-1), .int (-1), .int (-1), .int (-1), .int 0, .int 100, .int 1000, .long 0]))] sz (S := va_W) (fun (r : Int32) (u : va_W) => (18 = r ∧ u = [(h0, .inr (12, [.int 0, .ref h1, .ref h2, .ref h3, .ref h4, .ref h5, .int 18, .int 3, .int 50, .int (-1), .int (-1), .int (-1), .int (-1), .int 0, .int 100, .int 1000, .long 0]))])) (fun u => u) 0 0 := by
  refine rc_ini (cc := cX7_changes) (maxL := 2) (ret := (some FieldType.int)) (by decide) rfl (Nat.le_of_ble_eq_true rfl) ?_
  intro p e s m args below meth c ls A hx hb hr hml _ hown hlocks hin hA hAm hw hl
  have hown : s.vm.findClass RX7 = some m.cls := hown
  have hl : lv_has ls 2 [(0, .ref h0), (1, .int 17)] := hl
  refine lv_aload_n hx hb dX7_changes_0 rfl (lv_at hl 0 rfl) ?_
  refine lv_iconst (v := 0) hx hb dX7_changes_1 (by decide) ?_
  refine rc_put hx hb hown hAm hw lyX7 tyX7 tyX7_ok nmX7 0 rfl rfl 0 (by decide) qw_860 (fun _ h9 => h9) rfl rfl (by decide +kernel) (Nat.le_of_ble_eq_true rfl) [(h0, .inr (12, [.int 0, .ref h1, .ref h2, .ref h3, .ref h4, .ref h5, .int 1, .int 3, .int 50, .int (-1), .int (-1), .int (-1), .int (-1), .int 0, .int 100, .int 1000, .long 0]))] rfl dX7_changes_2 (fun H locs hw => ?_)
  refine lv_iload_n hx hb dX7_changes_5 rfl (lv_at hl 1 rfl) ?_
  refine lv_iconst (v := 1) hx hb dX7_changes_6 (by decide) ?_
  refine lv_bipush (v := 39) hx hb dX7_changes_7 (by decide) ?_
  refine rc_calli (wr := [(h0, .inr (12, [.int 0, .ref h1, .ref h2, .ref h3, .ref h4, .ref h5, .int 1, .int 3, .int 50, .int (-1), .int (-1), .int (-1), .int (-1), .int 0, .int 100, .int 1000, .long 0]))]) (va_runS (As := [.int 17, .int 1, .int 39]) (rest := []) (Ts := []) ⟨hx, hb, hml, hown, fun _ h9 => absurd h9 List.not_mem_nil⟩ (cw_X7_is_31 l E _) (rc_cwS hAm qw_921 qw_13 qw_923 qw_922 rfl rfl hd_X7_is ⟨Nat.le_of_ble_eq_true rfl, Nat.le_of_ble_eq_true rfl⟩) (rc_preS hAm hA hw [] rfl rfl) rfl rfl hl.1 rfl (lv_room (Nat.le_of_ble_eq_true rfl)) dX7_changes_9 ⟨Nat.le_of_ble_eq_true rfl, Nat.le_of_ble_eq_true rfl⟩) hA hw [] [0] rfl rfl rfl (by decide) (fun r_1 u_2 H locs hp hw => ?_)
  obtain ⟨rfl, rfl⟩ := hp
  have hw : rc_W E A s [(h0, .inr (12, [.int 0, .ref h1, .ref h2, .ref h3, .ref h4, .ref h5, .int 1, .int 3, .int 50, .int (-1), .int (-1), .int (-1), .int (-1), .int 0, .int 100, .int 1000, .long 0]))] H locs := hw
  refine lv_if_ne (tgt := 21) hx hb dX7_changes_12 (by decide) (fun _ => ?_) (fun c9 => absurd c9 (by decide))
  refine lv_aload_n hx hb dX7_changes_21 rfl (lv_at hl 0 rfl) ?_
  refine rc_get (v := .int 1) hx hb hown hAm hw lyX7 0 rfl rfl 6 (by decide) qw_866 (fun _ h9 => h9) rfl dX7_changes_22 ?_
  refine lv_iload_n hx hb dX7_changes_25 rfl (lv_at hl 1 rfl) ?_
  refine lv_iadd hx hb dX7_changes_26 ?_
  refine rc_topi 18 (by decide) ?_
  refine lv_bipush (v := 40) hx hb dX7_changes_27 (by decide) ?_
  refine lv_icmp_le (tgt := 38) hx hb dX7_changes_29 (by decide) (fun _ => ?_) (fun c9 => absurd (by decide) c9)
  refine lv_aload_n hx hb dX7_changes_38 rfl (lv_at hl 0 rfl) ?_
  refine lv_dup hx hb dX7_changes_39 rfl ?_
  refine rc_get (v := .int 1) hx hb hown hAm hw lyX7 0 rfl rfl 6 (by decide) qw_866 (fun _ h9 => h9) rfl dX7_changes_40 ?_
  refine lv_iload_n hx hb dX7_changes_43 rfl (lv_at hl 1 rfl) ?_
  refine lv_iadd hx hb dX7_changes_44 ?_
  refine rc_topi 18 (by decide) ?_
  refine rc_put hx hb hown hAm hw lyX7 tyX7 tyX7_ok nmX7 0 rfl rfl 6 (by decide) qw_866 (fun _ h9 => h9) rfl rfl (by decide +kernel) (Nat.le_of_ble_eq_true rfl) [(h0, .inr (12, [.int 0, .ref h1, .ref h2, .ref h3, .ref h4, .ref h5, .int 18, .int 3, .int 50, .int (-1), .int (-1), .int (-1), .int (-1), .int 0, .int 100, .int 1000, .long 0]))] rfl dX7_changes_45 (fun H locs hw => ?_)
  refine lv_aload_n hx hb dX7_changes_48 rfl (lv_at hl 0 rfl) ?_
  refine rc_get (v := .int 18) hx hb hown hAm hw lyX7 0 rfl rfl 6 (by decide) qw_866 (fun _ h9 => h9) rfl dX7_changes_49 ?_
  exact rc_iret (v := 18) hx hb hr hlocks hw [(h0, .inr (12, [.int 0, .ref h1, .ref h2, .ref h3, .ref h4, .ref h5, .int 18, .int 3, .int 50, .int (-1), .int (-1), .int (-1), .int (-1), .int 0, .int 100, .int 1000, .long 0]))] (⟨rfl, rfl⟩) [0] rfl (by decide) (Nat.le_of_ble_eq_true rfl) (Nat.le_of_ble_eq_true rfl) dX7_changes_52
set_option maxHeartbeats 4000000 in
set_option maxRecDepth 100000 in
theorem cw_X7_thrown_20 (l : Launch) (E : rc_E) (sz : Nat) (h0 : Nat) (h1 : Nat) (h2 : Nat) (h3 : Nat) (h4 : Nat) (h5 : Nat) : rc_Mi l yX7_thrown [Cond.code yX7_thrown cX7_thrown 1 (some FieldType.int)] { frames := 0, cells := 0, slots := 0, locals := 0 } E [.ref h0] [(h0, .inr (12, [.int 0, .ref h1, .ref h2, .ref h3, .ref h4, .ref h5, .int 18, .int 3, .int 50, .int (-1), .int (-1), .int (-1), .int (-1), .int 0, .int 100, .int 1000, .long 0]))] sz (S := va_W) (fun (r : Int32) (u : va_W) => (0 = r ∧ u = [(h0, .inr (12, [.int 0, .ref h1, .ref h2, .ref h3, .ref h4, .ref h5, .int 18, .int 3, .int 50, .int (-1), .int (-1), .int (-1), .int (-1), .int 0, .int 100, .int 1000, .long 0]))])) (fun u => u) 0 0 := by
  refine rc_ini (cc := cX7_thrown) (maxL := 1) (ret := (some FieldType.int)) (by decide) rfl (Nat.le_of_ble_eq_true rfl) ?_
  intro p e s m args below meth c ls A hx hb hr hml _ hown hlocks hin hA hAm hw hl
  have hown : s.vm.findClass RX7 = some m.cls := hown
  have hl : lv_has ls 1 [(0, .ref h0)] := hl
  refine lv_aload_n hx hb dX7_thrown_0 rfl (lv_at hl 0 rfl) ?_
  refine rc_get (v := .int 0) hx hb hown hAm hw lyX7 0 rfl rfl 0 (by decide) qw_860 (fun _ h9 => h9) rfl dX7_thrown_1 ?_
  exact rc_iret (v := 0) hx hb hr hlocks hw [(h0, .inr (12, [.int 0, .ref h1, .ref h2, .ref h3, .ref h4, .ref h5, .int 18, .int 3, .int 50, .int (-1), .int (-1), .int (-1), .int (-1), .int 0, .int 100, .int 1000, .long 0]))] (⟨rfl, rfl⟩) [0] rfl (by decide) (Nat.le_of_ble_eq_true rfl) (Nat.le_of_ble_eq_true rfl) dX7_thrown_4
set_option maxHeartbeats 4000000 in
set_option maxRecDepth 100000 in
theorem cw_X7_is_32 (l : Launch) (E : rc_E) (sz : Nat) : rc_Mi l yX7_is [Cond.code yX7_is cX7_is 3 (some FieldType.boolean)] { frames := 0, cells := 0, slots := 0, locals := 0 } E [.int 18, .int 1, .int 39] [] sz (S := va_W) (fun (r : Int32) (u : va_W) => (1 = r ∧ u = [])) (fun u => u) 0 0 := by
  refine rc_ini (cc := cX7_is) (maxL := 3) (ret := (some FieldType.boolean)) (by decide) rfl (Nat.le_of_ble_eq_true rfl) ?_
  intro p e s m args below meth c ls A hx hb hr hml _ hown hlocks hin hA hAm hw hl
  have hown : s.vm.findClass RX7 = some m.cls := hown
  have hl : lv_has ls 3 [(0, .int 18), (1, .int 1), (2, .int 39)] := hl
  refine lv_iload_n hx hb dX7_is_0 rfl (lv_at hl 0 rfl) ?_
  refine lv_iload_n hx hb dX7_is_1 rfl (lv_at hl 1 rfl) ?_
  refine lv_icmp_lt (tgt := 14) hx hb dX7_is_2 (by decide) (fun c9 => absurd c9 (by decide)) (fun _ => ?_)
  refine lv_iload_n hx hb dX7_is_5 rfl (lv_at hl 0 rfl) ?_
  refine lv_iload_n hx hb dX7_is_6 rfl (lv_at hl 2 rfl) ?_
  refine lv_icmp_gt (tgt := 14) hx hb dX7_is_7 (by decide) (fun c9 => absurd c9 (by decide)) (fun _ => ?_)
  refine lv_iconst (v := 1) hx hb dX7_is_10 (by decide) ?_
  refine lv_goto (tgt := 15) hx hb dX7_is_11 (by decide) ?_
  exact rc_zret (v := 1) hx hb hr hlocks hw rfl [] (⟨rfl, rfl⟩) [] rfl (by decide) (Nat.le_of_ble_eq_true rfl) (Nat.le_of_ble_eq_true rfl) dX7_is_15
set_option maxHeartbeats 4000000 in
set_option maxRecDepth 100000 in
theorem cw_X7_changes_19 (l : Launch) (E : rc_E) (sz : Nat) (h0 : Nat) (h1 : Nat) (h2 : Nat) (h3 : Nat) (h4 : Nat) (h5 : Nat) : rc_Mi l yX7_changes [Cond.code yX7_changes cX7_changes 2 (some FieldType.int)] { frames := 1, cells := 0, slots := 0, locals := 22 } E [.ref h0, .int 18] [(h0, .inr (12, [.int 0, .ref h1, .ref h2, .ref h3, .ref h4, .ref h5, .int 1, .int 3, .int 50, .int (-1), .int (-1), .int (-1), .int (-1), .int 0, .int 100, .int 1000, .long 0]))] sz (S := va_W) (fun (r : Int32) (u : va_W) => (19 = r ∧ u = [(h0, .inr (12, [.int 0, .ref h1, .ref h2, .ref h3, .ref h4, .ref h5, .int 19, .int 3, .int 50, .int (-1), .int (-1), .int (-1), .int (-1), .int 0, .int 100, .int 1000, .long 0]))])) (fun u => u) 0 0 := by
  refine rc_ini (cc := cX7_changes) (maxL := 2) (ret := (some FieldType.int)) (by decide) rfl (Nat.le_of_ble_eq_true rfl) ?_
  intro p e s m args below meth c ls A hx hb hr hml _ hown hlocks hin hA hAm hw hl
  have hown : s.vm.findClass RX7 = some m.cls := hown
  have hl : lv_has ls 2 [(0, .ref h0), (1, .int 18)] := hl
  refine lv_aload_n hx hb dX7_changes_0 rfl (lv_at hl 0 rfl) ?_
  refine lv_iconst (v := 0) hx hb dX7_changes_1 (by decide) ?_
  refine rc_put hx hb hown hAm hw lyX7 tyX7 tyX7_ok nmX7 0 rfl rfl 0 (by decide) qw_860 (fun _ h9 => h9) rfl rfl (by decide +kernel) (Nat.le_of_ble_eq_true rfl) [(h0, .inr (12, [.int 0, .ref h1, .ref h2, .ref h3, .ref h4, .ref h5, .int 1, .int 3, .int 50, .int (-1), .int (-1), .int (-1), .int (-1), .int 0, .int 100, .int 1000, .long 0]))] rfl dX7_changes_2 (fun H locs hw => ?_)
  refine lv_iload_n hx hb dX7_changes_5 rfl (lv_at hl 1 rfl) ?_
  refine lv_iconst (v := 1) hx hb dX7_changes_6 (by decide) ?_
  refine lv_bipush (v := 39) hx hb dX7_changes_7 (by decide) ?_
  refine rc_calli (wr := [(h0, .inr (12, [.int 0, .ref h1, .ref h2, .ref h3, .ref h4, .ref h5, .int 1, .int 3, .int 50, .int (-1), .int (-1), .int (-1), .int (-1), .int 0, .int 100, .int 1000, .long 0]))]) (va_runS (As := [.int 18, .int 1, .int 39]) (rest := []) (Ts := []) ⟨hx, hb, hml, hown, fun _ h9 => absurd h9 List.not_mem_nil⟩ (cw_X7_is_32 l E _) (rc_cwS hAm qw_921 qw_13 qw_923 qw_922 rfl rfl hd_X7_is ⟨Nat.le_of_ble_eq_true rfl, Nat.le_of_ble_eq_true rfl⟩) (rc_preS hAm hA hw [] rfl rfl) rfl rfl hl.1 rfl (lv_room (Nat.le_of_ble_eq_true rfl)) dX7_changes_9 ⟨Nat.le_of_ble_eq_true rfl, Nat.le_of_ble_eq_true rfl⟩) hA hw [] [0] rfl rfl rfl (by decide) (fun r_1 u_2 H locs hp hw => ?_)
  obtain ⟨rfl, rfl⟩ := hp
  have hw : rc_W E A s [(h0, .inr (12, [.int 0, .ref h1, .ref h2, .ref h3, .ref h4, .ref h5, .int 1, .int 3, .int 50, .int (-1), .int (-1), .int (-1), .int (-1), .int 0, .int 100, .int 1000, .long 0]))] H locs := hw
  refine lv_if_ne (tgt := 21) hx hb dX7_changes_12 (by decide) (fun _ => ?_) (fun c9 => absurd c9 (by decide))
  refine lv_aload_n hx hb dX7_changes_21 rfl (lv_at hl 0 rfl) ?_
  refine rc_get (v := .int 1) hx hb hown hAm hw lyX7 0 rfl rfl 6 (by decide) qw_866 (fun _ h9 => h9) rfl dX7_changes_22 ?_
  refine lv_iload_n hx hb dX7_changes_25 rfl (lv_at hl 1 rfl) ?_
  refine lv_iadd hx hb dX7_changes_26 ?_
  refine rc_topi 19 (by decide) ?_
  refine lv_bipush (v := 40) hx hb dX7_changes_27 (by decide) ?_
  refine lv_icmp_le (tgt := 38) hx hb dX7_changes_29 (by decide) (fun _ => ?_) (fun c9 => absurd (by decide) c9)
  refine lv_aload_n hx hb dX7_changes_38 rfl (lv_at hl 0 rfl) ?_
  refine lv_dup hx hb dX7_changes_39 rfl ?_
  refine rc_get (v := .int 1) hx hb hown hAm hw lyX7 0 rfl rfl 6 (by decide) qw_866 (fun _ h9 => h9) rfl dX7_changes_40 ?_
  refine lv_iload_n hx hb dX7_changes_43 rfl (lv_at hl 1 rfl) ?_
  refine lv_iadd hx hb dX7_changes_44 ?_
  refine rc_topi 19 (by decide) ?_
  refine rc_put hx hb hown hAm hw lyX7 tyX7 tyX7_ok nmX7 0 rfl rfl 6 (by decide) qw_866 (fun _ h9 => h9) rfl rfl (by decide +kernel) (Nat.le_of_ble_eq_true rfl) [(h0, .inr (12, [.int 0, .ref h1, .ref h2, .ref h3, .ref h4, .ref h5, .int 19, .int 3, .int 50, .int (-1), .int (-1), .int (-1), .int (-1), .int 0, .int 100, .int 1000, .long 0]))] rfl dX7_changes_45 (fun H locs hw => ?_)
  refine lv_aload_n hx hb dX7_changes_48 rfl (lv_at hl 0 rfl) ?_
  refine rc_get (v := .int 19) hx hb hown hAm hw lyX7 0 rfl rfl 6 (by decide) qw_866 (fun _ h9 => h9) rfl dX7_changes_49 ?_
  exact rc_iret (v := 19) hx hb hr hlocks hw [(h0, .inr (12, [.int 0, .ref h1, .ref h2, .ref h3, .ref h4, .ref h5, .int 19, .int 3, .int 50, .int (-1), .int (-1), .int (-1), .int (-1), .int 0, .int 100, .int 1000, .long 0]))] (⟨rfl, rfl⟩) [0] rfl (by decide) (Nat.le_of_ble_eq_true rfl) (Nat.le_of_ble_eq_true rfl) dX7_changes_52
set_option maxHeartbeats 4000000 in
set_option maxRecDepth 100000 in
theorem cw_X7_thrown_21 (l : Launch) (E : rc_E) (sz : Nat) (h0 : Nat) (h1 : Nat) (h2 : Nat) (h3 : Nat) (h4 : Nat) (h5 : Nat) : rc_Mi l yX7_thrown [Cond.code yX7_thrown cX7_thrown 1 (some FieldType.int)] { frames := 0, cells := 0, slots := 0, locals := 0 } E [.ref h0] [(h0, .inr (12, [.int 0, .ref h1, .ref h2, .ref h3, .ref h4, .ref h5, .int 19, .int 3, .int 50, .int (-1), .int (-1), .int (-1), .int (-1), .int 0, .int 100, .int 1000, .long 0]))] sz (S := va_W) (fun (r : Int32) (u : va_W) => (0 = r ∧ u = [(h0, .inr (12, [.int 0, .ref h1, .ref h2, .ref h3, .ref h4, .ref h5, .int 19, .int 3, .int 50, .int (-1), .int (-1), .int (-1), .int (-1), .int 0, .int 100, .int 1000, .long 0]))])) (fun u => u) 0 0 := by
  refine rc_ini (cc := cX7_thrown) (maxL := 1) (ret := (some FieldType.int)) (by decide) rfl (Nat.le_of_ble_eq_true rfl) ?_
  intro p e s m args below meth c ls A hx hb hr hml _ hown hlocks hin hA hAm hw hl
  have hown : s.vm.findClass RX7 = some m.cls := hown
  have hl : lv_has ls 1 [(0, .ref h0)] := hl
  refine lv_aload_n hx hb dX7_thrown_0 rfl (lv_at hl 0 rfl) ?_
  refine rc_get (v := .int 0) hx hb hown hAm hw lyX7 0 rfl rfl 0 (by decide) qw_860 (fun _ h9 => h9) rfl dX7_thrown_1 ?_
  exact rc_iret (v := 0) hx hb hr hlocks hw [(h0, .inr (12, [.int 0, .ref h1, .ref h2, .ref h3, .ref h4, .ref h5, .int 19, .int 3, .int 50, .int (-1), .int (-1), .int (-1), .int (-1), .int 0, .int 100, .int 1000, .long 0]))] (⟨rfl, rfl⟩) [0] rfl (by decide) (Nat.le_of_ble_eq_true rfl) (Nat.le_of_ble_eq_true rfl) dX7_thrown_4
set_option maxHeartbeats 4000000 in
set_option maxRecDepth 100000 in
theorem cw_X7_is_33 (l : Launch) (E : rc_E) (sz : Nat) : rc_Mi l yX7_is [Cond.code yX7_is cX7_is 3 (some FieldType.boolean)] { frames := 0, cells := 0, slots := 0, locals := 0 } E [.int 19, .int 1, .int 39] [] sz (S := va_W) (fun (r : Int32) (u : va_W) => (1 = r ∧ u = [])) (fun u => u) 0 0 := by
  refine rc_ini (cc := cX7_is) (maxL := 3) (ret := (some FieldType.boolean)) (by decide) rfl (Nat.le_of_ble_eq_true rfl) ?_
  intro p e s m args below meth c ls A hx hb hr hml _ hown hlocks hin hA hAm hw hl
  have hown : s.vm.findClass RX7 = some m.cls := hown
  have hl : lv_has ls 3 [(0, .int 19), (1, .int 1), (2, .int 39)] := hl
  refine lv_iload_n hx hb dX7_is_0 rfl (lv_at hl 0 rfl) ?_
  refine lv_iload_n hx hb dX7_is_1 rfl (lv_at hl 1 rfl) ?_
  refine lv_icmp_lt (tgt := 14) hx hb dX7_is_2 (by decide) (fun c9 => absurd c9 (by decide)) (fun _ => ?_)
  refine lv_iload_n hx hb dX7_is_5 rfl (lv_at hl 0 rfl) ?_
  refine lv_iload_n hx hb dX7_is_6 rfl (lv_at hl 2 rfl) ?_
  refine lv_icmp_gt (tgt := 14) hx hb dX7_is_7 (by decide) (fun c9 => absurd c9 (by decide)) (fun _ => ?_)
  refine lv_iconst (v := 1) hx hb dX7_is_10 (by decide) ?_
  refine lv_goto (tgt := 15) hx hb dX7_is_11 (by decide) ?_
  exact rc_zret (v := 1) hx hb hr hlocks hw rfl [] (⟨rfl, rfl⟩) [] rfl (by decide) (Nat.le_of_ble_eq_true rfl) (Nat.le_of_ble_eq_true rfl) dX7_is_15
set_option maxHeartbeats 4000000 in
set_option maxRecDepth 100000 in
theorem cw_X7_changes_20 (l : Launch) (E : rc_E) (sz : Nat) (h0 : Nat) (h1 : Nat) (h2 : Nat) (h3 : Nat) (h4 : Nat) (h5 : Nat) : rc_Mi l yX7_changes [Cond.code yX7_changes cX7_changes 2 (some FieldType.int)] { frames := 1, cells := 0, slots := 0, locals := 22 } E [.ref h0, .int 19] [(h0, .inr (12, [.int 0, .ref h1, .ref h2, .ref h3, .ref h4, .ref h5, .int 1, .int 3, .int 50, .int (-1), .int (-1), .int (-1), .int (-1), .int 0, .int 100, .int 1000, .long 0]))] sz (S := va_W) (fun (r : Int32) (u : va_W) => (20 = r ∧ u = [(h0, .inr (12, [.int 0, .ref h1, .ref h2, .ref h3, .ref h4, .ref h5, .int 20, .int 3, .int 50, .int (-1), .int (-1), .int (-1), .int (-1), .int 0, .int 100, .int 1000, .long 0]))])) (fun u => u) 0 0 := by
  refine rc_ini (cc := cX7_changes) (maxL := 2) (ret := (some FieldType.int)) (by decide) rfl (Nat.le_of_ble_eq_true rfl) ?_
  intro p e s m args below meth c ls A hx hb hr hml _ hown hlocks hin hA hAm hw hl
  have hown : s.vm.findClass RX7 = some m.cls := hown
  have hl : lv_has ls 2 [(0, .ref h0), (1, .int 19)] := hl
  refine lv_aload_n hx hb dX7_changes_0 rfl (lv_at hl 0 rfl) ?_
  refine lv_iconst (v := 0) hx hb dX7_changes_1 (by decide) ?_
  refine rc_put hx hb hown hAm hw lyX7 tyX7 tyX7_ok nmX7 0 rfl rfl 0 (by decide) qw_860 (fun _ h9 => h9) rfl rfl (by decide +kernel) (Nat.le_of_ble_eq_true rfl) [(h0, .inr (12, [.int 0, .ref h1, .ref h2, .ref h3, .ref h4, .ref h5, .int 1, .int 3, .int 50, .int (-1), .int (-1), .int (-1), .int (-1), .int 0, .int 100, .int 1000, .long 0]))] rfl dX7_changes_2 (fun H locs hw => ?_)
  refine lv_iload_n hx hb dX7_changes_5 rfl (lv_at hl 1 rfl) ?_
  refine lv_iconst (v := 1) hx hb dX7_changes_6 (by decide) ?_
  refine lv_bipush (v := 39) hx hb dX7_changes_7 (by decide) ?_
  refine rc_calli (wr := [(h0, .inr (12, [.int 0, .ref h1, .ref h2, .ref h3, .ref h4, .ref h5, .int 1, .int 3, .int 50, .int (-1), .int (-1), .int (-1), .int (-1), .int 0, .int 100, .int 1000, .long 0]))]) (va_runS (As := [.int 19, .int 1, .int 39]) (rest := []) (Ts := []) ⟨hx, hb, hml, hown, fun _ h9 => absurd h9 List.not_mem_nil⟩ (cw_X7_is_33 l E _) (rc_cwS hAm qw_921 qw_13 qw_923 qw_922 rfl rfl hd_X7_is ⟨Nat.le_of_ble_eq_true rfl, Nat.le_of_ble_eq_true rfl⟩) (rc_preS hAm hA hw [] rfl rfl) rfl rfl hl.1 rfl (lv_room (Nat.le_of_ble_eq_true rfl)) dX7_changes_9 ⟨Nat.le_of_ble_eq_true rfl, Nat.le_of_ble_eq_true rfl⟩) hA hw [] [0] rfl rfl rfl (by decide) (fun r_1 u_2 H locs hp hw => ?_)
  obtain ⟨rfl, rfl⟩ := hp
  have hw : rc_W E A s [(h0, .inr (12, [.int 0, .ref h1, .ref h2, .ref h3, .ref h4, .ref h5, .int 1, .int 3, .int 50, .int (-1), .int (-1), .int (-1), .int (-1), .int 0, .int 100, .int 1000, .long 0]))] H locs := hw
  refine lv_if_ne (tgt := 21) hx hb dX7_changes_12 (by decide) (fun _ => ?_) (fun c9 => absurd c9 (by decide))
  refine lv_aload_n hx hb dX7_changes_21 rfl (lv_at hl 0 rfl) ?_
  refine rc_get (v := .int 1) hx hb hown hAm hw lyX7 0 rfl rfl 6 (by decide) qw_866 (fun _ h9 => h9) rfl dX7_changes_22 ?_
  refine lv_iload_n hx hb dX7_changes_25 rfl (lv_at hl 1 rfl) ?_
  refine lv_iadd hx hb dX7_changes_26 ?_
  refine rc_topi 20 (by decide) ?_
  refine lv_bipush (v := 40) hx hb dX7_changes_27 (by decide) ?_
  refine lv_icmp_le (tgt := 38) hx hb dX7_changes_29 (by decide) (fun _ => ?_) (fun c9 => absurd (by decide) c9)
  refine lv_aload_n hx hb dX7_changes_38 rfl (lv_at hl 0 rfl) ?_
  refine lv_dup hx hb dX7_changes_39 rfl ?_
  refine rc_get (v := .int 1) hx hb hown hAm hw lyX7 0 rfl rfl 6 (by decide) qw_866 (fun _ h9 => h9) rfl dX7_changes_40 ?_
  refine lv_iload_n hx hb dX7_changes_43 rfl (lv_at hl 1 rfl) ?_
  refine lv_iadd hx hb dX7_changes_44 ?_
  refine rc_topi 20 (by decide) ?_
  refine rc_put hx hb hown hAm hw lyX7 tyX7 tyX7_ok nmX7 0 rfl rfl 6 (by decide) qw_866 (fun _ h9 => h9) rfl rfl (by decide +kernel) (Nat.le_of_ble_eq_true rfl) [(h0, .inr (12, [.int 0, .ref h1, .ref h2, .ref h3, .ref h4, .ref h5, .int 20, .int 3, .int 50, .int (-1), .int (-1), .int (-1), .int (-1), .int 0, .int 100, .int 1000, .long 0]))] rfl dX7_changes_45 (fun H locs hw => ?_)
  refine lv_aload_n hx hb dX7_changes_48 rfl (lv_at hl 0 rfl) ?_
  refine rc_get (v := .int 20) hx hb hown hAm hw lyX7 0 rfl rfl 6 (by decide) qw_866 (fun _ h9 => h9) rfl dX7_changes_49 ?_
  exact rc_iret (v := 20) hx hb hr hlocks hw [(h0, .inr (12, [.int 0, .ref h1, .ref h2, .ref h3, .ref h4, .ref h5, .int 20, .int 3, .int 50, .int (-1), .int (-1), .int (-1), .int (-1), .int 0, .int 100, .int 1000, .long 0]))] (⟨rfl, rfl⟩) [0] rfl (by decide) (Nat.le_of_ble_eq_true rfl) (Nat.le_of_ble_eq_true rfl) dX7_changes_52
set_option maxHeartbeats 4000000 in
set_option maxRecDepth 100000 in
theorem cw_X7_thrown_22 (l : Launch) (E : rc_E) (sz : Nat) (h0 : Nat) (h1 : Nat) (h2 : Nat) (h3 : Nat) (h4 : Nat) (h5 : Nat) : rc_Mi l yX7_thrown [Cond.code yX7_thrown cX7_thrown 1 (some FieldType.int)] { frames := 0, cells := 0, slots := 0, locals := 0 } E [.ref h0] [(h0, .inr (12, [.int 0, .ref h1, .ref h2, .ref h3, .ref h4, .ref h5, .int 20, .int 3, .int 50, .int (-1), .int (-1), .int (-1), .int (-1), .int 0, .int 100, .int 1000, .long 0]))] sz (S := va_W) (fun (r : Int32) (u : va_W) => (0 = r ∧ u = [(h0, .inr (12, [.int 0, .ref h1, .ref h2, .ref h3, .ref h4, .ref h5, .int 20, .int 3, .int 50, .int (-1), .int (-1), .int (-1), .int (-1), .int 0, .int 100, .int 1000, .long 0]))])) (fun u => u) 0 0 := by
  refine rc_ini (cc := cX7_thrown) (maxL := 1) (ret := (some FieldType.int)) (by decide) rfl (Nat.le_of_ble_eq_true rfl) ?_
  intro p e s m args below meth c ls A hx hb hr hml _ hown hlocks hin hA hAm hw hl
  have hown : s.vm.findClass RX7 = some m.cls := hown
  have hl : lv_has ls 1 [(0, .ref h0)] := hl
  refine lv_aload_n hx hb dX7_thrown_0 rfl (lv_at hl 0 rfl) ?_
  refine rc_get (v := .int 0) hx hb hown hAm hw lyX7 0 rfl rfl 0 (by decide) qw_860 (fun _ h9 => h9) rfl dX7_thrown_1 ?_
  exact rc_iret (v := 0) hx hb hr hlocks hw [(h0, .inr (12, [.int 0, .ref h1, .ref h2, .ref h3, .ref h4, .ref h5, .int 20, .int 3, .int 50, .int (-1), .int (-1), .int (-1), .int (-1), .int 0, .int 100, .int 1000, .long 0]))] (⟨rfl, rfl⟩) [0] rfl (by decide) (Nat.le_of_ble_eq_true rfl) (Nat.le_of_ble_eq_true rfl) dX7_thrown_4
set_option maxHeartbeats 4000000 in
set_option maxRecDepth 100000 in
theorem cw_X7_is_34 (l : Launch) (E : rc_E) (sz : Nat) : rc_Mi l yX7_is [Cond.code yX7_is cX7_is 3 (some FieldType.boolean)] { frames := 0, cells := 0, slots := 0, locals := 0 } E [.int 20, .int 1, .int 39] [] sz (S := va_W) (fun (r : Int32) (u : va_W) => (1 = r ∧ u = [])) (fun u => u) 0 0 := by
  refine rc_ini (cc := cX7_is) (maxL := 3) (ret := (some FieldType.boolean)) (by decide) rfl (Nat.le_of_ble_eq_true rfl) ?_
  intro p e s m args below meth c ls A hx hb hr hml _ hown hlocks hin hA hAm hw hl
  have hown : s.vm.findClass RX7 = some m.cls := hown
  have hl : lv_has ls 3 [(0, .int 20), (1, .int 1), (2, .int 39)] := hl
  refine lv_iload_n hx hb dX7_is_0 rfl (lv_at hl 0 rfl) ?_
  refine lv_iload_n hx hb dX7_is_1 rfl (lv_at hl 1 rfl) ?_
  refine lv_icmp_lt (tgt := 14) hx hb dX7_is_2 (by decide) (fun c9 => absurd c9 (by decide)) (fun _ => ?_)
  refine lv_iload_n hx hb dX7_is_5 rfl (lv_at hl 0 rfl) ?_
  refine lv_iload_n hx hb dX7_is_6 rfl (lv_at hl 2 rfl) ?_
  refine lv_icmp_gt (tgt := 14) hx hb dX7_is_7 (by decide) (fun c9 => absurd c9 (by decide)) (fun _ => ?_)
  refine lv_iconst (v := 1) hx hb dX7_is_10 (by decide) ?_
  refine lv_goto (tgt := 15) hx hb dX7_is_11 (by decide) ?_
  exact rc_zret (v := 1) hx hb hr hlocks hw rfl [] (⟨rfl, rfl⟩) [] rfl (by decide) (Nat.le_of_ble_eq_true rfl) (Nat.le_of_ble_eq_true rfl) dX7_is_15
set_option maxHeartbeats 4000000 in
set_option maxRecDepth 100000 in
theorem cw_X7_changes_21 (l : Launch) (E : rc_E) (sz : Nat) (h0 : Nat) (h1 : Nat) (h2 : Nat) (h3 : Nat) (h4 : Nat) (h5 : Nat) : rc_Mi l yX7_changes [Cond.code yX7_changes cX7_changes 2 (some FieldType.int)] { frames := 1, cells := 0, slots := 0, locals := 22 } E [.ref h0, .int 20] [(h0, .inr (12, [.int 0, .ref h1, .ref h2, .ref h3, .ref h4, .ref h5, .int 1, .int 3, .int 50, .int (-1), .int (-1), .int (-1), .int (-1), .int 0, .int 100, .int 1000, .long 0]))] sz (S := va_W) (fun (r : Int32) (u : va_W) => (21 = r ∧ u = [(h0, .inr (12, [.int 0, .ref h1, .ref h2, .ref h3, .ref h4, .ref h5, .int 21, .int 3, .int 50, .int (-1), .int (-1), .int (-1), .int (-1), .int 0, .int 100, .int 1000, .long 0]))])) (fun u => u) 0 0 := by
  refine rc_ini (cc := cX7_changes) (maxL := 2) (ret := (some FieldType.int)) (by decide) rfl (Nat.le_of_ble_eq_true rfl) ?_
  intro p e s m args below meth c ls A hx hb hr hml _ hown hlocks hin hA hAm hw hl
  have hown : s.vm.findClass RX7 = some m.cls := hown
  have hl : lv_has ls 2 [(0, .ref h0), (1, .int 20)] := hl
  refine lv_aload_n hx hb dX7_changes_0 rfl (lv_at hl 0 rfl) ?_
  refine lv_iconst (v := 0) hx hb dX7_changes_1 (by decide) ?_
  refine rc_put hx hb hown hAm hw lyX7 tyX7 tyX7_ok nmX7 0 rfl rfl 0 (by decide) qw_860 (fun _ h9 => h9) rfl rfl (by decide +kernel) (Nat.le_of_ble_eq_true rfl) [(h0, .inr (12, [.int 0, .ref h1, .ref h2, .ref h3, .ref h4, .ref h5, .int 1, .int 3, .int 50, .int (-1), .int (-1), .int (-1), .int (-1), .int 0, .int 100, .int 1000, .long 0]))] rfl dX7_changes_2 (fun H locs hw => ?_)
  refine lv_iload_n hx hb dX7_changes_5 rfl (lv_at hl 1 rfl) ?_
  refine lv_iconst (v := 1) hx hb dX7_changes_6 (by decide) ?_
  refine lv_bipush (v := 39) hx hb dX7_changes_7 (by decide) ?_
  refine rc_calli (wr := [(h0, .inr (12, [.int 0, .ref h1, .ref h2, .ref h3, .ref h4, .ref h5, .int 1, .int 3, .int 50, .int (-1), .int (-1), .int (-1), .int (-1), .int 0, .int 100, .int 1000, .long 0]))]) (va_runS (As := [.int 20, .int 1, .int 39]) (rest := []) (Ts := []) ⟨hx, hb, hml, hown, fun _ h9 => absurd h9 List.not_mem_nil⟩ (cw_X7_is_34 l E _) (rc_cwS hAm qw_921 qw_13 qw_923 qw_922 rfl rfl hd_X7_is ⟨Nat.le_of_ble_eq_true rfl, Nat.le_of_ble_eq_true rfl⟩) (rc_preS hAm hA hw [] rfl rfl) rfl rfl hl.1 rfl (lv_room (Nat.le_of_ble_eq_true rfl)) dX7_changes_9 ⟨Nat.le_of_ble_eq_true rfl, Nat.le_of_ble_eq_true rfl⟩) hA hw [] [0] rfl rfl rfl (by decide) (fun r_1 u_2 H locs hp hw => ?_)
  obtain ⟨rfl, rfl⟩ := hp
  have hw : rc_W E A s [(h0, .inr (12, [.int 0, .ref h1, .ref h2, .ref h3, .ref h4, .ref h5, .int 1, .int 3, .int 50, .int (-1), .int (-1), .int (-1), .int (-1), .int 0, .int 100, .int 1000, .long 0]))] H locs := hw
  refine lv_if_ne (tgt := 21) hx hb dX7_changes_12 (by decide) (fun _ => ?_) (fun c9 => absurd c9 (by decide))
  refine lv_aload_n hx hb dX7_changes_21 rfl (lv_at hl 0 rfl) ?_
  refine rc_get (v := .int 1) hx hb hown hAm hw lyX7 0 rfl rfl 6 (by decide) qw_866 (fun _ h9 => h9) rfl dX7_changes_22 ?_
  refine lv_iload_n hx hb dX7_changes_25 rfl (lv_at hl 1 rfl) ?_
  refine lv_iadd hx hb dX7_changes_26 ?_
  refine rc_topi 21 (by decide) ?_
  refine lv_bipush (v := 40) hx hb dX7_changes_27 (by decide) ?_
  refine lv_icmp_le (tgt := 38) hx hb dX7_changes_29 (by decide) (fun _ => ?_) (fun c9 => absurd (by decide) c9)
  refine lv_aload_n hx hb dX7_changes_38 rfl (lv_at hl 0 rfl) ?_
  refine lv_dup hx hb dX7_changes_39 rfl ?_
  refine rc_get (v := .int 1) hx hb hown hAm hw lyX7 0 rfl rfl 6 (by decide) qw_866 (fun _ h9 => h9) rfl dX7_changes_40 ?_
  refine lv_iload_n hx hb dX7_changes_43 rfl (lv_at hl 1 rfl) ?_
  refine lv_iadd hx hb dX7_changes_44 ?_
  refine rc_topi 21 (by decide) ?_
  refine rc_put hx hb hown hAm hw lyX7 tyX7 tyX7_ok nmX7 0 rfl rfl 6 (by decide) qw_866 (fun _ h9 => h9) rfl rfl (by decide +kernel) (Nat.le_of_ble_eq_true rfl) [(h0, .inr (12, [.int 0, .ref h1, .ref h2, .ref h3, .ref h4, .ref h5, .int 21, .int 3, .int 50, .int (-1), .int (-1), .int (-1), .int (-1), .int 0, .int 100, .int 1000, .long 0]))] rfl dX7_changes_45 (fun H locs hw => ?_)
  refine lv_aload_n hx hb dX7_changes_48 rfl (lv_at hl 0 rfl) ?_
  refine rc_get (v := .int 21) hx hb hown hAm hw lyX7 0 rfl rfl 6 (by decide) qw_866 (fun _ h9 => h9) rfl dX7_changes_49 ?_
  exact rc_iret (v := 21) hx hb hr hlocks hw [(h0, .inr (12, [.int 0, .ref h1, .ref h2, .ref h3, .ref h4, .ref h5, .int 21, .int 3, .int 50, .int (-1), .int (-1), .int (-1), .int (-1), .int 0, .int 100, .int 1000, .long 0]))] (⟨rfl, rfl⟩) [0] rfl (by decide) (Nat.le_of_ble_eq_true rfl) (Nat.le_of_ble_eq_true rfl) dX7_changes_52
set_option maxHeartbeats 4000000 in
set_option maxRecDepth 100000 in
theorem cw_X7_thrown_23 (l : Launch) (E : rc_E) (sz : Nat) (h0 : Nat) (h1 : Nat) (h2 : Nat) (h3 : Nat) (h4 : Nat) (h5 : Nat) : rc_Mi l yX7_thrown [Cond.code yX7_thrown cX7_thrown 1 (some FieldType.int)] { frames := 0, cells := 0, slots := 0, locals := 0 } E [.ref h0] [(h0, .inr (12, [.int 0, .ref h1, .ref h2, .ref h3, .ref h4, .ref h5, .int 21, .int 3, .int 50, .int (-1), .int (-1), .int (-1), .int (-1), .int 0, .int 100, .int 1000, .long 0]))] sz (S := va_W) (fun (r : Int32) (u : va_W) => (0 = r ∧ u = [(h0, .inr (12, [.int 0, .ref h1, .ref h2, .ref h3, .ref h4, .ref h5, .int 21, .int 3, .int 50, .int (-1), .int (-1), .int (-1), .int (-1), .int 0, .int 100, .int 1000, .long 0]))])) (fun u => u) 0 0 := by
  refine rc_ini (cc := cX7_thrown) (maxL := 1) (ret := (some FieldType.int)) (by decide) rfl (Nat.le_of_ble_eq_true rfl) ?_
  intro p e s m args below meth c ls A hx hb hr hml _ hown hlocks hin hA hAm hw hl
  have hown : s.vm.findClass RX7 = some m.cls := hown
  have hl : lv_has ls 1 [(0, .ref h0)] := hl
  refine lv_aload_n hx hb dX7_thrown_0 rfl (lv_at hl 0 rfl) ?_
  refine rc_get (v := .int 0) hx hb hown hAm hw lyX7 0 rfl rfl 0 (by decide) qw_860 (fun _ h9 => h9) rfl dX7_thrown_1 ?_
  exact rc_iret (v := 0) hx hb hr hlocks hw [(h0, .inr (12, [.int 0, .ref h1, .ref h2, .ref h3, .ref h4, .ref h5, .int 21, .int 3, .int 50, .int (-1), .int (-1), .int (-1), .int (-1), .int 0, .int 100, .int 1000, .long 0]))] (⟨rfl, rfl⟩) [0] rfl (by decide) (Nat.le_of_ble_eq_true rfl) (Nat.le_of_ble_eq_true rfl) dX7_thrown_4
set_option maxHeartbeats 4000000 in
set_option maxRecDepth 100000 in
theorem cw_X7_is_35 (l : Launch) (E : rc_E) (sz : Nat) : rc_Mi l yX7_is [Cond.code yX7_is cX7_is 3 (some FieldType.boolean)] { frames := 0, cells := 0, slots := 0, locals := 0 } E [.int 21, .int 1, .int 39] [] sz (S := va_W) (fun (r : Int32) (u : va_W) => (1 = r ∧ u = [])) (fun u => u) 0 0 := by
  refine rc_ini (cc := cX7_is) (maxL := 3) (ret := (some FieldType.boolean)) (by decide) rfl (Nat.le_of_ble_eq_true rfl) ?_
  intro p e s m args below meth c ls A hx hb hr hml _ hown hlocks hin hA hAm hw hl
  have hown : s.vm.findClass RX7 = some m.cls := hown
  have hl : lv_has ls 3 [(0, .int 21), (1, .int 1), (2, .int 39)] := hl
  refine lv_iload_n hx hb dX7_is_0 rfl (lv_at hl 0 rfl) ?_
  refine lv_iload_n hx hb dX7_is_1 rfl (lv_at hl 1 rfl) ?_
  refine lv_icmp_lt (tgt := 14) hx hb dX7_is_2 (by decide) (fun c9 => absurd c9 (by decide)) (fun _ => ?_)
  refine lv_iload_n hx hb dX7_is_5 rfl (lv_at hl 0 rfl) ?_
  refine lv_iload_n hx hb dX7_is_6 rfl (lv_at hl 2 rfl) ?_
  refine lv_icmp_gt (tgt := 14) hx hb dX7_is_7 (by decide) (fun c9 => absurd c9 (by decide)) (fun _ => ?_)
  refine lv_iconst (v := 1) hx hb dX7_is_10 (by decide) ?_
  refine lv_goto (tgt := 15) hx hb dX7_is_11 (by decide) ?_
  exact rc_zret (v := 1) hx hb hr hlocks hw rfl [] (⟨rfl, rfl⟩) [] rfl (by decide) (Nat.le_of_ble_eq_true rfl) (Nat.le_of_ble_eq_true rfl) dX7_is_15
set_option maxHeartbeats 4000000 in
set_option maxRecDepth 100000 in
theorem cw_X7_changes_22 (l : Launch) (E : rc_E) (sz : Nat) (h0 : Nat) (h1 : Nat) (h2 : Nat) (h3 : Nat) (h4 : Nat) (h5 : Nat) : rc_Mi l yX7_changes [Cond.code yX7_changes cX7_changes 2 (some FieldType.int)] { frames := 1, cells := 0, slots := 0, locals := 22 } E [.ref h0, .int 21] [(h0, .inr (12, [.int 0, .ref h1, .ref h2, .ref h3, .ref h4, .ref h5, .int 1, .int 3, .int 50, .int (-1), .int (-1), .int (-1), .int (-1), .int 0, .int 100, .int 1000, .long 0]))] sz (S := va_W) (fun (r : Int32) (u : va_W) => (22 = r ∧ u = [(h0, .inr (12, [.int 0, .ref h1, .ref h2, .ref h3, .ref h4, .ref h5, .int 22, .int 3, .int 50, .int (-1), .int (-1), .int (-1), .int (-1), .int 0, .int 100, .int 1000, .long 0]))])) (fun u => u) 0 0 := by
  refine rc_ini (cc := cX7_changes) (maxL := 2) (ret := (some FieldType.int)) (by decide) rfl (Nat.le_of_ble_eq_true rfl) ?_
  intro p e s m args below meth c ls A hx hb hr hml _ hown hlocks hin hA hAm hw hl
  have hown : s.vm.findClass RX7 = some m.cls := hown
  have hl : lv_has ls 2 [(0, .ref h0), (1, .int 21)] := hl
  refine lv_aload_n hx hb dX7_changes_0 rfl (lv_at hl 0 rfl) ?_
  refine lv_iconst (v := 0) hx hb dX7_changes_1 (by decide) ?_
  refine rc_put hx hb hown hAm hw lyX7 tyX7 tyX7_ok nmX7 0 rfl rfl 0 (by decide) qw_860 (fun _ h9 => h9) rfl rfl (by decide +kernel) (Nat.le_of_ble_eq_true rfl) [(h0, .inr (12, [.int 0, .ref h1, .ref h2, .ref h3, .ref h4, .ref h5, .int 1, .int 3, .int 50, .int (-1), .int (-1), .int (-1), .int (-1), .int 0, .int 100, .int 1000, .long 0]))] rfl dX7_changes_2 (fun H locs hw => ?_)
  refine lv_iload_n hx hb dX7_changes_5 rfl (lv_at hl 1 rfl) ?_
  refine lv_iconst (v := 1) hx hb dX7_changes_6 (by decide) ?_
  refine lv_bipush (v := 39) hx hb dX7_changes_7 (by decide) ?_
  refine rc_calli (wr := [(h0, .inr (12, [.int 0, .ref h1, .ref h2, .ref h3, .ref h4, .ref h5, .int 1, .int 3, .int 50, .int (-1), .int (-1), .int (-1), .int (-1), .int 0, .int 100, .int 1000, .long 0]))]) (va_runS (As := [.int 21, .int 1, .int 39]) (rest := []) (Ts := []) ⟨hx, hb, hml, hown, fun _ h9 => absurd h9 List.not_mem_nil⟩ (cw_X7_is_35 l E _) (rc_cwS hAm qw_921 qw_13 qw_923 qw_922 rfl rfl hd_X7_is ⟨Nat.le_of_ble_eq_true rfl, Nat.le_of_ble_eq_true rfl⟩) (rc_preS hAm hA hw [] rfl rfl) rfl rfl hl.1 rfl (lv_room (Nat.le_of_ble_eq_true rfl)) dX7_changes_9 ⟨Nat.le_of_ble_eq_true rfl, Nat.le_of_ble_eq_true rfl⟩) hA hw [] [0] rfl rfl rfl (by decide) (fun r_1 u_2 H locs hp hw => ?_)
  obtain ⟨rfl, rfl⟩ := hp
  have hw : rc_W E A s [(h0, .inr (12, [.int 0, .ref h1, .ref h2, .ref h3, .ref h4, .ref h5, .int 1, .int 3, .int 50, .int (-1), .int (-1), .int (-1), .int (-1), .int 0, .int 100, .int 1000, .long 0]))] H locs := hw
  refine lv_if_ne (tgt := 21) hx hb dX7_changes_12 (by decide) (fun _ => ?_) (fun c9 => absurd c9 (by decide))
  refine lv_aload_n hx hb dX7_changes_21 rfl (lv_at hl 0 rfl) ?_
  refine rc_get (v := .int 1) hx hb hown hAm hw lyX7 0 rfl rfl 6 (by decide) qw_866 (fun _ h9 => h9) rfl dX7_changes_22 ?_
  refine lv_iload_n hx hb dX7_changes_25 rfl (lv_at hl 1 rfl) ?_
  refine lv_iadd hx hb dX7_changes_26 ?_
  refine rc_topi 22 (by decide) ?_
  refine lv_bipush (v := 40) hx hb dX7_changes_27 (by decide) ?_
  refine lv_icmp_le (tgt := 38) hx hb dX7_changes_29 (by decide) (fun _ => ?_) (fun c9 => absurd (by decide) c9)
  refine lv_aload_n hx hb dX7_changes_38 rfl (lv_at hl 0 rfl) ?_
  refine lv_dup hx hb dX7_changes_39 rfl ?_
  refine rc_get (v := .int 1) hx hb hown hAm hw lyX7 0 rfl rfl 6 (by decide) qw_866 (fun _ h9 => h9) rfl dX7_changes_40 ?_
  refine lv_iload_n hx hb dX7_changes_43 rfl (lv_at hl 1 rfl) ?_
  refine lv_iadd hx hb dX7_changes_44 ?_
  refine rc_topi 22 (by decide) ?_
  refine rc_put hx hb hown hAm hw lyX7 tyX7 tyX7_ok nmX7 0 rfl rfl 6 (by decide) qw_866 (fun _ h9 => h9) rfl rfl (by decide +kernel) (Nat.le_of_ble_eq_true rfl) [(h0, .inr (12, [.int 0, .ref h1, .ref h2, .ref h3, .ref h4, .ref h5, .int 22, .int 3, .int 50, .int (-1), .int (-1), .int (-1), .int (-1), .int 0, .int 100, .int 1000, .long 0]))] rfl dX7_changes_45 (fun H locs hw => ?_)
  refine lv_aload_n hx hb dX7_changes_48 rfl (lv_at hl 0 rfl) ?_
  refine rc_get (v := .int 22) hx hb hown hAm hw lyX7 0 rfl rfl 6 (by decide) qw_866 (fun _ h9 => h9) rfl dX7_changes_49 ?_
  exact rc_iret (v := 22) hx hb hr hlocks hw [(h0, .inr (12, [.int 0, .ref h1, .ref h2, .ref h3, .ref h4, .ref h5, .int 22, .int 3, .int 50, .int (-1), .int (-1), .int (-1), .int (-1), .int 0, .int 100, .int 1000, .long 0]))] (⟨rfl, rfl⟩) [0] rfl (by decide) (Nat.le_of_ble_eq_true rfl) (Nat.le_of_ble_eq_true rfl) dX7_changes_52
set_option maxHeartbeats 4000000 in
set_option maxRecDepth 100000 in
theorem cw_X7_thrown_24 (l : Launch) (E : rc_E) (sz : Nat) (h0 : Nat) (h1 : Nat) (h2 : Nat) (h3 : Nat) (h4 : Nat) (h5 : Nat) : rc_Mi l yX7_thrown [Cond.code yX7_thrown cX7_thrown 1 (some FieldType.int)] { frames := 0, cells := 0, slots := 0, locals := 0 } E [.ref h0] [(h0, .inr (12, [.int 0, .ref h1, .ref h2, .ref h3, .ref h4, .ref h5, .int 22, .int 3, .int 50, .int (-1), .int (-1), .int (-1), .int (-1), .int 0, .int 100, .int 1000, .long 0]))] sz (S := va_W) (fun (r : Int32) (u : va_W) => (0 = r ∧ u = [(h0, .inr (12, [.int 0, .ref h1, .ref h2, .ref h3, .ref h4, .ref h5, .int 22, .int 3, .int 50, .int (-1), .int (-1), .int (-1), .int (-1), .int 0, .int 100, .int 1000, .long 0]))])) (fun u => u) 0 0 := by
  refine rc_ini (cc := cX7_thrown) (maxL := 1) (ret := (some FieldType.int)) (by decide) rfl (Nat.le_of_ble_eq_true rfl) ?_
  intro p e s m args below meth c ls A hx hb hr hml _ hown hlocks hin hA hAm hw hl
  have hown : s.vm.findClass RX7 = some m.cls := hown
  have hl : lv_has ls 1 [(0, .ref h0)] := hl
  refine lv_aload_n hx hb dX7_thrown_0 rfl (lv_at hl 0 rfl) ?_
  refine rc_get (v := .int 0) hx hb hown hAm hw lyX7 0 rfl rfl 0 (by decide) qw_860 (fun _ h9 => h9) rfl dX7_thrown_1 ?_
  exact rc_iret (v := 0) hx hb hr hlocks hw [(h0, .inr (12, [.int 0, .ref h1, .ref h2, .ref h3, .ref h4, .ref h5, .int 22, .int 3, .int 50, .int (-1), .int (-1), .int (-1), .int (-1), .int 0, .int 100, .int 1000, .long 0]))] (⟨rfl, rfl⟩) [0] rfl (by decide) (Nat.le_of_ble_eq_true rfl) (Nat.le_of_ble_eq_true rfl) dX7_thrown_4
set_option maxHeartbeats 4000000 in
set_option maxRecDepth 100000 in
theorem cw_X7_is_36 (l : Launch) (E : rc_E) (sz : Nat) : rc_Mi l yX7_is [Cond.code yX7_is cX7_is 3 (some FieldType.boolean)] { frames := 0, cells := 0, slots := 0, locals := 0 } E [.int 22, .int 1, .int 39] [] sz (S := va_W) (fun (r : Int32) (u : va_W) => (1 = r ∧ u = [])) (fun u => u) 0 0 := by
  refine rc_ini (cc := cX7_is) (maxL := 3) (ret := (some FieldType.boolean)) (by decide) rfl (Nat.le_of_ble_eq_true rfl) ?_
  intro p e s m args below meth c ls A hx hb hr hml _ hown hlocks hin hA hAm hw hl
  have hown : s.vm.findClass RX7 = some m.cls := hown
  have hl : lv_has ls 3 [(0, .int 22), (1, .int 1), (2, .int 39)] := hl
  refine lv_iload_n hx hb dX7_is_0 rfl (lv_at hl 0 rfl) ?_
  refine lv_iload_n hx hb dX7_is_1 rfl (lv_at hl 1 rfl) ?_
  refine lv_icmp_lt (tgt := 14) hx hb dX7_is_2 (by decide) (fun c9 => absurd c9 (by decide)) (fun _ => ?_)
  refine lv_iload_n hx hb dX7_is_5 rfl (lv_at hl 0 rfl) ?_
  refine lv_iload_n hx hb dX7_is_6 rfl (lv_at hl 2 rfl) ?_
  refine lv_icmp_gt (tgt := 14) hx hb dX7_is_7 (by decide) (fun c9 => absurd c9 (by decide)) (fun _ => ?_)
  refine lv_iconst (v := 1) hx hb dX7_is_10 (by decide) ?_
  refine lv_goto (tgt := 15) hx hb dX7_is_11 (by decide) ?_
  exact rc_zret (v := 1) hx hb hr hlocks hw rfl [] (⟨rfl, rfl⟩) [] rfl (by decide) (Nat.le_of_ble_eq_true rfl) (Nat.le_of_ble_eq_true rfl) dX7_is_15
set_option maxHeartbeats 4000000 in
set_option maxRecDepth 100000 in
theorem cw_X7_changes_23 (l : Launch) (E : rc_E) (sz : Nat) (h0 : Nat) (h1 : Nat) (h2 : Nat) (h3 : Nat) (h4 : Nat) (h5 : Nat) : rc_Mi l yX7_changes [Cond.code yX7_changes cX7_changes 2 (some FieldType.int)] { frames := 1, cells := 0, slots := 0, locals := 22 } E [.ref h0, .int 22] [(h0, .inr (12, [.int 0, .ref h1, .ref h2, .ref h3, .ref h4, .ref h5, .int 1, .int 3, .int 50, .int (-1), .int (-1), .int (-1), .int (-1), .int 0, .int 100, .int 1000, .long 0]))] sz (S := va_W) (fun (r : Int32) (u : va_W) => (23 = r ∧ u = [(h0, .inr (12, [.int 0, .ref h1, .ref h2, .ref h3, .ref h4, .ref h5, .int 23, .int 3, .int 50, .int (-1), .int (-1), .int (-1), .int (-1), .int 0, .int 100, .int 1000, .long 0]))])) (fun u => u) 0 0 := by
  refine rc_ini (cc := cX7_changes) (maxL := 2) (ret := (some FieldType.int)) (by decide) rfl (Nat.le_of_ble_eq_true rfl) ?_
  intro p e s m args below meth c ls A hx hb hr hml _ hown hlocks hin hA hAm hw hl
  have hown : s.vm.findClass RX7 = some m.cls := hown
  have hl : lv_has ls 2 [(0, .ref h0), (1, .int 22)] := hl
  refine lv_aload_n hx hb dX7_changes_0 rfl (lv_at hl 0 rfl) ?_
  refine lv_iconst (v := 0) hx hb dX7_changes_1 (by decide) ?_
  refine rc_put hx hb hown hAm hw lyX7 tyX7 tyX7_ok nmX7 0 rfl rfl 0 (by decide) qw_860 (fun _ h9 => h9) rfl rfl (by decide +kernel) (Nat.le_of_ble_eq_true rfl) [(h0, .inr (12, [.int 0, .ref h1, .ref h2, .ref h3, .ref h4, .ref h5, .int 1, .int 3, .int 50, .int (-1), .int (-1), .int (-1), .int (-1), .int 0, .int 100, .int 1000, .long 0]))] rfl dX7_changes_2 (fun H locs hw => ?_)
  refine lv_iload_n hx hb dX7_changes_5 rfl (lv_at hl 1 rfl) ?_
  refine lv_iconst (v := 1) hx hb dX7_changes_6 (by decide) ?_
  refine lv_bipush (v := 39) hx hb dX7_changes_7 (by decide) ?_
  refine rc_calli (wr := [(h0, .inr (12, [.int 0, .ref h1, .ref h2, .ref h3, .ref h4, .ref h5, .int 1, .int 3, .int 50, .int (-1), .int (-1), .int (-1), .int (-1), .int 0, .int 100, .int 1000, .long 0]))]) (va_runS (As := [.int 22, .int 1, .int 39]) (rest := []) (Ts := []) ⟨hx, hb, hml, hown, fun _ h9 => absurd h9 List.not_mem_nil⟩ (cw_X7_is_36 l E _) (rc_cwS hAm qw_921 qw_13 qw_923 qw_922 rfl rfl hd_X7_is ⟨Nat.le_of_ble_eq_true rfl, Nat.le_of_ble_eq_true rfl⟩) (rc_preS hAm hA hw [] rfl rfl) rfl rfl hl.1 rfl (lv_room (Nat.le_of_ble_eq_true rfl)) dX7_changes_9 ⟨Nat.le_of_ble_eq_true rfl, Nat.le_of_ble_eq_true rfl⟩) hA hw [] [0] rfl rfl rfl (by decide) (fun r_1 u_2 H locs hp hw => ?_)
  obtain ⟨rfl, rfl⟩ := hp
  have hw : rc_W E A s [(h0, .inr (12, [.int 0, .ref h1, .ref h2, .ref h3, .ref h4, .ref h5, .int 1, .int 3, .int 50, .int (-1), .int (-1), .int (-1), .int (-1), .int 0, .int 100, .int 1000, .long 0]))] H locs := hw
  refine lv_if_ne (tgt := 21) hx hb dX7_changes_12 (by decide) (fun _ => ?_) (fun c9 => absurd c9 (by decide))
  refine lv_aload_n hx hb dX7_changes_21 rfl (lv_at hl 0 rfl) ?_
  refine rc_get (v := .int 1) hx hb hown hAm hw lyX7 0 rfl rfl 6 (by decide) qw_866 (fun _ h9 => h9) rfl dX7_changes_22 ?_
  refine lv_iload_n hx hb dX7_changes_25 rfl (lv_at hl 1 rfl) ?_
  refine lv_iadd hx hb dX7_changes_26 ?_
  refine rc_topi 23 (by decide) ?_
  refine lv_bipush (v := 40) hx hb dX7_changes_27 (by decide) ?_
  refine lv_icmp_le (tgt := 38) hx hb dX7_changes_29 (by decide) (fun _ => ?_) (fun c9 => absurd (by decide) c9)
  refine lv_aload_n hx hb dX7_changes_38 rfl (lv_at hl 0 rfl) ?_
  refine lv_dup hx hb dX7_changes_39 rfl ?_
  refine rc_get (v := .int 1) hx hb hown hAm hw lyX7 0 rfl rfl 6 (by decide) qw_866 (fun _ h9 => h9) rfl dX7_changes_40 ?_
  refine lv_iload_n hx hb dX7_changes_43 rfl (lv_at hl 1 rfl) ?_
  refine lv_iadd hx hb dX7_changes_44 ?_
  refine rc_topi 23 (by decide) ?_
  refine rc_put hx hb hown hAm hw lyX7 tyX7 tyX7_ok nmX7 0 rfl rfl 6 (by decide) qw_866 (fun _ h9 => h9) rfl rfl (by decide +kernel) (Nat.le_of_ble_eq_true rfl) [(h0, .inr (12, [.int 0, .ref h1, .ref h2, .ref h3, .ref h4, .ref h5, .int 23, .int 3, .int 50, .int (-1), .int (-1), .int (-1), .int (-1), .int 0, .int 100, .int 1000, .long 0]))] rfl dX7_changes_45 (fun H locs hw => ?_)
  refine lv_aload_n hx hb dX7_changes_48 rfl (lv_at hl 0 rfl) ?_
  refine rc_get (v := .int 23) hx hb hown hAm hw lyX7 0 rfl rfl 6 (by decide) qw_866 (fun _ h9 => h9) rfl dX7_changes_49 ?_
  exact rc_iret (v := 23) hx hb hr hlocks hw [(h0, .inr (12, [.int 0, .ref h1, .ref h2, .ref h3, .ref h4, .ref h5, .int 23, .int 3, .int 50, .int (-1), .int (-1), .int (-1), .int (-1), .int 0, .int 100, .int 1000, .long 0]))] (⟨rfl, rfl⟩) [0] rfl (by decide) (Nat.le_of_ble_eq_true rfl) (Nat.le_of_ble_eq_true rfl) dX7_changes_52
set_option maxHeartbeats 4000000 in
set_option maxRecDepth 100000 in
theorem cw_X7_thrown_25 (l : Launch) (E : rc_E) (sz : Nat) (h0 : Nat) (h1 : Nat) (h2 : Nat) (h3 : Nat) (h4 : Nat) (h5 : Nat) : rc_Mi l yX7_thrown [Cond.code yX7_thrown cX7_thrown 1 (some FieldType.int)] { frames := 0, cells := 0, slots := 0, locals := 0 } E [.ref h0] [(h0, .inr (12, [.int 0, .ref h1, .ref h2, .ref h3, .ref h4, .ref h5, .int 23, .int 3, .int 50, .int (-1), .int (-1), .int (-1), .int (-1), .int 0, .int 100, .int 1000, .long 0]))] sz (S := va_W) (fun (r : Int32) (u : va_W) => (0 = r ∧ u = [(h0, .inr (12, [.int 0, .ref h1, .ref h2, .ref h3, .ref h4, .ref h5, .int 23, .int 3, .int 50, .int (-1), .int (-1), .int (-1), .int (-1), .int 0, .int 100, .int 1000, .long 0]))])) (fun u => u) 0 0 := by
  refine rc_ini (cc := cX7_thrown) (maxL := 1) (ret := (some FieldType.int)) (by decide) rfl (Nat.le_of_ble_eq_true rfl) ?_
  intro p e s m args below meth c ls A hx hb hr hml _ hown hlocks hin hA hAm hw hl
  have hown : s.vm.findClass RX7 = some m.cls := hown
  have hl : lv_has ls 1 [(0, .ref h0)] := hl
  refine lv_aload_n hx hb dX7_thrown_0 rfl (lv_at hl 0 rfl) ?_
  refine rc_get (v := .int 0) hx hb hown hAm hw lyX7 0 rfl rfl 0 (by decide) qw_860 (fun _ h9 => h9) rfl dX7_thrown_1 ?_
  exact rc_iret (v := 0) hx hb hr hlocks hw [(h0, .inr (12, [.int 0, .ref h1, .ref h2, .ref h3, .ref h4, .ref h5, .int 23, .int 3, .int 50, .int (-1), .int (-1), .int (-1), .int (-1), .int 0, .int 100, .int 1000, .long 0]))] (⟨rfl, rfl⟩) [0] rfl (by decide) (Nat.le_of_ble_eq_true rfl) (Nat.le_of_ble_eq_true rfl) dX7_thrown_4
set_option maxHeartbeats 4000000 in
set_option maxRecDepth 100000 in
theorem cw_X7_is_37 (l : Launch) (E : rc_E) (sz : Nat) : rc_Mi l yX7_is [Cond.code yX7_is cX7_is 3 (some FieldType.boolean)] { frames := 0, cells := 0, slots := 0, locals := 0 } E [.int 23, .int 1, .int 39] [] sz (S := va_W) (fun (r : Int32) (u : va_W) => (1 = r ∧ u = [])) (fun u => u) 0 0 := by
  refine rc_ini (cc := cX7_is) (maxL := 3) (ret := (some FieldType.boolean)) (by decide) rfl (Nat.le_of_ble_eq_true rfl) ?_
  intro p e s m args below meth c ls A hx hb hr hml _ hown hlocks hin hA hAm hw hl
  have hown : s.vm.findClass RX7 = some m.cls := hown
  have hl : lv_has ls 3 [(0, .int 23), (1, .int 1), (2, .int 39)] := hl
  refine lv_iload_n hx hb dX7_is_0 rfl (lv_at hl 0 rfl) ?_
  refine lv_iload_n hx hb dX7_is_1 rfl (lv_at hl 1 rfl) ?_
  refine lv_icmp_lt (tgt := 14) hx hb dX7_is_2 (by decide) (fun c9 => absurd c9 (by decide)) (fun _ => ?_)
  refine lv_iload_n hx hb dX7_is_5 rfl (lv_at hl 0 rfl) ?_
  refine lv_iload_n hx hb dX7_is_6 rfl (lv_at hl 2 rfl) ?_
  refine lv_icmp_gt (tgt := 14) hx hb dX7_is_7 (by decide) (fun c9 => absurd c9 (by decide)) (fun _ => ?_)
  refine lv_iconst (v := 1) hx hb dX7_is_10 (by decide) ?_
  refine lv_goto (tgt := 15) hx hb dX7_is_11 (by decide) ?_
  exact rc_zret (v := 1) hx hb hr hlocks hw rfl [] (⟨rfl, rfl⟩) [] rfl (by decide) (Nat.le_of_ble_eq_true rfl) (Nat.le_of_ble_eq_true rfl) dX7_is_15
set_option maxHeartbeats 4000000 in
set_option maxRecDepth 100000 in
theorem cw_X7_changes_24 (l : Launch) (E : rc_E) (sz : Nat) (h0 : Nat) (h1 : Nat) (h2 : Nat) (h3 : Nat) (h4 : Nat) (h5 : Nat) : rc_Mi l yX7_changes [Cond.code yX7_changes cX7_changes 2 (some FieldType.int)] { frames := 1, cells := 0, slots := 0, locals := 22 } E [.ref h0, .int 23] [(h0, .inr (12, [.int 0, .ref h1, .ref h2, .ref h3, .ref h4, .ref h5, .int 1, .int 3, .int 50, .int (-1), .int (-1), .int (-1), .int (-1), .int 0, .int 100, .int 1000, .long 0]))] sz (S := va_W) (fun (r : Int32) (u : va_W) => (24 = r ∧ u = [(h0, .inr (12, [.int 0, .ref h1, .ref h2, .ref h3, .ref h4, .ref h5, .int 24, .int 3, .int 50, .int (-1), .int (-1), .int (-1), .int (-1), .int 0, .int 100, .int 1000, .long 0]))])) (fun u => u) 0 0 := by
  refine rc_ini (cc := cX7_changes) (maxL := 2) (ret := (some FieldType.int)) (by decide) rfl (Nat.le_of_ble_eq_true rfl) ?_
  intro p e s m args below meth c ls A hx hb hr hml _ hown hlocks hin hA hAm hw hl
  have hown : s.vm.findClass RX7 = some m.cls := hown
  have hl : lv_has ls 2 [(0, .ref h0), (1, .int 23)] := hl
  refine lv_aload_n hx hb dX7_changes_0 rfl (lv_at hl 0 rfl) ?_
  refine lv_iconst (v := 0) hx hb dX7_changes_1 (by decide) ?_
  refine rc_put hx hb hown hAm hw lyX7 tyX7 tyX7_ok nmX7 0 rfl rfl 0 (by decide) qw_860 (fun _ h9 => h9) rfl rfl (by decide +kernel) (Nat.le_of_ble_eq_true rfl) [(h0, .inr (12, [.int 0, .ref h1, .ref h2, .ref h3, .ref h4, .ref h5, .int 1, .int 3, .int 50, .int (-1), .int (-1), .int (-1), .int (-1), .int 0, .int 100, .int 1000, .long 0]))] rfl dX7_changes_2 (fun H locs hw => ?_)
  refine lv_iload_n hx hb dX7_changes_5 rfl (lv_at hl 1 rfl) ?_
  refine lv_iconst (v := 1) hx hb dX7_changes_6 (by decide) ?_
  refine lv_bipush (v := 39) hx hb dX7_changes_7 (by decide) ?_
  refine rc_calli (wr := [(h0, .inr (12, [.int 0, .ref h1, .ref h2, .ref h3, .ref h4, .ref h5, .int 1, .int 3, .int 50, .int (-1), .int (-1), .int (-1), .int (-1), .int 0, .int 100, .int 1000, .long 0]))]) (va_runS (As := [.int 23, .int 1, .int 39]) (rest := []) (Ts := []) ⟨hx, hb, hml, hown, fun _ h9 => absurd h9 List.not_mem_nil⟩ (cw_X7_is_37 l E _) (rc_cwS hAm qw_921 qw_13 qw_923 qw_922 rfl rfl hd_X7_is ⟨Nat.le_of_ble_eq_true rfl, Nat.le_of_ble_eq_true rfl⟩) (rc_preS hAm hA hw [] rfl rfl) rfl rfl hl.1 rfl (lv_room (Nat.le_of_ble_eq_true rfl)) dX7_changes_9 ⟨Nat.le_of_ble_eq_true rfl, Nat.le_of_ble_eq_true rfl⟩) hA hw [] [0] rfl rfl rfl (by decide) (fun r_1 u_2 H locs hp hw => ?_)
  obtain ⟨rfl, rfl⟩ := hp
  have hw : rc_W E A s [(h0, .inr (12, [.int 0, .ref h1, .ref h2, .ref h3, .ref h4, .ref h5, .int 1, .int 3, .int 50, .int (-1), .int (-1), .int (-1), .int (-1), .int 0, .int 100, .int 1000, .long 0]))] H locs := hw
  refine lv_if_ne (tgt := 21) hx hb dX7_changes_12 (by decide) (fun _ => ?_) (fun c9 => absurd c9 (by decide))
  refine lv_aload_n hx hb dX7_changes_21 rfl (lv_at hl 0 rfl) ?_
  refine rc_get (v := .int 1) hx hb hown hAm hw lyX7 0 rfl rfl 6 (by decide) qw_866 (fun _ h9 => h9) rfl dX7_changes_22 ?_
  refine lv_iload_n hx hb dX7_changes_25 rfl (lv_at hl 1 rfl) ?_
  refine lv_iadd hx hb dX7_changes_26 ?_
  refine rc_topi 24 (by decide) ?_
  refine lv_bipush (v := 40) hx hb dX7_changes_27 (by decide) ?_
  refine lv_icmp_le (tgt := 38) hx hb dX7_changes_29 (by decide) (fun _ => ?_) (fun c9 => absurd (by decide) c9)
  refine lv_aload_n hx hb dX7_changes_38 rfl (lv_at hl 0 rfl) ?_
  refine lv_dup hx hb dX7_changes_39 rfl ?_
  refine rc_get (v := .int 1) hx hb hown hAm hw lyX7 0 rfl rfl 6 (by decide) qw_866 (fun _ h9 => h9) rfl dX7_changes_40 ?_
  refine lv_iload_n hx hb dX7_changes_43 rfl (lv_at hl 1 rfl) ?_
  refine lv_iadd hx hb dX7_changes_44 ?_
  refine rc_topi 24 (by decide) ?_
  refine rc_put hx hb hown hAm hw lyX7 tyX7 tyX7_ok nmX7 0 rfl rfl 6 (by decide) qw_866 (fun _ h9 => h9) rfl rfl (by decide +kernel) (Nat.le_of_ble_eq_true rfl) [(h0, .inr (12, [.int 0, .ref h1, .ref h2, .ref h3, .ref h4, .ref h5, .int 24, .int 3, .int 50, .int (-1), .int (-1), .int (-1), .int (-1), .int 0, .int 100, .int 1000, .long 0]))] rfl dX7_changes_45 (fun H locs hw => ?_)
  refine lv_aload_n hx hb dX7_changes_48 rfl (lv_at hl 0 rfl) ?_
  refine rc_get (v := .int 24) hx hb hown hAm hw lyX7 0 rfl rfl 6 (by decide) qw_866 (fun _ h9 => h9) rfl dX7_changes_49 ?_
  exact rc_iret (v := 24) hx hb hr hlocks hw [(h0, .inr (12, [.int 0, .ref h1, .ref h2, .ref h3, .ref h4, .ref h5, .int 24, .int 3, .int 50, .int (-1), .int (-1), .int (-1), .int (-1), .int 0, .int 100, .int 1000, .long 0]))] (⟨rfl, rfl⟩) [0] rfl (by decide) (Nat.le_of_ble_eq_true rfl) (Nat.le_of_ble_eq_true rfl) dX7_changes_52
set_option maxHeartbeats 4000000 in
set_option maxRecDepth 100000 in
theorem cw_X7_thrown_26 (l : Launch) (E : rc_E) (sz : Nat) (h0 : Nat) (h1 : Nat) (h2 : Nat) (h3 : Nat) (h4 : Nat) (h5 : Nat) : rc_Mi l yX7_thrown [Cond.code yX7_thrown cX7_thrown 1 (some FieldType.int)] { frames := 0, cells := 0, slots := 0, locals := 0 } E [.ref h0] [(h0, .inr (12, [.int 0, .ref h1, .ref h2, .ref h3, .ref h4, .ref h5, .int 24, .int 3, .int 50, .int (-1), .int (-1), .int (-1), .int (-1), .int 0, .int 100, .int 1000, .long 0]))] sz (S := va_W) (fun (r : Int32) (u : va_W) => (0 = r ∧ u = [(h0, .inr (12, [.int 0, .ref h1, .ref h2, .ref h3, .ref h4, .ref h5, .int 24, .int 3, .int 50, .int (-1), .int (-1), .int (-1), .int (-1), .int 0, .int 100, .int 1000, .long 0]))])) (fun u => u) 0 0 := by
  refine rc_ini (cc := cX7_thrown) (maxL := 1) (ret := (some FieldType.int)) (by decide) rfl (Nat.le_of_ble_eq_true rfl) ?_
  intro p e s m args below meth c ls A hx hb hr hml _ hown hlocks hin hA hAm hw hl
  have hown : s.vm.findClass RX7 = some m.cls := hown
  have hl : lv_has ls 1 [(0, .ref h0)] := hl
  refine lv_aload_n hx hb dX7_thrown_0 rfl (lv_at hl 0 rfl) ?_
  refine rc_get (v := .int 0) hx hb hown hAm hw lyX7 0 rfl rfl 0 (by decide) qw_860 (fun _ h9 => h9) rfl dX7_thrown_1 ?_
  exact rc_iret (v := 0) hx hb hr hlocks hw [(h0, .inr (12, [.int 0, .ref h1, .ref h2, .ref h3, .ref h4, .ref h5, .int 24, .int 3, .int 50, .int (-1), .int (-1), .int (-1), .int (-1), .int 0, .int 100, .int 1000, .long 0]))] (⟨rfl, rfl⟩) [0] rfl (by decide) (Nat.le_of_ble_eq_true rfl) (Nat.le_of_ble_eq_true rfl) dX7_thrown_4
set_option maxHeartbeats 4000000 in
set_option maxRecDepth 100000 in
theorem cw_X7_is_38 (l : Launch) (E : rc_E) (sz : Nat) : rc_Mi l yX7_is [Cond.code yX7_is cX7_is 3 (some FieldType.boolean)] { frames := 0, cells := 0, slots := 0, locals := 0 } E [.int 24, .int 1, .int 39] [] sz (S := va_W) (fun (r : Int32) (u : va_W) => (1 = r ∧ u = [])) (fun u => u) 0 0 := by
  refine rc_ini (cc := cX7_is) (maxL := 3) (ret := (some FieldType.boolean)) (by decide) rfl (Nat.le_of_ble_eq_true rfl) ?_
  intro p e s m args below meth c ls A hx hb hr hml _ hown hlocks hin hA hAm hw hl
  have hown : s.vm.findClass RX7 = some m.cls := hown
  have hl : lv_has ls 3 [(0, .int 24), (1, .int 1), (2, .int 39)] := hl
  refine lv_iload_n hx hb dX7_is_0 rfl (lv_at hl 0 rfl) ?_
  refine lv_iload_n hx hb dX7_is_1 rfl (lv_at hl 1 rfl) ?_
  refine lv_icmp_lt (tgt := 14) hx hb dX7_is_2 (by decide) (fun c9 => absurd c9 (by decide)) (fun _ => ?_)
  refine lv_iload_n hx hb dX7_is_5 rfl (lv_at hl 0 rfl) ?_
  refine lv_iload_n hx hb dX7_is_6 rfl (lv_at hl 2 rfl) ?_
  refine lv_icmp_gt (tgt := 14) hx hb dX7_is_7 (by decide) (fun c9 => absurd c9 (by decide)) (fun _ => ?_)
  refine lv_iconst (v := 1) hx hb dX7_is_10 (by decide) ?_
  refine lv_goto (tgt := 15) hx hb dX7_is_11 (by decide) ?_
  exact rc_zret (v := 1) hx hb hr hlocks hw rfl [] (⟨rfl, rfl⟩) [] rfl (by decide) (Nat.le_of_ble_eq_true rfl) (Nat.le_of_ble_eq_true rfl) dX7_is_15
set_option maxHeartbeats 4000000 in
set_option maxRecDepth 100000 in
theorem cw_X7_changes_25 (l : Launch) (E : rc_E) (sz : Nat) (h0 : Nat) (h1 : Nat) (h2 : Nat) (h3 : Nat) (h4 : Nat) (h5 : Nat) : rc_Mi l yX7_changes [Cond.code yX7_changes cX7_changes 2 (some FieldType.int)] { frames := 1, cells := 0, slots := 0, locals := 22 } E [.ref h0, .int 24] [(h0, .inr (12, [.int 0, .ref h1, .ref h2, .ref h3, .ref h4, .ref h5, .int 1, .int 3, .int 50, .int (-1), .int (-1), .int (-1), .int (-1), .int 0, .int 100, .int 1000, .long 0]))] sz (S := va_W) (fun (r : Int32) (u : va_W) => (25 = r ∧ u = [(h0, .inr (12, [.int 0, .ref h1, .ref h2, .ref h3, .ref h4, .ref h5, .int 25, .int 3, .int 50, .int (-1), .int (-1), .int (-1), .int (-1), .int 0, .int 100, .int 1000, .long 0]))])) (fun u => u) 0 0 := by
  refine rc_ini (cc := cX7_changes) (maxL := 2) (ret := (some FieldType.int)) (by decide) rfl (Nat.le_of_ble_eq_true rfl) ?_
  intro p e s m args below meth c ls A hx hb hr hml _ hown hlocks hin hA hAm hw hl
  have hown : s.vm.findClass RX7 = some m.cls := hown
  have hl : lv_has ls 2 [(0, .ref h0), (1, .int 24)] := hl
  refine lv_aload_n hx hb dX7_changes_0 rfl (lv_at hl 0 rfl) ?_
  refine lv_iconst (v := 0) hx hb dX7_changes_1 (by decide) ?_
  refine rc_put hx hb hown hAm hw lyX7 tyX7 tyX7_ok nmX7 0 rfl rfl 0 (by decide) qw_860 (fun _ h9 => h9) rfl rfl (by decide +kernel) (Nat.le_of_ble_eq_true rfl) [(h0, .inr (12, [.int 0, .ref h1, .ref h2, .ref h3, .ref h4, .ref h5, .int 1, .int 3, .int 50, .int (-1), .int (-1), .int (-1), .int (-1), .int 0, .int 100, .int 1000, .long 0]))] rfl dX7_changes_2 (fun H locs hw => ?_)
  refine lv_iload_n hx hb dX7_changes_5 rfl (lv_at hl 1 rfl) ?_
  refine lv_iconst (v := 1) hx hb dX7_changes_6 (by decide) ?_
  refine lv_bipush (v := 39) hx hb dX7_changes_7 (by decide) ?_
  refine rc_calli (wr := [(h0, .inr (12, [.int 0, .ref h1, .ref h2, .ref h3, .ref h4, .ref h5, .int 1, .int 3, .int 50, .int (-1), .int (-1), .int (-1), .int (-1), .int 0, .int 100, .int 1000, .long 0]))]) (va_runS (As := [.int 24, .int 1, .int 39]) (rest := []) (Ts := []) ⟨hx, hb, hml, hown, fun _ h9 => absurd h9 List.not_mem_nil⟩ (cw_X7_is_38 l E _) (rc_cwS hAm qw_921 qw_13 qw_923 qw_922 rfl rfl hd_X7_is ⟨Nat.le_of_ble_eq_true rfl, Nat.le_of_ble_eq_true rfl⟩) (rc_preS hAm hA hw [] rfl rfl) rfl rfl hl.1 rfl (lv_room (Nat.le_of_ble_eq_true rfl)) dX7_changes_9 ⟨Nat.le_of_ble_eq_true rfl, Nat.le_of_ble_eq_true rfl⟩) hA hw [] [0] rfl rfl rfl (by decide) (fun r_1 u_2 H locs hp hw => ?_)
  obtain ⟨rfl, rfl⟩ := hp
  have hw : rc_W E A s [(h0, .inr (12, [.int 0, .ref h1, .ref h2, .ref h3, .ref h4, .ref h5, .int 1, .int 3, .int 50, .int (-1), .int (-1), .int (-1), .int (-1), .int 0, .int 100, .int 1000, .long 0]))] H locs := hw
  refine lv_if_ne (tgt := 21) hx hb dX7_changes_12 (by decide) (fun _ => ?_) (fun c9 => absurd c9 (by decide))
  refine lv_aload_n hx hb dX7_changes_21 rfl (lv_at hl 0 rfl) ?_
  refine rc_get (v := .int 1) hx hb hown hAm hw lyX7 0 rfl rfl 6 (by decide) qw_866 (fun _ h9 => h9) rfl dX7_changes_22 ?_
  refine lv_iload_n hx hb dX7_changes_25 rfl (lv_at hl 1 rfl) ?_
  refine lv_iadd hx hb dX7_changes_26 ?_
  refine rc_topi 25 (by decide) ?_
  refine lv_bipush (v := 40) hx hb dX7_changes_27 (by decide) ?_
  refine lv_icmp_le (tgt := 38) hx hb dX7_changes_29 (by decide) (fun _ => ?_) (fun c9 => absurd (by decide) c9)
  refine lv_aload_n hx hb dX7_changes_38 rfl (lv_at hl 0 rfl) ?_
  refine lv_dup hx hb dX7_changes_39 rfl ?_
  refine rc_get (v := .int 1) hx hb hown hAm hw lyX7 0 rfl rfl 6 (by decide) qw_866 (fun _ h9 => h9) rfl dX7_changes_40 ?_
  refine lv_iload_n hx hb dX7_changes_43 rfl (lv_at hl 1 rfl) ?_
  refine lv_iadd hx hb dX7_changes_44 ?_
  refine rc_topi 25 (by decide) ?_
  refine rc_put hx hb hown hAm hw lyX7 tyX7 tyX7_ok nmX7 0 rfl rfl 6 (by decide) qw_866 (fun _ h9 => h9) rfl rfl (by decide +kernel) (Nat.le_of_ble_eq_true rfl) [(h0, .inr (12, [.int 0, .ref h1, .ref h2, .ref h3, .ref h4, .ref h5, .int 25, .int 3, .int 50, .int (-1), .int (-1), .int (-1), .int (-1), .int 0, .int 100, .int 1000, .long 0]))] rfl dX7_changes_45 (fun H locs hw => ?_)
  refine lv_aload_n hx hb dX7_changes_48 rfl (lv_at hl 0 rfl) ?_
  refine rc_get (v := .int 25) hx hb hown hAm hw lyX7 0 rfl rfl 6 (by decide) qw_866 (fun _ h9 => h9) rfl dX7_changes_49 ?_
  exact rc_iret (v := 25) hx hb hr hlocks hw [(h0, .inr (12, [.int 0, .ref h1, .ref h2, .ref h3, .ref h4, .ref h5, .int 25, .int 3, .int 50, .int (-1), .int (-1), .int (-1), .int (-1), .int 0, .int 100, .int 1000, .long 0]))] (⟨rfl, rfl⟩) [0] rfl (by decide) (Nat.le_of_ble_eq_true rfl) (Nat.le_of_ble_eq_true rfl) dX7_changes_52
set_option maxHeartbeats 4000000 in
set_option maxRecDepth 100000 in
theorem cw_X7_thrown_27 (l : Launch) (E : rc_E) (sz : Nat) (h0 : Nat) (h1 : Nat) (h2 : Nat) (h3 : Nat) (h4 : Nat) (h5 : Nat) : rc_Mi l yX7_thrown [Cond.code yX7_thrown cX7_thrown 1 (some FieldType.int)] { frames := 0, cells := 0, slots := 0, locals := 0 } E [.ref h0] [(h0, .inr (12, [.int 0, .ref h1, .ref h2, .ref h3, .ref h4, .ref h5, .int 25, .int 3, .int 50, .int (-1), .int (-1), .int (-1), .int (-1), .int 0, .int 100, .int 1000, .long 0]))] sz (S := va_W) (fun (r : Int32) (u : va_W) => (0 = r ∧ u = [(h0, .inr (12, [.int 0, .ref h1, .ref h2, .ref h3, .ref h4, .ref h5, .int 25, .int 3, .int 50, .int (-1), .int (-1), .int (-1), .int (-1), .int 0, .int 100, .int 1000, .long 0]))])) (fun u => u) 0 0 := by
  refine rc_ini (cc := cX7_thrown) (maxL := 1) (ret := (some FieldType.int)) (by decide) rfl (Nat.le_of_ble_eq_true rfl) ?_
  intro p e s m args below meth c ls A hx hb hr hml _ hown hlocks hin hA hAm hw hl
  have hown : s.vm.findClass RX7 = some m.cls := hown
  have hl : lv_has ls 1 [(0, .ref h0)] := hl
  refine lv_aload_n hx hb dX7_thrown_0 rfl (lv_at hl 0 rfl) ?_
  refine rc_get (v := .int 0) hx hb hown hAm hw lyX7 0 rfl rfl 0 (by decide) qw_860 (fun _ h9 => h9) rfl dX7_thrown_1 ?_
  exact rc_iret (v := 0) hx hb hr hlocks hw [(h0, .inr (12, [.int 0, .ref h1, .ref h2, .ref h3, .ref h4, .ref h5, .int 25, .int 3, .int 50, .int (-1), .int (-1), .int (-1), .int (-1), .int 0, .int 100, .int 1000, .long 0]))] (⟨rfl, rfl⟩) [0] rfl (by decide) (Nat.le_of_ble_eq_true rfl) (Nat.le_of_ble_eq_true rfl) dX7_thrown_4
set_option maxHeartbeats 4000000 in
set_option maxRecDepth 100000 in
theorem cw_X7_is_39 (l : Launch) (E : rc_E) (sz : Nat) : rc_Mi l yX7_is [Cond.code yX7_is cX7_is 3 (some FieldType.boolean)] { frames := 0, cells := 0, slots := 0, locals := 0 } E [.int 25, .int 1, .int 39] [] sz (S := va_W) (fun (r : Int32) (u : va_W) => (1 = r ∧ u = [])) (fun u => u) 0 0 := by
  refine rc_ini (cc := cX7_is) (maxL := 3) (ret := (some FieldType.boolean)) (by decide) rfl (Nat.le_of_ble_eq_true rfl) ?_
  intro p e s m args below meth c ls A hx hb hr hml _ hown hlocks hin hA hAm hw hl
  have hown : s.vm.findClass RX7 = some m.cls := hown
  have hl : lv_has ls 3 [(0, .int 25), (1, .int 1), (2, .int 39)] := hl
  refine lv_iload_n hx hb dX7_is_0 rfl (lv_at hl 0 rfl) ?_
  refine lv_iload_n hx hb dX7_is_1 rfl (lv_at hl 1 rfl) ?_
  refine lv_icmp_lt (tgt := 14) hx hb dX7_is_2 (by decide) (fun c9 => absurd c9 (by decide)) (fun _ => ?_)
  refine lv_iload_n hx hb dX7_is_5 rfl (lv_at hl 0 rfl) ?_
  refine lv_iload_n hx hb dX7_is_6 rfl (lv_at hl 2 rfl) ?_
  refine lv_icmp_gt (tgt := 14) hx hb dX7_is_7 (by decide) (fun c9 => absurd c9 (by decide)) (fun _ => ?_)
  refine lv_iconst (v := 1) hx hb dX7_is_10 (by decide) ?_
  refine lv_goto (tgt := 15) hx hb dX7_is_11 (by decide) ?_
  exact rc_zret (v := 1) hx hb hr hlocks hw rfl [] (⟨rfl, rfl⟩) [] rfl (by decide) (Nat.le_of_ble_eq_true rfl) (Nat.le_of_ble_eq_true rfl) dX7_is_15
set_option maxHeartbeats 4000000 in
set_option maxRecDepth 100000 in
theorem cw_X7_changes_26 (l : Launch) (E : rc_E) (sz : Nat) (h0 : Nat) (h1 : Nat) (h2 : Nat) (h3 : Nat) (h4 : Nat) (h5 : Nat) : rc_Mi l yX7_changes [Cond.code yX7_changes cX7_changes 2 (some FieldType.int)] { frames := 1, cells := 0, slots := 0, locals := 22 } E [.ref h0, .int 25] [(h0, .inr (12, [.int 0, .ref h1, .ref h2, .ref h3, .ref h4, .ref h5, .int 1, .int 3, .int 50, .int (-1), .int (-1), .int (-1), .int (-1), .int 0, .int 100, .int 1000, .long 0]))] sz (S := va_W) (fun (r : Int32) (u : va_W) => (26 = r ∧ u = [(h0, .inr (12, [.int 0, .ref h1, .ref h2, .ref h3, .ref h4, .ref h5, .int 26, .int 3, .int 50, .int (-1), .int (-1), .int (-1), .int (-1), .int 0, .int 100, .int 1000, .long 0]))])) (fun u => u) 0 0 := by
  refine rc_ini (cc := cX7_changes) (maxL := 2) (ret := (some FieldType.int)) (by decide) rfl (Nat.le_of_ble_eq_true rfl) ?_
  intro p e s m args below meth c ls A hx hb hr hml _ hown hlocks hin hA hAm hw hl
  have hown : s.vm.findClass RX7 = some m.cls := hown
  have hl : lv_has ls 2 [(0, .ref h0), (1, .int 25)] := hl
  refine lv_aload_n hx hb dX7_changes_0 rfl (lv_at hl 0 rfl) ?_
  refine lv_iconst (v := 0) hx hb dX7_changes_1 (by decide) ?_
  refine rc_put hx hb hown hAm hw lyX7 tyX7 tyX7_ok nmX7 0 rfl rfl 0 (by decide) qw_860 (fun _ h9 => h9) rfl rfl (by decide +kernel) (Nat.le_of_ble_eq_true rfl) [(h0, .inr (12, [.int 0, .ref h1, .ref h2, .ref h3, .ref h4, .ref h5, .int 1, .int 3, .int 50, .int (-1), .int (-1), .int (-1), .int (-1), .int 0, .int 100, .int 1000, .long 0]))] rfl dX7_changes_2 (fun H locs hw => ?_)
  refine lv_iload_n hx hb dX7_changes_5 rfl (lv_at hl 1 rfl) ?_
  refine lv_iconst (v := 1) hx hb dX7_changes_6 (by decide) ?_
  refine lv_bipush (v := 39) hx hb dX7_changes_7 (by decide) ?_
  refine rc_calli (wr := [(h0, .inr (12, [.int 0, .ref h1, .ref h2, .ref h3, .ref h4, .ref h5, .int 1, .int 3, .int 50, .int (-1), .int (-1), .int (-1), .int (-1), .int 0, .int 100, .int 1000, .long 0]))]) (va_runS (As := [.int 25, .int 1, .int 39]) (rest := []) (Ts := []) ⟨hx, hb, hml, hown, fun _ h9 => absurd h9 List.not_mem_nil⟩ (cw_X7_is_39 l E _) (rc_cwS hAm qw_921 qw_13 qw_923 qw_922 rfl rfl hd_X7_is ⟨Nat.le_of_ble_eq_true rfl, Nat.le_of_ble_eq_true rfl⟩) (rc_preS hAm hA hw [] rfl rfl) rfl rfl hl.1 rfl (lv_room (Nat.le_of_ble_eq_true rfl)) dX7_changes_9 ⟨Nat.le_of_ble_eq_true rfl, Nat.le_of_ble_eq_true rfl⟩) hA hw [] [0] rfl rfl rfl (by decide) (fun r_1 u_2 H locs hp hw => ?_)
  obtain ⟨rfl, rfl⟩ := hp
  have hw : rc_W E A s [(h0, .inr (12, [.int 0, .ref h1, .ref h2, .ref h3, .ref h4, .ref h5, .int 1, .int 3, .int 50, .int (-1), .int (-1), .int (-1), .int (-1), .int 0, .int 100, .int 1000, .long 0]))] H locs := hw
  refine lv_if_ne (tgt := 21) hx hb dX7_changes_12 (by decide) (fun _ => ?_) (fun c9 => absurd c9 (by decide))
  refine lv_aload_n hx hb dX7_changes_21 rfl (lv_at hl 0 rfl) ?_
  refine rc_get (v := .int 1) hx hb hown hAm hw lyX7 0 rfl rfl 6 (by decide) qw_866 (fun _ h9 => h9) rfl dX7_changes_22 ?_
  refine lv_iload_n hx hb dX7_changes_25 rfl (lv_at hl 1 rfl) ?_
  refine lv_iadd hx hb dX7_changes_26 ?_
  refine rc_topi 26 (by decide) ?_
  refine lv_bipush (v := 40) hx hb dX7_changes_27 (by decide) ?_
  refine lv_icmp_le (tgt := 38) hx hb dX7_changes_29 (by decide) (fun _ => ?_) (fun c9 => absurd (by decide) c9)
  refine lv_aload_n hx hb dX7_changes_38 rfl (lv_at hl 0 rfl) ?_
  refine lv_dup hx hb dX7_changes_39 rfl ?_
  refine rc_get (v := .int 1) hx hb hown hAm hw lyX7 0 rfl rfl 6 (by decide) qw_866 (fun _ h9 => h9) rfl dX7_changes_40 ?_
  refine lv_iload_n hx hb dX7_changes_43 rfl (lv_at hl 1 rfl) ?_
  refine lv_iadd hx hb dX7_changes_44 ?_
  refine rc_topi 26 (by decide) ?_
  refine rc_put hx hb hown hAm hw lyX7 tyX7 tyX7_ok nmX7 0 rfl rfl 6 (by decide) qw_866 (fun _ h9 => h9) rfl rfl (by decide +kernel) (Nat.le_of_ble_eq_true rfl) [(h0, .inr (12, [.int 0, .ref h1, .ref h2, .ref h3, .ref h4, .ref h5, .int 26, .int 3, .int 50, .int (-1), .int (-1), .int (-1), .int (-1), .int 0, .int 100, .int 1000, .long 0]))] rfl dX7_changes_45 (fun H locs hw => ?_)
  refine lv_aload_n hx hb dX7_changes_48 rfl (lv_at hl 0 rfl) ?_
  refine rc_get (v := .int 26) hx hb hown hAm hw lyX7 0 rfl rfl 6 (by decide) qw_866 (fun _ h9 => h9) rfl dX7_changes_49 ?_
  exact rc_iret (v := 26) hx hb hr hlocks hw [(h0, .inr (12, [.int 0, .ref h1, .ref h2, .ref h3, .ref h4, .ref h5, .int 26, .int 3, .int 50, .int (-1), .int (-1), .int (-1), .int (-1), .int 0, .int 100, .int 1000, .long 0]))] (⟨rfl, rfl⟩) [0] rfl (by decide) (Nat.le_of_ble_eq_true rfl) (Nat.le_of_ble_eq_true rfl) dX7_changes_52
