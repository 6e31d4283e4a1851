set_option maxHeartbeats 4000000 in
set_option maxRecDepth 100000 in
theorem cw_X7_is (l : Launch) (E : rc_E) (sz : Nat) (x0 : Int32) : rc_Mi l yX7_is [Cond.code yX7_is cX7_is 3 (some FieldType.boolean)] { frames := 0, cells := 0, slots := 0, locals := 0 } E [.int x0, .int 0, .int (-1)] [] sz (S := va_W) (fun (r : Int32) (u : va_W) => (x0 < 0 ∧ 0 = r ∧ u = []) ∨ (¬ x0 < 0 ∧ 0 = r ∧ u = [])) (fun u => u) 0 0 := by
  refine rc_ini (cc := cX7_is) (maxL := 3) (ret := (some FieldType.boolean)) (by decide) rfl (Nat.le_of_ble_eq_true rfl) ?_
  intro p e s m args below meth c ls A hx hb hr hml _ hown hlocks hin hA hAm hw hl
  have hown : s.vm.findClass RX7 = some m.cls := hown
  have hl : lv_has ls 3 [(0, .int x0), (1, .int 0), (2, .int (-1))] := hl
  refine lv_iload_n hx hb dX7_is_0 rfl (lv_at hl 0 rfl) ?_
  refine lv_iload_n hx hb dX7_is_1 rfl (lv_at hl 1 rfl) ?_
  refine lv_icmp_lt (tgt := 14) hx hb dX7_is_2 (by decide) (fun c_1 => ?_) (fun c_1 => ?_)
  · refine lv_iconst (v := 0) hx hb dX7_is_14 (by decide) ?_
    exact rc_zret (v := 0) hx hb hr hlocks hw rfl [] (Or.inl ⟨c_1, rfl, rfl⟩) [] rfl (by decide) (Nat.le_of_ble_eq_true rfl) (Nat.le_of_ble_eq_true rfl) dX7_is_15
  · refine lv_iload_n hx hb dX7_is_5 rfl (lv_at hl 0 rfl) ?_
    refine lv_iload_n hx hb dX7_is_6 rfl (lv_at hl 2 rfl) ?_
    refine lv_icmp_gt (tgt := 14) hx hb dX7_is_7 (by decide) (fun _ => ?_) (fun c9 => (show False by have g_c_1 := rc_n1 (b := 0) c_1 rfl; have g_c9 := rc_n2 (b := (-1)) c9 rfl; omega).elim)
    refine lv_iconst (v := 0) hx hb dX7_is_14 (by decide) ?_
    exact rc_zret (v := 0) hx hb hr hlocks hw rfl [] (Or.inr ⟨c_1, rfl, rfl⟩) [] rfl (by decide) (Nat.le_of_ble_eq_true rfl) (Nat.le_of_ble_eq_true rfl) dX7_is_15
theorem hd_X7_is : yX7_is.cls ≠ "java/lang/invoke/MethodHandle" ∧ yX7_is.cls ≠ "java/lang/invoke/VarHandle" ∧ (parseMethodDescriptor yX7_is.desc).map (fun d => d.parameters.length) = some 3 := by decide +kernel
set_option maxHeartbeats 4000000 in
set_option maxRecDepth 100000 in
theorem cw_X7_isMachine (l : Launch) (E : rc_E) (sz : Nat) (h0 : Nat) (x0 : Int32) (h1 : Nat) (h2 : Nat) (h3 : Nat) (h4 : Nat) (h5 : Nat) : rc_Mi l yX7_isMachine [Cond.code yX7_isMachine cX7_isMachine 2 (some FieldType.boolean)] { frames := 1, cells := 0, slots := 0, locals := 22 } E [.ref h0, .int x0] [(h0, .inr (12, [.int 0, .ref h1, .ref h2, .ref h3, .ref h4, .ref h5, .int 1, .int 3, .int 50, .int (-1), .int (-1), .int (-1), .int (-1), .int 0, .int 100, .int 1000, .long 0])), (h2, .inr (4, [.int 0, .ref (E.2.2 0), .int 0]))] sz (S := va_W) (fun (r : Int32) (u : va_W) => (x0 < 0 ∧ 0 = r ∧ u = [(h0, .inr (12, [.int 0, .ref h1, .ref h2, .ref h3, .ref h4, .ref h5, .int 1, .int 3, .int 50, .int (-1), .int (-1), .int (-1), .int (-1), .int 0, .int 100, .int 1000, .long 0])), (h2, .inr (4, [.int 0, .ref (E.2.2 0), .int 0]))]) ∨ (¬ x0 < 0 ∧ 0 = r ∧ u = [(h0, .inr (12, [.int 0, .ref h1, .ref h2, .ref h3, .ref h4, .ref h5, .int 1, .int 3, .int 50, .int (-1), .int (-1), .int (-1), .int (-1), .int 0, .int 100, .int 1000, .long 0])), (h2, .inr (4, [.int 0, .ref (E.2.2 0), .int 0]))])) (fun u => u) 0 0 := by
  refine rc_ini (cc := cX7_isMachine) (maxL := 2) (ret := (some FieldType.boolean)) (by decide) rfl (Nat.le_of_ble_eq_true rfl) ?_
  intro p e s m args below meth c ls A hx hb hr hml _ hown hlocks hin hA hAm hw hl
  have hown : s.vm.findClass RX7 = some m.cls := hown
  have hl : lv_has ls 2 [(0, .ref h0), (1, .int x0)] := hl
  refine lv_iload_n hx hb dX7_isMachine_0 rfl (lv_at hl 1 rfl) ?_
  refine lv_iconst (v := 0) hx hb dX7_isMachine_1 (by decide) ?_
  refine lv_aload_n hx hb dX7_isMachine_2 rfl (lv_at hl 0 rfl) ?_
  refine rc_get (v := .ref h2) hx hb hown hAm hw lyX7 0 rfl rfl 2 (by decide) qw_862 (fun _ h9 => h9) rfl dX7_isMachine_3 ?_
  refine rc_calli (wr := [(h0, .inr (12, [.int 0, .ref h1, .ref h2, .ref h3, .ref h4, .ref h5, .int 1, .int 3, .int 50, .int (-1), .int (-1), .int (-1), .int (-1), .int 0, .int 100, .int 1000, .long 0]))]) (va_runV (As := []) (rest := [.int 0, .int x0]) (Ts := []) ⟨hx, hb, hml, hown, fun _ h9 => absurd h9 List.not_mem_nil⟩ (cw_Jx4a65c_size_8abf5 l E _ h2) (rc_cwV hAm qw_928 qw_4 qw_289 qw_287 qw_288 rfl rfl hd_Jx4a65c_size_8abf5 ⟨Nat.le_of_ble_eq_true rfl, Nat.le_of_ble_eq_true rfl⟩) (rc_preV hAm hA hw [1] rfl rfl 1 rfl (q := vwCl[4]) rfl) rfl rfl hl.1 rfl (lv_room (Nat.le_of_ble_eq_true rfl)) dX7_isMachine_6 ⟨Nat.le_of_ble_eq_true rfl, Nat.le_of_ble_eq_true rfl⟩) hA hw [1] [0] rfl rfl rfl (by decide) (fun r_1 u_2 H locs hp hw => ?_)
  obtain ⟨rfl, rfl⟩ := hp
  have hw : rc_W E A s [(h0, .inr (12, [.int 0, .ref h1, .ref h2, .ref h3, .ref h4, .ref h5, .int 1, .int 3, .int 50, .int (-1), .int (-1), .int (-1), .int (-1), .int 0, .int 100, .int 1000, .long 0])), (h2, .inr (4, [.int 0, .ref (E.2.2 0), .int 0]))] H locs := hw
  refine lv_iconst (v := 1) hx hb dX7_isMachine_9 (by decide) ?_
  refine lv_isub hx hb dX7_isMachine_10 ?_
  refine rc_topi (-1) (by decide) ?_
  refine rc_calli (wr := [(h0, .inr (12, [.int 0, .ref h1, .ref h2, .ref h3, .ref h4, .ref h5, .int 1, .int 3, .int 50, .int (-1), .int (-1), .int (-1), .int (-1), .int 0, .int 100, .int 1000, .long 0])), (h2, .inr (4, [.int 0, .ref (E.2.2 0), .int 0]))]) (va_runS (As := [.int x0, .int 0, .int (-1)]) (rest := []) (Ts := []) ⟨hx, hb, hml, hown, fun _ h9 => absurd h9 List.not_mem_nil⟩ (cw_X7_is l E _ x0) (rc_cwS hAm qw_921 qw_13 qw_923 qw_922 rfl rfl hd_X7_is ⟨Nat.le_of_ble_eq_true rfl, Nat.le_of_ble_eq_true rfl⟩) (rc_preS hAm hA hw [] rfl rfl) rfl rfl hl.1 rfl (lv_room (Nat.le_of_ble_eq_true rfl)) dX7_isMachine_11 ⟨Nat.le_of_ble_eq_true rfl, Nat.le_of_ble_eq_true rfl⟩) hA hw [] [0, 1] rfl rfl rfl (by decide) (fun r_3 u_4 H locs hp hw => ?_)
  rcases hp with ⟨c_5, rfl, rfl⟩ | ⟨c_6, rfl, rfl⟩
  · have hw : rc_W E A s [(h0, .inr (12, [.int 0, .ref h1, .ref h2, .ref h3, .ref h4, .ref h5, .int 1, .int 3, .int 50, .int (-1), .int (-1), .int (-1), .int (-1), .int 0, .int 100, .int 1000, .long 0])), (h2, .inr (4, [.int 0, .ref (E.2.2 0), .int 0]))] H locs := hw
    exact rc_zret (v := 0) hx hb hr hlocks hw rfl [(h0, .inr (12, [.int 0, .ref h1, .ref h2, .ref h3, .ref h4, .ref h5, .int 1, .int 3, .int 50, .int (-1), .int (-1), .int (-1), .int (-1), .int 0, .int 100, .int 1000, .long 0])), (h2, .inr (4, [.int 0, .ref (E.2.2 0), .int 0]))] (Or.inl ⟨c_5, rfl, rfl⟩) [0, 1] rfl (by decide) (Nat.le_of_ble_eq_true rfl) (Nat.le_of_ble_eq_true rfl) dX7_isMachine_14
  · have hw : rc_W E A s [(h0, .inr (12, [.int 0, .ref h1, .ref h2, .ref h3, .ref h4, .ref h5, .int 1, .int 3, .int 50, .int (-1), .int (-1), .int (-1), .int (-1), .int 0, .int 100, .int 1000, .long 0])), (h2, .inr (4, [.int 0, .ref (E.2.2 0), .int 0]))] H locs := hw
    exact rc_zret (v := 0) hx hb hr hlocks hw rfl [(h0, .inr (12, [.int 0, .ref h1, .ref h2, .ref h3, .ref h4, .ref h5, .int 1, .int 3, .int 50, .int (-1), .int (-1), .int (-1), .int (-1), .int 0, .int 100, .int 1000, .long 0])), (h2, .inr (4, [.int 0, .ref (E.2.2 0), .int 0]))] (Or.inr ⟨c_6, rfl, rfl⟩) [0, 1] rfl (by decide) (Nat.le_of_ble_eq_true rfl) (Nat.le_of_ble_eq_true rfl) dX7_isMachine_14
theorem hd_X7_isMachine : yX7_isMachine.cls ≠ "java/lang/invoke/MethodHandle" ∧ yX7_isMachine.cls ≠ "java/lang/invoke/VarHandle" ∧ (parseMethodDescriptor yX7_isMachine.desc).map (fun d => d.parameters.length) = some 1 := by decide +kernel
set_option maxHeartbeats 4000000 in
set_option maxRecDepth 100000 in
theorem cw_X7_measure (l : Launch) (E : rc_E) (sz : Nat) (h0 : Nat) (x0 : Int32) (x1 : Int32) (h1 : Nat) (h2 : Nat) (h3 : Nat) (h4 : Nat) (h5 : Nat) : rc_Mi l yX7_measure [Cond.code yX7_measure cX7_measure 3 (some FieldType.boolean)] { frames := 2, cells := 0, slots := 0, locals := 43 } E [.ref h0, .int x0, .int x1] [(h0, .inr (12, [.int 0, .ref h1, .ref h2, .ref h3, .ref h4, .ref h5, .int 1, .int 3, .int 50, .int (-1), .int (-1), .int (-1), .int (-1), .int 0, .int 100, .int 1000, .long 0])), (h2, .inr (4, [.int 0, .ref (E.2.2 0), .int 0]))] sz (S := va_W) (fun (r : Int32) (u : va_W) => (x0 < 0 ∧ 0 = r ∧ u = [(h0, .inr (12, [.int 1, .ref h1, .ref h2, .ref h3, .ref h4, .ref h5, .int 1, .int 3, .int 50, .int (-1), .int (-1), .int (-1), .int (-1), .int 0, .int 100, .int 1000, .long 0])), (h2, .inr (4, [.int 0, .ref (E.2.2 0), .int 0]))]) ∨ (¬ x0 < 0 ∧ 0 = r ∧ u = [(h0, .inr (12, [.int 1, .ref h1, .ref h2, .ref h3, .ref h4, .ref h5, .int 1, .int 3, .int 50, .int (-1), .int (-1), .int (-1), .int (-1), .int 0, .int 100, .int 1000, .long 0])), (h2, .inr (4, [.int 0, .ref (E.2.2 0), .int 0]))])) (fun u => u) 0 0 := by
  refine rc_ini (cc := cX7_measure) (maxL := 3) (ret := (some FieldType.boolean)) (by decide) rfl (Nat.le_of_ble_eq_true rfl) ?_
  intro p e s m args below meth c ls A hx hb hr hml _ hown hlocks hin hA hAm hw hl
  have hown : s.vm.findClass RX7 = some m.cls := hown
  have hl : lv_has ls 3 [(0, .ref h0), (1, .int x0), (2, .int x1)] := hl
  refine lv_aload_n hx hb dX7_measure_0 rfl (lv_at hl 0 rfl) ?_
  refine lv_aload_n hx hb dX7_measure_1 rfl (lv_at hl 0 rfl) ?_
  refine lv_iload_n hx hb dX7_measure_2 rfl (lv_at hl 1 rfl) ?_
  refine rc_calli (wr := []) (va_runV (As := [.int x0]) (rest := [.ref h0]) (Ts := []) ⟨hx, hb, hml, hown, fun _ h9 => absurd h9 List.not_mem_nil⟩ (cw_X7_isMachine l E _ h0 x0 h1 h2 h3 h4 h5) (rc_cwV hAm qw_954 qw_13 qw_957 qw_956 qs_51 rfl rfl hd_X7_isMachine ⟨Nat.le_of_ble_eq_true rfl, Nat.le_of_ble_eq_true rfl⟩) (rc_preV hAm hA hw [0, 1] rfl rfl 0 rfl (q := vwCl[12]) rfl) rfl rfl hl.1 rfl (lv_room (Nat.le_of_ble_eq_true rfl)) dX7_measure_3 ⟨Nat.le_of_ble_eq_true rfl, Nat.le_of_ble_eq_true rfl⟩) hA hw [0, 1] [] rfl rfl rfl (by decide) (fun r_1 u_2 H locs hp hw => ?_)
  rcases hp with ⟨c_3, rfl, rfl⟩ | ⟨c_4, rfl, rfl⟩
  · have hw : rc_W E A s [(h0, .inr (12, [.int 0, .ref h1, .ref h2, .ref h3, .ref h4, .ref h5, .int 1, .int 3, .int 50, .int (-1), .int (-1), .int (-1), .int (-1), .int 0, .int 100, .int 1000, .long 0])), (h2, .inr (4, [.int 0, .ref (E.2.2 0), .int 0]))] H locs := hw
    refine lv_if_ne (tgt := 13) hx hb dX7_measure_6 (by decide) (fun c9 => absurd (by decide) c9) (fun _ => ?_)
    refine lv_iconst (v := 1) hx hb dX7_measure_9 (by decide) ?_
    refine lv_goto (tgt := 30) hx hb dX7_measure_10 (by decide) ?_
    refine rc_put hx hb hown hAm hw lyX7 tyX7 tyX7_ok nmX7 0 rfl rfl 0 (by decide) qw_860 (fun _ h9 => h9) rfl rfl (by decide +kernel) (Nat.le_of_ble_eq_true rfl) [(h0, .inr (12, [.int 1, .ref h1, .ref h2, .ref h3, .ref h4, .ref h5, .int 1, .int 3, .int 50, .int (-1), .int (-1), .int (-1), .int (-1), .int 0, .int 100, .int 1000, .long 0])), (h2, .inr (4, [.int 0, .ref (E.2.2 0), .int 0]))] rfl dX7_measure_30 (fun H locs hw => ?_)
    refine lv_aload_n hx hb dX7_measure_33 rfl (lv_at hl 0 rfl) ?_
    refine rc_get (v := .int 1) hx hb hown hAm hw lyX7 0 rfl rfl 0 (by decide) qw_860 (fun _ h9 => h9) rfl dX7_measure_34 ?_
    refine lv_if_le (tgt := 42) hx hb dX7_measure_37 (by decide) (fun c9 => absurd c9 (by decide)) (fun _ => ?_)
    refine lv_iconst (v := 0) hx hb dX7_measure_40 (by decide) ?_
    exact rc_zret (v := 0) hx hb hr hlocks hw rfl [(h0, .inr (12, [.int 1, .ref h1, .ref h2, .ref h3, .ref h4, .ref h5, .int 1, .int 3, .int 50, .int (-1), .int (-1), .int (-1), .int (-1), .int 0, .int 100, .int 1000, .long 0])), (h2, .inr (4, [.int 0, .ref (E.2.2 0), .int 0]))] (Or.inl ⟨c_3, rfl, rfl⟩) [0, 1] rfl (by decide) (Nat.le_of_ble_eq_true rfl) (Nat.le_of_ble_eq_true rfl) dX7_measure_41
  · have hw : rc_W E A s [(h0, .inr (12, [.int 0, .ref h1, .ref h2, .ref h3, .ref h4, .ref h5, .int 1, .int 3, .int 50, .int (-1), .int (-1), .int (-1), .int (-1), .int 0, .int 100, .int 1000, .long 0])), (h2, .inr (4, [.int 0, .ref (E.2.2 0), .int 0]))] H locs := hw
    refine lv_if_ne (tgt := 13) hx hb dX7_measure_6 (by decide) (fun c9 => absurd (by decide) c9) (fun _ => ?_)
    refine lv_iconst (v := 1) hx hb dX7_measure_9 (by decide) ?_
    refine lv_goto (tgt := 30) hx hb dX7_measure_10 (by decide) ?_
    refine rc_put hx hb hown hAm hw lyX7 tyX7 tyX7_ok nmX7 0 rfl rfl 0 (by decide) qw_860 (fun _ h9 => h9) rfl rfl (by decide +kernel) (Nat.le_of_ble_eq_true rfl) [(h0, .inr (12, [.int 1, .ref h1, .ref h2, .ref h3, .ref h4, .ref h5, .int 1, .int 3, .int 50, .int (-1), .int (-1), .int (-1), .int (-1), .int 0, .int 100, .int 1000, .long 0])), (h2, .inr (4, [.int 0, .ref (E.2.2 0), .int 0]))] rfl dX7_measure_30 (fun H locs hw => ?_)
    refine lv_aload_n hx hb dX7_measure_33 rfl (lv_at hl 0 rfl) ?_
    refine rc_get (v := .int 1) hx hb hown hAm hw lyX7 0 rfl rfl 0 (by decide) qw_860 (fun _ h9 => h9) rfl dX7_measure_34 ?_
    refine lv_if_le (tgt := 42) hx hb dX7_measure_37 (by decide) (fun c9 => absurd c9 (by decide)) (fun _ => ?_)
    refine lv_iconst (v := 0) hx hb dX7_measure_40 (by decide) ?_
    exact rc_zret (v := 0) hx hb hr hlocks hw rfl [(h0, .inr (12, [.int 1, .ref h1, .ref h2, .ref h3, .ref h4, .ref h5, .int 1, .int 3, .int 50, .int (-1), .int (-1), .int (-1), .int (-1), .int 0, .int 100, .int 1000, .long 0])), (h2, .inr (4, [.int 0, .ref (E.2.2 0), .int 0]))] (Or.inr ⟨c_4, rfl, rfl⟩) [0, 1] rfl (by decide) (Nat.le_of_ble_eq_true rfl) (Nat.le_of_ble_eq_true rfl) dX7_measure_41
set_option maxHeartbeats 4000000 in
set_option maxRecDepth 100000 in
theorem cw_X7_refuse (l : Launch) (E : rc_E) (sz : Nat) (h0 : Nat) (h1 : Nat) (h2 : Nat) (h3 : Nat) (h4 : Nat) (h5 : Nat) : rc_Mi l yX7_refuse [Cond.code yX7_refuse cX7_refuse 2 (some FieldType.int)] { frames := 0, cells := 0, slots := 0, locals := 0 } E [.ref h0, .int 1] [(h0, .inr (12, [.int 0, .ref h1, .ref h2, .ref h3, .ref h4, .ref h5, .int 1, .int 3, .int 50, .int (-1), .int (-1), .int (-1), .int (-1), .int 0, .int 100, .int 1000, .long 0]))] sz (S := va_W) (fun (r : Int32) (u : va_W) => (0 = r ∧ u = [(h0, .inr (12, [.int 1, .ref h1, .ref h2, .ref h3, .ref h4, .ref h5, .int 1, .int 3, .int 50, .int (-1), .int (-1), .int (-1), .int (-1), .int 0, .int 100, .int 1000, .long 0]))])) (fun u => u) 0 0 := by
  refine rc_ini (cc := cX7_refuse) (maxL := 2) (ret := (some FieldType.int)) (by decide) rfl (Nat.le_of_ble_eq_true rfl) ?_
  intro p e s m args below meth c ls A hx hb hr hml _ hown hlocks hin hA hAm hw hl
  have hown : s.vm.findClass RX7 = some m.cls := hown
  have hl : lv_has ls 2 [(0, .ref h0), (1, .int 1)] := hl
  refine lv_aload_n hx hb dX7_refuse_0 rfl (lv_at hl 0 rfl) ?_
  refine lv_iload_n hx hb dX7_refuse_1 rfl (lv_at hl 1 rfl) ?_
  refine rc_put hx hb hown hAm hw lyX7 tyX7 tyX7_ok nmX7 0 rfl rfl 0 (by decide) qw_860 (fun _ h9 => h9) rfl rfl (by decide +kernel) (Nat.le_of_ble_eq_true rfl) [(h0, .inr (12, [.int 1, .ref h1, .ref h2, .ref h3, .ref h4, .ref h5, .int 1, .int 3, .int 50, .int (-1), .int (-1), .int (-1), .int (-1), .int 0, .int 100, .int 1000, .long 0]))] rfl dX7_refuse_2 (fun H locs hw => ?_)
  refine lv_iconst (v := 0) hx hb dX7_refuse_5 (by decide) ?_
  exact rc_iret (v := 0) hx hb hr hlocks hw [(h0, .inr (12, [.int 1, .ref h1, .ref h2, .ref h3, .ref h4, .ref h5, .int 1, .int 3, .int 50, .int (-1), .int (-1), .int (-1), .int (-1), .int 0, .int 100, .int 1000, .long 0]))] (⟨rfl, rfl⟩) [0] rfl (by decide) (Nat.le_of_ble_eq_true rfl) (Nat.le_of_ble_eq_true rfl) dX7_refuse_6
theorem hd_X7_refuse : yX7_refuse.cls ≠ "java/lang/invoke/MethodHandle" ∧ yX7_refuse.cls ≠ "java/lang/invoke/VarHandle" ∧ (parseMethodDescriptor yX7_refuse.desc).map (fun d => d.parameters.length) = some 1 := by decide +kernel
set_option maxHeartbeats 4000000 in
set_option maxRecDepth 100000 in
theorem cw_X7_ofMachine (l : Launch) (E : rc_E) (sz : Nat) (h0 : Nat) (x0 : Int32) (x1 : Int32) (h1 : Nat) (h2 : Nat) (h3 : Nat) (h4 : Nat) (h5 : Nat) : rc_Mi l yX7_ofMachine [Cond.code yX7_ofMachine cX7_ofMachine 3 (some FieldType.int)] { frames := 2, cells := 0, slots := 0, locals := 43 } E [.ref h0, .int x0, .int x1] [(h0, .inr (12, [.int 0, .ref h1, .ref h2, .ref h3, .ref h4, .ref h5, .int 1, .int 3, .int 50, .int (-1), .int (-1), .int (-1), .int (-1), .int 0, .int 100, .int 1000, .long 0])), (h2, .inr (4, [.int 0, .ref (E.2.2 0), .int 0]))] sz (S := va_W) (fun (r : Int32) (u : va_W) => (x0 < 0 ∧ 0 = r ∧ u = [(h0, .inr (12, [.int 1, .ref h1, .ref h2, .ref h3, .ref h4, .ref h5, .int 1, .int 3, .int 50, .int (-1), .int (-1), .int (-1), .int (-1), .int 0, .int 100, .int 1000, .long 0])), (h2, .inr (4, [.int 0, .ref (E.2.2 0), .int 0]))]) ∨ (¬ x0 < 0 ∧ 0 = r ∧ u = [(h0, .inr (12, [.int 1, .ref h1, .ref h2, .ref h3, .ref h4, .ref h5, .int 1, .int 3, .int 50, .int (-1), .int (-1), .int (-1), .int (-1), .int 0, .int 100, .int 1000, .long 0])), (h2, .inr (4, [.int 0, .ref (E.2.2 0), .int 0]))])) (fun u => u) 0 0 := by
  refine rc_ini (cc := cX7_ofMachine) (maxL := 3) (ret := (some FieldType.int)) (by decide) rfl (Nat.le_of_ble_eq_true rfl) ?_
  intro p e s m args below meth c ls A hx hb hr hml _ hown hlocks hin hA hAm hw hl
  have hown : s.vm.findClass RX7 = some m.cls := hown
  have hl : lv_has ls 3 [(0, .ref h0), (1, .int x0), (2, .int x1)] := hl
  refine lv_aload_n hx hb dX7_ofMachine_0 rfl (lv_at hl 0 rfl) ?_
  refine lv_iconst (v := 0) hx hb dX7_ofMachine_1 (by decide) ?_
  refine rc_put hx hb hown hAm hw lyX7 tyX7 tyX7_ok nmX7 0 rfl rfl 0 (by decide) qw_860 (fun _ h9 => h9) rfl rfl (by decide +kernel) (Nat.le_of_ble_eq_true rfl) [(h0, .inr (12, [.int 0, .ref h1, .ref h2, .ref h3, .ref h4, .ref h5, .int 1, .int 3, .int 50, .int (-1), .int (-1), .int (-1), .int (-1), .int 0, .int 100, .int 1000, .long 0])), (h2, .inr (4, [.int 0, .ref (E.2.2 0), .int 0]))] rfl dX7_ofMachine_2 (fun H locs hw => ?_)
  refine lv_aload_n hx hb dX7_ofMachine_5 rfl (lv_at hl 0 rfl) ?_
  refine lv_iload_n hx hb dX7_ofMachine_6 rfl (lv_at hl 1 rfl) ?_
  refine rc_calli (wr := []) (va_runV (As := [.int x0]) (rest := []) (Ts := []) ⟨hx, hb, hml, hown, fun _ h9 => absurd h9 List.not_mem_nil⟩ (cw_X7_isMachine l E _ h0 x0 h1 h2 h3 h4 h5) (rc_cwV hAm qw_954 qw_13 qw_957 qw_956 qs_51 rfl rfl hd_X7_isMachine ⟨Nat.le_of_ble_eq_true rfl, Nat.le_of_ble_eq_true rfl⟩) (rc_preV hAm hA hw [0, 1] rfl rfl 0 rfl (q := vwCl[12]) rfl) rfl rfl hl.1 rfl (lv_room (Nat.le_of_ble_eq_true rfl)) dX7_ofMachine_7 ⟨Nat.le_of_ble_eq_true rfl, Nat.le_of_ble_eq_true rfl⟩) hA hw [0, 1] [] rfl rfl rfl (by decide) (fun r_1 u_2 H locs hp hw => ?_)
  rcases hp with ⟨c_3, rfl, rfl⟩ | ⟨c_4, rfl, rfl⟩
  · have hw : rc_W E A s [(h0, .inr (12, [.int 0, .ref h1, .ref h2, .ref h3, .ref h4, .ref h5, .int 1, .int 3, .int 50, .int (-1), .int (-1), .int (-1), .int (-1), .int 0, .int 100, .int 1000, .long 0])), (h2, .inr (4, [.int 0, .ref (E.2.2 0), .int 0]))] H locs := hw
    refine lv_if_ne (tgt := 19) hx hb dX7_ofMachine_10 (by decide) (fun c9 => absurd (by decide) c9) (fun _ => ?_)
    refine lv_aload_n hx hb dX7_ofMachine_13 rfl (lv_at hl 0 rfl) ?_
    refine lv_iconst (v := 1) hx hb dX7_ofMachine_14 (by decide) ?_
    refine rc_calli (wr := [(h2, .inr (4, [.int 0, .ref (E.2.2 0), .int 0]))]) (va_runV (As := [.int 1]) (rest := []) (Ts := []) ⟨hx, hb, hml, hown, fun _ h9 => absurd h9 List.not_mem_nil⟩ (cw_X7_refuse l E _ h0 h1 h2 h3 h4 h5) (rc_cwV hAm qw_924 qw_13 qw_927 qw_926 qs_50 rfl rfl hd_X7_refuse ⟨Nat.le_of_ble_eq_true rfl, Nat.le_of_ble_eq_true rfl⟩) (rc_preV hAm hA hw [0] rfl rfl 0 rfl (q := vwCl[12]) rfl) rfl rfl hl.1 rfl (lv_room (Nat.le_of_ble_eq_true rfl)) dX7_ofMachine_15 ⟨Nat.le_of_ble_eq_true rfl, Nat.le_of_ble_eq_true rfl⟩) hA hw [0] [1] rfl rfl rfl (by decide) (fun r_5 u_6 H locs hp hw => ?_)
    obtain ⟨rfl, rfl⟩ := hp
    have hw : rc_W E A s [(h2, .inr (4, [.int 0, .ref (E.2.2 0), .int 0])), (h0, .inr (12, [.int 1, .ref h1, .ref h2, .ref h3, .ref h4, .ref h5, .int 1, .int 3, .int 50, .int (-1), .int (-1), .int (-1), .int (-1), .int 0, .int 100, .int 1000, .long 0]))] H locs := hw
    exact rc_iret (v := 0) hx hb hr hlocks hw [(h0, .inr (12, [.int 1, .ref h1, .ref h2, .ref h3, .ref h4, .ref h5, .int 1, .int 3, .int 50, .int (-1), .int (-1), .int (-1), .int (-1), .int 0, .int 100, .int 1000, .long 0])), (h2, .inr (4, [.int 0, .ref (E.2.2 0), .int 0]))] (Or.inl ⟨c_3, rfl, rfl⟩) [1, 0] rfl (by decide) (Nat.le_of_ble_eq_true rfl) (Nat.le_of_ble_eq_true rfl) dX7_ofMachine_18
  · have hw : rc_W E A s [(h0, .inr (12, [.int 0, .ref h1, .ref h2, .ref h3, .ref h4, .ref h5, .int 1, .int 3, .int 50, .int (-1), .int (-1), .int (-1), .int (-1), .int 0, .int 100, .int 1000, .long 0])), (h2, .inr (4, [.int 0, .ref (E.2.2 0), .int 0]))] H locs := hw
    refine lv_if_ne (tgt := 19) hx hb dX7_ofMachine_10 (by decide) (fun c9 => absurd (by decide) c9) (fun _ => ?_)
    refine lv_aload_n hx hb dX7_ofMachine_13 rfl (lv_at hl 0 rfl) ?_
    refine lv_iconst (v := 1) hx hb dX7_ofMachine_14 (by decide) ?_
    refine rc_calli (wr := [(h2, .inr (4, [.int 0, .ref (E.2.2 0), .int 0]))]) (va_runV (As := [.int 1]) (rest := []) (Ts := []) ⟨hx, hb, hml, hown, fun _ h9 => absurd h9 List.not_mem_nil⟩ (cw_X7_refuse l E _ h0 h1 h2 h3 h4 h5) (rc_cwV hAm qw_924 qw_13 qw_927 qw_926 qs_50 rfl rfl hd_X7_refuse ⟨Nat.le_of_ble_eq_true rfl, Nat.le_of_ble_eq_true rfl⟩) (rc_preV hAm hA hw [0] rfl rfl 0 rfl (q := vwCl[12]) rfl) rfl rfl hl.1 rfl (lv_room (Nat.le_of_ble_eq_true rfl)) dX7_ofMachine_15 ⟨Nat.le_of_ble_eq_true rfl, Nat.le_of_ble_eq_true rfl⟩) hA hw [0] [1] rfl rfl rfl (by decide) (fun r_7 u_8 H locs hp hw => ?_)
    obtain ⟨rfl, rfl⟩ := hp
    have hw : rc_W E A s [(h2, .inr (4, [.int 0, .ref (E.2.2 0), .int 0])), (h0, .inr (12, [.int 1, .ref h1, .ref h2, .ref h3, .ref h4, .ref h5, .int 1, .int 3, .int 50, .int (-1), .int (-1), .int (-1), .int (-1), .int 0, .int 100, .int 1000, .long 0]))] H locs := hw
    exact rc_iret (v := 0) hx hb hr hlocks hw [(h0, .inr (12, [.int 1, .ref h1, .ref h2, .ref h3, .ref h4, .ref h5, .int 1, .int 3, .int 50, .int (-1), .int (-1), .int (-1), .int (-1), .int 0, .int 100, .int 1000, .long 0])), (h2, .inr (4, [.int 0, .ref (E.2.2 0), .int 0]))] (Or.inr ⟨c_4, rfl, rfl⟩) [1, 0] rfl (by decide) (Nat.le_of_ble_eq_true rfl) (Nat.le_of_ble_eq_true rfl) dX7_ofMachine_18
set_option maxHeartbeats 4000000 in
set_option maxRecDepth 100000 in
theorem cw_X7_is_2 (l : Launch) (E : rc_E) (sz : Nat) (x0 : Int32) : rc_Mi l yX7_is [Cond.code yX7_is cX7_is 3 (some FieldType.boolean)] { frames := 0, cells := 0, slots := 0, locals := 0 } E [.int x0, .int 0, .int 0] [] sz (S := va_W) (fun (r : Int32) (u : va_W) => (x0 < 0 ∧ 0 = r ∧ u = []) ∨ (¬ x0 < 0 ∧ 0 < x0 ∧ 0 = r ∧ u = []) ∨ (x0 = 0 ∧ 1 = r ∧ u = [])) (fun u => u) 0 0 := by
  refine rc_ini (cc := cX7_is) (maxL := 3) (ret := (some FieldType.boolean)) (by decide) rfl (Nat.le_of_ble_eq_true rfl) ?_
  intro p e s m args below meth c ls A hx hb hr hml _ hown hlocks hin hA hAm hw hl
  have hown : s.vm.findClass RX7 = some m.cls := hown
  have hl : lv_has ls 3 [(0, .int x0), (1, .int 0), (2, .int 0)] := hl
  refine lv_iload_n hx hb dX7_is_0 rfl (lv_at hl 0 rfl) ?_
  refine lv_iload_n hx hb dX7_is_1 rfl (lv_at hl 1 rfl) ?_
  refine lv_icmp_lt (tgt := 14) hx hb dX7_is_2 (by decide) (fun c_1 => ?_) (fun c_1 => ?_)
  · refine lv_iconst (v := 0) hx hb dX7_is_14 (by decide) ?_
    exact rc_zret (v := 0) hx hb hr hlocks hw rfl [] (Or.inl ⟨c_1, rfl, rfl⟩) [] rfl (by decide) (Nat.le_of_ble_eq_true rfl) (Nat.le_of_ble_eq_true rfl) dX7_is_15
  · refine lv_iload_n hx hb dX7_is_5 rfl (lv_at hl 0 rfl) ?_
    refine lv_iload_n hx hb dX7_is_6 rfl (lv_at hl 2 rfl) ?_
    refine lv_icmp_gt (tgt := 14) hx hb dX7_is_7 (by decide) (fun c_2 => ?_) (fun c_2 => ?_)
    · refine lv_iconst (v := 0) hx hb dX7_is_14 (by decide) ?_
      exact rc_zret (v := 0) hx hb hr hlocks hw rfl [] (Or.inr (Or.inl ⟨c_1, c_2, rfl, rfl⟩)) [] rfl (by decide) (Nat.le_of_ble_eq_true rfl) (Nat.le_of_ble_eq_true rfl) dX7_is_15
    · obtain rfl : x0 = 0 := rc_eqc (b := 0) rfl (by have g_c_1 := rc_n1 (b := 0) c_1 rfl; have g_c_2 := rc_n2 (b := 0) c_2 rfl; omega)
      refine lv_iconst (v := 1) hx hb dX7_is_10 (by decide) ?_
      refine lv_goto (tgt := 15) hx hb dX7_is_11 (by decide) ?_
      exact rc_zret (v := 1) hx hb hr hlocks hw rfl [] (Or.inr (Or.inr ⟨rfl, rfl, rfl⟩)) [] rfl (by decide) (Nat.le_of_ble_eq_true rfl) (Nat.le_of_ble_eq_true rfl) dX7_is_15
set_option maxHeartbeats 4000000 in
set_option maxRecDepth 100000 in
theorem cw_X7_isChange (l : Launch) (E : rc_E) (sz : Nat) (h0 : Nat) (x0 : Int32) (h1 : Nat) (h2 : Nat) (h3 : Nat) (h4 : Nat) (h5 : Nat) : rc_Mi l yX7_isChange [Cond.code yX7_isChange cX7_isChange 2 (some FieldType.boolean)] { frames := 1, cells := 0, slots := 0, locals := 22 } E [.ref h0, .int x0] [(h0, .inr (12, [.int 0, .ref h1, .ref h2, .ref h3, .ref h4, .ref h5, .int 1, .int 3, .int 50, .int (-1), .int (-1), .int (-1), .int (-1), .int 0, .int 100, .int 1000, .long 0]))] sz (S := va_W) (fun (r : Int32) (u : va_W) => (x0 < 0 ∧ 0 = r ∧ u = [(h0, .inr (12, [.int 0, .ref h1, .ref h2, .ref h3, .ref h4, .ref h5, .int 1, .int 3, .int 50, .int (-1), .int (-1), .int (-1), .int (-1), .int 0, .int 100, .int 1000, .long 0]))]) ∨ (¬ x0 < 0 ∧ 0 < x0 ∧ 0 = r ∧ u = [(h0, .inr (12, [.int 0, .ref h1, .ref h2, .ref h3, .ref h4, .ref h5, .int 1, .int 3, .int 50, .int (-1), .int (-1), .int (-1), .int (-1), .int 0, .int 100, .int 1000, .long 0]))]) ∨ (x0 = 0 ∧ 1 = r ∧ u = [(h0, .inr (12, [.int 0, .ref h1, .ref h2, .ref h3, .ref h4, .ref h5, .int 1, .int 3, .int 50, .int (-1), .int (-1), .int (-1), .int (-1), .int 0, .int 100, .int 1000, .long 0]))])) (fun u => u) 0 0 := by
  refine rc_ini (cc := cX7_isChange) (maxL := 2) (ret := (some FieldType.boolean)) (by decide) rfl (Nat.le_of_ble_eq_true rfl) ?_
  intro p e s m args below meth c ls A hx hb hr hml _ hown hlocks hin hA hAm hw hl
  have hown : s.vm.findClass RX7 = some m.cls := hown
  have hl : lv_has ls 2 [(0, .ref h0), (1, .int x0)] := hl
  refine lv_iload_n hx hb dX7_isChange_0 rfl (lv_at hl 1 rfl) ?_
  refine lv_iconst (v := 0) hx hb dX7_isChange_1 (by decide) ?_
  refine lv_aload_n hx hb dX7_isChange_2 rfl (lv_at hl 0 rfl) ?_
  refine rc_get (v := .int 1) hx hb hown hAm hw lyX7 0 rfl rfl 6 (by decide) qw_866 (fun _ h9 => h9) rfl dX7_isChange_3 ?_
  refine lv_iconst (v := 1) hx hb dX7_isChange_6 (by decide) ?_
  refine lv_isub hx hb dX7_isChange_7 ?_
  refine rc_topi 0 (by decide) ?_
  refine rc_calli (wr := [(h0, .inr (12, [.int 0, .ref h1, .ref h2, .ref h3, .ref h4, .ref h5, .int 1, .int 3, .int 50, .int (-1), .int (-1), .int (-1), .int (-1), .int 0, .int 100, .int 1000, .long 0]))]) (va_runS (As := [.int x0, .int 0, .int 0]) (rest := []) (Ts := []) ⟨hx, hb, hml, hown, fun _ h9 => absurd h9 List.not_mem_nil⟩ (cw_X7_is_2 l E _ x0) (rc_cwS hAm qw_921 qw_13 qw_923 qw_922 rfl rfl hd_X7_is ⟨Nat.le_of_ble_eq_true rfl, Nat.le_of_ble_eq_true rfl⟩) (rc_preS hAm hA hw [] rfl rfl) rfl rfl hl.1 rfl (lv_room (Nat.le_of_ble_eq_true rfl)) dX7_isChange_8 ⟨Nat.le_of_ble_eq_true rfl, Nat.le_of_ble_eq_true rfl⟩) hA hw [] [0] rfl rfl rfl (by decide) (fun r_1 u_2 H locs hp hw => ?_)
  rcases hp with ⟨c_3, rfl, rfl⟩ | ⟨c_4, c_5, rfl, rfl⟩ | ⟨c_6, rfl, rfl⟩
  · have hw : rc_W E A s [(h0, .inr (12, [.int 0, .ref h1, .ref h2, .ref h3, .ref h4, .ref h5, .int 1, .int 3, .int 50, .int (-1), .int (-1), .int (-1), .int (-1), .int 0, .int 100, .int 1000, .long 0]))] H locs := hw
    exact rc_zret (v := 0) hx hb hr hlocks hw rfl [(h0, .inr (12, [.int 0, .ref h1, .ref h2, .ref h3, .ref h4, .ref h5, .int 1, .int 3, .int 50, .int (-1), .int (-1), .int (-1), .int (-1), .int 0, .int 100, .int 1000, .long 0]))] (Or.inl ⟨c_3, rfl, rfl⟩) [0] rfl (by decide) (Nat.le_of_ble_eq_true rfl) (Nat.le_of_ble_eq_true rfl) dX7_isChange_11
  · have hw : rc_W E A s [(h0, .inr (12, [.int 0, .ref h1, .ref h2, .ref h3, .ref h4, .ref h5, .int 1, .int 3, .int 50, .int (-1), .int (-1), .int (-1), .int (-1), .int 0, .int 100, .int 1000, .long 0]))] H locs := hw
    exact rc_zret (v := 0) hx hb hr hlocks hw rfl [(h0, .inr (12, [.int 0, .ref h1, .ref h2, .ref h3, .ref h4, .ref h5, .int 1, .int 3, .int 50, .int (-1), .int (-1), .int (-1), .int (-1), .int 0, .int 100, .int 1000, .long 0]))] (Or.inr (Or.inl ⟨c_4, c_5, rfl, rfl⟩)) [0] rfl (by decide) (Nat.le_of_ble_eq_true rfl) (Nat.le_of_ble_eq_true rfl) dX7_isChange_11
  · obtain rfl : x0 = 0 := rc_eqc (b := 0) rfl (by have g_c_6 := rc_g5 (b := 0) c_6 rfl; omega)
    have hw : rc_W E A s [(h0, .inr (12, [.int 0, .ref h1, .ref h2, .ref h3, .ref h4, .ref h5, .int 1, .int 3, .int 50, .int (-1), .int (-1), .int (-1), .int (-1), .int 0, .int 100, .int 1000, .long 0]))] H locs := hw
    exact rc_zret (v := 1) hx hb hr hlocks hw rfl [(h0, .inr (12, [.int 0, .ref h1, .ref h2, .ref h3, .ref h4, .ref h5, .int 1, .int 3, .int 50, .int (-1), .int (-1), .int (-1), .int (-1), .int 0, .int 100, .int 1000, .long 0]))] (Or.inr (Or.inr ⟨rfl, rfl, rfl⟩)) [0] rfl (by decide) (Nat.le_of_ble_eq_true rfl) (Nat.le_of_ble_eq_true rfl) dX7_isChange_11
theorem hd_X7_isChange : yX7_isChange.cls ≠ "java/lang/invoke/MethodHandle" ∧ yX7_isChange.cls ≠ "java/lang/invoke/VarHandle" ∧ (parseMethodDescriptor yX7_isChange.desc).map (fun d => d.parameters.length) = some 1 := by decide +kernel
set_option maxHeartbeats 4000000 in
set_option maxRecDepth 100000 in
theorem cw_X7_run (l : Launch) (E : rc_E) (sz : Nat) (h0 : Nat) (x0 : Int32) (x1 : Int32) (x2 : Int32) (h1 : Nat) (h2 : Nat) (h3 : Nat) (h4 : Nat) (h5 : Nat) : rc_Mi l yX7_run [Cond.code yX7_run cX7_run 5 (some FieldType.int)] { frames := 2, cells := 0, slots := 0, locals := 43 } E [.ref h0, .int x0, .int x1, .int x2] [(h0, .inr (12, [.int 0, .ref h1, .ref h2, .ref h3, .ref h4, .ref h5, .int 1, .int 3, .int 50, .int (-1), .int (-1), .int (-1), .int (-1), .int 0, .int 100, .int 1000, .long 0])), (h2, .inr (4, [.int 0, .ref (E.2.2 0), .int 0]))] sz (S := va_W) (fun (r : Int32) (u : va_W) => (x0 < 0 ∧ 0 = r ∧ u = [(h0, .inr (12, [.int 1, .ref h1, .ref h2, .ref h3, .ref h4, .ref h5, .int 1, .int 3, .int 50, .int (-1), .int (-1), .int (-1), .int (-1), .int 0, .int 100, .int 1000, .long 0])), (h2, .inr (4, [.int 0, .ref (E.2.2 0), .int 0]))]) ∨ (¬ x0 < 0 ∧ 0 < x0 ∧ 0 = r ∧ u = [(h0, .inr (12, [.int 1, .ref h1, .ref h2, .ref h3, .ref h4, .ref h5, .int 1, .int 3, .int 50, .int (-1), .int (-1), .int (-1), .int (-1), .int 0, .int 100, .int 1000, .long 0])), (h2, .inr (4, [.int 0, .ref (E.2.2 0), .int 0]))]) ∨ (x1 < 0 ∧ x0 = 0 ∧ 0 = r ∧ u = [(h0, .inr (12, [.int 1, .ref h1, .ref h2, .ref h3, .ref h4, .ref h5, .int 1, .int 3, .int 50, .int (-1), .int (-1), .int (-1), .int (-1), .int 0, .int 100, .int 1000, .long 0])), (h2, .inr (4, [.int 0, .ref (E.2.2 0), .int 0]))]) ∨ (¬ x1 < 0 ∧ x0 = 0 ∧ 0 = r ∧ u = [(h0, .inr (12, [.int 1, .ref h1, .ref h2, .ref h3, .ref h4, .ref h5, .int 1, .int 3, .int 50, .int (-1), .int (-1), .int (-1), .int (-1), .int 0, .int 100, .int 1000, .long 0])), (h2, .inr (4, [.int 0, .ref (E.2.2 0), .int 0]))])) (fun u => u) 0 0 := by
  refine rc_ini (cc := cX7_run) (maxL := 5) (ret := (some FieldType.int)) (by decide) rfl (Nat.le_of_ble_eq_true rfl) ?_
  intro p e s m args below meth c ls A hx hb hr hml _ hown hlocks hin hA hAm hw hl
  have hown : s.vm.findClass RX7 = some m.cls := hown
  have hl : lv_has ls 5 [(0, .ref h0), (1, .int x0), (2, .int x1), (3, .int x2)] := hl
  refine lv_aload_n hx hb dX7_run_0 rfl (lv_at hl 0 rfl) ?_
  refine lv_iconst (v := 0) hx hb dX7_run_1 (by decide) ?_
  refine rc_put hx hb hown hAm hw lyX7 tyX7 tyX7_ok nmX7 0 rfl rfl 0 (by decide) qw_860 (fun _ h9 => h9) rfl rfl (by decide +kernel) (Nat.le_of_ble_eq_true rfl) [(h0, .inr (12, [.int 0, .ref h1, .ref h2, .ref h3, .ref h4, .ref h5, .int 1, .int 3, .int 50, .int (-1), .int (-1), .int (-1), .int (-1), .int 0, .int 100, .int 1000, .long 0])), (h2, .inr (4, [.int 0, .ref (E.2.2 0), .int 0]))] rfl dX7_run_2 (fun H locs hw => ?_)
  refine lv_aload_n hx hb dX7_run_5 rfl (lv_at hl 0 rfl) ?_
  refine lv_iload_n hx hb dX7_run_6 rfl (lv_at hl 1 rfl) ?_
  refine rc_calli (wr := [(h2, .inr (4, [.int 0, .ref (E.2.2 0), .int 0]))]) (va_runV (As := [.int x0]) (rest := []) (Ts := []) ⟨hx, hb, hml, hown, fun _ h9 => absurd h9 List.not_mem_nil⟩ (cw_X7_isChange l E _ h0 x0 h1 h2 h3 h4 h5) (rc_cwV hAm qw_1353 qw_13 qw_1356 qw_1355 qs_62 rfl rfl hd_X7_isChange ⟨Nat.le_of_ble_eq_true rfl, Nat.le_of_ble_eq_true rfl⟩) (rc_preV hAm hA hw [0] rfl rfl 0 rfl (q := vwCl[12]) rfl) rfl rfl hl.1 rfl (lv_room (Nat.le_of_ble_eq_true rfl)) dX7_run_7 ⟨Nat.le_of_ble_eq_true rfl, Nat.le_of_ble_eq_true rfl⟩) hA hw [0] [1] rfl rfl rfl (by decide) (fun r_1 u_2 H locs hp hw => ?_)
  rcases hp with ⟨c_3, rfl, rfl⟩ | ⟨c_4, c_5, rfl, rfl⟩ | ⟨c_6, rfl, rfl⟩
  · have hw : rc_W E A s [(h2, .inr (4, [.int 0, .ref (E.2.2 0), .int 0])), (h0, .inr (12, [.int 0, .ref h1, .ref h2, .ref h3, .ref h4, .ref h5, .int 1, .int 3, .int 50, .int (-1), .int (-1), .int (-1), .int (-1), .int 0, .int 100, .int 1000, .long 0]))] H locs := hw
    refine lv_if_eq (tgt := 21) hx hb dX7_run_10 (by decide) (fun _ => ?_) (fun c9 => absurd (by decide) c9)
    refine lv_aload_n hx hb dX7_run_21 rfl (lv_at hl 0 rfl) ?_
    refine lv_iconst (v := 1) hx hb dX7_run_22 (by decide) ?_
    refine rc_calli (wr := [(h2, .inr (4, [.int 0, .ref (E.2.2 0), .int 0]))]) (va_runV (As := [.int 1]) (rest := []) (Ts := []) ⟨hx, hb, hml, hown, fun _ h9 => absurd h9 List.not_mem_nil⟩ (cw_X7_refuse l E _ h0 h1 h2 h3 h4 h5) (rc_cwV hAm qw_924 qw_13 qw_927 qw_926 qs_50 rfl rfl hd_X7_refuse ⟨Nat.le_of_ble_eq_true rfl, Nat.le_of_ble_eq_true rfl⟩) (rc_preV hAm hA hw [1] rfl rfl 1 rfl (q := vwCl[12]) rfl) rfl rfl hl.1 rfl (lv_room (Nat.le_of_ble_eq_true rfl)) dX7_run_23 ⟨Nat.le_of_ble_eq_true rfl, Nat.le_of_ble_eq_true rfl⟩) hA hw [1] [0] rfl rfl rfl (by decide) (fun r_7 u_8 H locs hp hw => ?_)
    obtain ⟨rfl, rfl⟩ := hp
    have hw : rc_W E A s [(h2, .inr (4, [.int 0, .ref (E.2.2 0), .int 0])), (h0, .inr (12, [.int 1, .ref h1, .ref h2, .ref h3, .ref h4, .ref h5, .int 1, .int 3, .int 50, .int (-1), .int (-1), .int (-1), .int (-1), .int 0, .int 100, .int 1000, .long 0]))] H locs := hw
    exact rc_iret (v := 0) hx hb hr hlocks hw [(h0, .inr (12, [.int 1, .ref h1, .ref h2, .ref h3, .ref h4, .ref h5, .int 1, .int 3, .int 50, .int (-1), .int (-1), .int (-1), .int (-1), .int 0, .int 100, .int 1000, .long 0])), (h2, .inr (4, [.int 0, .ref (E.2.2 0), .int 0]))] (Or.inl ⟨c_3, rfl, rfl⟩) [1, 0] rfl (by decide) (Nat.le_of_ble_eq_true rfl) (Nat.le_of_ble_eq_true rfl) dX7_run_26
  · have hw : rc_W E A s [(h2, .inr (4, [.int 0, .ref (E.2.2 0), .int 0])), (h0, .inr (12, [.int 0, .ref h1, .ref h2, .ref h3, .ref h4, .ref h5, .int 1, .int 3, .int 50, .int (-1), .int (-1), .int (-1), .int (-1), .int 0, .int 100, .int 1000, .long 0]))] H locs := hw
    refine lv_if_eq (tgt := 21) hx hb dX7_run_10 (by decide) (fun _ => ?_) (fun c9 => absurd (by decide) c9)
    refine lv_aload_n hx hb dX7_run_21 rfl (lv_at hl 0 rfl) ?_
    refine lv_iconst (v := 1) hx hb dX7_run_22 (by decide) ?_
    refine rc_calli (wr := [(h2, .inr (4, [.int 0, .ref (E.2.2 0), .int 0]))]) (va_runV (As := [.int 1]) (rest := []) (Ts := []) ⟨hx, hb, hml, hown, fun _ h9 => absurd h9 List.not_mem_nil⟩ (cw_X7_refuse l E _ h0 h1 h2 h3 h4 h5) (rc_cwV hAm qw_924 qw_13 qw_927 qw_926 qs_50 rfl rfl hd_X7_refuse ⟨Nat.le_of_ble_eq_true rfl, Nat.le_of_ble_eq_true rfl⟩) (rc_preV hAm hA hw [1] rfl rfl 1 rfl (q := vwCl[12]) rfl) rfl rfl hl.1 rfl (lv_room (Nat.le_of_ble_eq_true rfl)) dX7_run_23 ⟨Nat.le_of_ble_eq_true rfl, Nat.le_of_ble_eq_true rfl⟩) hA hw [1] [0] rfl rfl rfl (by decide) (fun r_9 u_10 H locs hp hw => ?_)
    obtain ⟨rfl, rfl⟩ := hp
    have hw : rc_W E A s [(h2, .inr (4, [.int 0, .ref (E.2.2 0), .int 0])), (h0, .inr (12, [.int 1, .ref h1, .ref h2, .ref h3, .ref h4, .ref h5, .int 1, .int 3, .int 50, .int (-1), .int (-1), .int (-1), .int (-1), .int 0, .int 100, .int 1000, .long 0]))] H locs := hw
    exact rc_iret (v := 0) hx hb hr hlocks hw [(h0, .inr (12, [.int 1, .ref h1, .ref h2, .ref h3, .ref h4, .ref h5, .int 1, .int 3, .int 50, .int (-1), .int (-1), .int (-1), .int (-1), .int 0, .int 100, .int 1000, .long 0])), (h2, .inr (4, [.int 0, .ref (E.2.2 0), .int 0]))] (Or.inr (Or.inl ⟨c_4, c_5, rfl, rfl⟩)) [1, 0] rfl (by decide) (Nat.le_of_ble_eq_true rfl) (Nat.le_of_ble_eq_true rfl) dX7_run_26
  · obtain rfl : x0 = 0 := rc_eqc (b := 0) rfl (by have g_c_6 := rc_g5 (b := 0) c_6 rfl; omega)
    have hw : rc_W E A s [(h2, .inr (4, [.int 0, .ref (E.2.2 0), .int 0])), (h0, .inr (12, [.int 0, .ref h1, .ref h2, .ref h3, .ref h4, .ref h5, .int 1, .int 3, .int 50, .int (-1), .int (-1), .int (-1), .int (-1), .int 0, .int 100, .int 1000, .long 0]))] H locs := hw
    refine lv_if_eq (tgt := 21) hx hb dX7_run_10 (by decide) (fun c9 => absurd c9 (by decide)) (fun _ => ?_)
    refine lv_aload_n hx hb dX7_run_13 rfl (lv_at hl 0 rfl) ?_
    refine lv_iload_n hx hb dX7_run_14 rfl (lv_at hl 2 rfl) ?_
    refine rc_calli (wr := []) (va_runV (As := [.int x1]) (rest := []) (Ts := []) ⟨hx, hb, hml, hown, fun _ h9 => absurd h9 List.not_mem_nil⟩ (cw_X7_isMachine l E _ h0 x1 h1 h2 h3 h4 h5) (rc_cwV hAm qw_954 qw_13 qw_957 qw_956 qs_51 rfl rfl hd_X7_isMachine ⟨Nat.le_of_ble_eq_true rfl, Nat.le_of_ble_eq_true rfl⟩) (rc_preV hAm hA hw [1, 0] rfl rfl 1 rfl (q := vwCl[12]) rfl) rfl rfl hl.1 rfl (lv_room (Nat.le_of_ble_eq_true rfl)) dX7_run_15 ⟨Nat.le_of_ble_eq_true rfl, Nat.le_of_ble_eq_true rfl⟩) hA hw [1, 0] [] rfl rfl rfl (by decide) (fun r_11 u_12 H locs hp hw => ?_)
    rcases hp with ⟨c_13, rfl, rfl⟩ | ⟨c_14, rfl, rfl⟩
    · have hw : rc_W E A s [(h0, .inr (12, [.int 0, .ref h1, .ref h2, .ref h3, .ref h4, .ref h5, .int 1, .int 3, .int 50, .int (-1), .int (-1), .int (-1), .int (-1), .int 0, .int 100, .int 1000, .long 0])), (h2, .inr (4, [.int 0, .ref (E.2.2 0), .int 0]))] H locs := hw
      refine lv_if_ne (tgt := 27) hx hb dX7_run_18 (by decide) (fun c9 => absurd (by decide) c9) (fun _ => ?_)
      refine lv_aload_n hx hb dX7_run_21 rfl (lv_at hl 0 rfl) ?_
      refine lv_iconst (v := 1) hx hb dX7_run_22 (by decide) ?_
      refine rc_calli (wr := [(h2, .inr (4, [.int 0, .ref (E.2.2 0), .int 0]))]) (va_runV (As := [.int 1]) (rest := []) (Ts := []) ⟨hx, hb, hml, hown, fun _ h9 => absurd h9 List.not_mem_nil⟩ (cw_X7_refuse l E _ h0 h1 h2 h3 h4 h5) (rc_cwV hAm qw_924 qw_13 qw_927 qw_926 qs_50 rfl rfl hd_X7_refuse ⟨Nat.le_of_ble_eq_true rfl, Nat.le_of_ble_eq_true rfl⟩) (rc_preV hAm hA hw [0] rfl rfl 0 rfl (q := vwCl[12]) rfl) rfl rfl hl.1 rfl (lv_room (Nat.le_of_ble_eq_true rfl)) dX7_run_23 ⟨Nat.le_of_ble_eq_true rfl, Nat.le_of_ble_eq_true rfl⟩) hA hw [0] [1] rfl rfl rfl (by decide) (fun r_15 u_16 H locs hp hw => ?_)
      obtain ⟨rfl, rfl⟩ := hp
      have hw : rc_W E A s [(h2, .inr (4, [.int 0, .ref (E.2.2 0), .int 0])), (h0, .inr (12, [.int 1, .ref h1, .ref h2, .ref h3, .ref h4, .ref h5, .int 1, .int 3, .int 50, .int (-1), .int (-1), .int (-1), .int (-1), .int 0, .int 100, .int 1000, .long 0]))] H locs := hw
      exact rc_iret (v := 0) hx hb hr hlocks hw [(h0, .inr (12, [.int 1, .ref h1, .ref h2, .ref h3, .ref h4, .ref h5, .int 1, .int 3, .int 50, .int (-1), .int (-1), .int (-1), .int (-1), .int 0, .int 100, .int 1000, .long 0])), (h2, .inr (4, [.int 0, .ref (E.2.2 0), .int 0]))] (Or.inr (Or.inr (Or.inl ⟨c_13, rfl, rfl, rfl⟩))) [1, 0] rfl (by decide) (Nat.le_of_ble_eq_true rfl) (Nat.le_of_ble_eq_true rfl) dX7_run_26
    · have hw : rc_W E A s [(h0, .inr (12, [.int 0, .ref h1, .ref h2, .ref h3, .ref h4, .ref h5, .int 1, .int 3, .int 50, .int (-1), .int (-1), .int (-1), .int (-1), .int 0, .int 100, .int 1000, .long 0])), (h2, .inr (4, [.int 0, .ref (E.2.2 0), .int 0]))] H locs := hw
      refine lv_if_ne (tgt := 27) hx hb dX7_run_18 (by decide) (fun c9 => absurd (by decide) c9) (fun _ => ?_)
      refine lv_aload_n hx hb dX7_run_21 rfl (lv_at hl 0 rfl) ?_
      refine lv_iconst (v := 1) hx hb dX7_run_22 (by decide) ?_
      refine rc_calli (wr := [(h2, .inr (4, [.int 0, .ref (E.2.2 0), .int 0]))]) (va_runV (As := [.int 1]) (rest := []) (Ts := []) ⟨hx, hb, hml, hown, fun _ h9 => absurd h9 List.not_mem_nil⟩ (cw_X7_refuse l E _ h0 h1 h2 h3 h4 h5) (rc_cwV hAm qw_924 qw_13 qw_927 qw_926 qs_50 rfl rfl hd_X7_refuse ⟨Nat.le_of_ble_eq_true rfl, Nat.le_of_ble_eq_true rfl⟩) (rc_preV hAm hA hw [0] rfl rfl 0 rfl (q := vwCl[12]) rfl) rfl rfl hl.1 rfl (lv_room (Nat.le_of_ble_eq_true rfl)) dX7_run_23 ⟨Nat.le_of_ble_eq_true rfl, Nat.le_of_ble_eq_true rfl⟩) hA hw [0] [1] rfl rfl rfl (by decide) (fun r_17 u_18 H locs hp hw => ?_)
      obtain ⟨rfl, rfl⟩ := hp
      have hw : rc_W E A s [(h2, .inr (4, [.int 0, .ref (E.2.2 0), .int 0])), (h0, .inr (12, [.int 1, .ref h1, .ref h2, .ref h3, .ref h4, .ref h5, .int 1, .int 3, .int 50, .int (-1), .int (-1), .int (-1), .int (-1), .int 0, .int 100, .int 1000, .long 0]))] H locs := hw
      exact rc_iret (v := 0) hx hb hr hlocks hw [(h0, .inr (12, [.int 1, .ref h1, .ref h2, .ref h3, .ref h4, .ref h5, .int 1, .int 3, .int 50, .int (-1), .int (-1), .int (-1), .int (-1), .int 0, .int 100, .int 1000, .long 0])), (h2, .inr (4, [.int 0, .ref (E.2.2 0), .int 0]))] (Or.inr (Or.inr (Or.inr ⟨c_14, rfl, rfl, rfl⟩))) [1, 0] rfl (by decide) (Nat.le_of_ble_eq_true rfl) (Nat.le_of_ble_eq_true rfl) dX7_run_26
set_option maxHeartbeats 4000000 in
set_option maxRecDepth 100000 in
theorem cw_X7_isRun (l : Launch) (E : rc_E) (sz : Nat) (h0 : Nat) (x0 : Int32) (h1 : Nat) (h2 : Nat) (h3 : Nat) (h4 : Nat) (h5 : Nat) : rc_Mi l yX7_isRun [Cond.code yX7_isRun cX7_isRun 2 (some FieldType.boolean)] { frames := 1, cells := 0, slots := 0, locals := 22 } E [.ref h0, .int x0] [(h0, .inr (12, [.int 0, .ref h1, .ref h2, .ref h3, .ref h4, .ref h5, .int 1, .int 3, .int 50, .int (-1), .int (-1), .int (-1), .int (-1), .int 0, .int 100, .int 1000, .long 0])), (h3, .inr (4, [.int 0, .ref (E.2.2 0), .int 0]))] sz (S := va_W) (fun (r : Int32) (u : va_W) => (x0 < 0 ∧ 0 = r ∧ u = [(h0, .inr (12, [.int 0, .ref h1, .ref h2, .ref h3, .ref h4, .ref h5, .int 1, .int 3, .int 50, .int (-1), .int (-1), .int (-1), .int (-1), .int 0, .int 100, .int 1000, .long 0])), (h3, .inr (4, [.int 0, .ref (E.2.2 0), .int 0]))]) ∨ (¬ x0 < 0 ∧ 0 = r ∧ u = [(h0, .inr (12, [.int 0, .ref h1, .ref h2, .ref h3, .ref h4, .ref h5, .int 1, .int 3, .int 50, .int (-1), .int (-1), .int (-1), .int (-1), .int 0, .int 100, .int 1000, .long 0])), (h3, .inr (4, [.int 0, .ref (E.2.2 0), .int 0]))])) (fun u => u) 0 0 := by
  refine rc_ini (cc := cX7_isRun) (maxL := 2) (ret := (some FieldType.boolean)) (by decide) rfl (Nat.le_of_ble_eq_true rfl) ?_
  intro p e s m args below meth c ls A hx hb hr hml _ hown hlocks hin hA hAm hw hl
  have hown : s.vm.findClass RX7 = some m.cls := hown
  have hl : lv_has ls 2 [(0, .ref h0), (1, .int x0)] := hl
  refine lv_iload_n hx hb dX7_isRun_0 rfl (lv_at hl 1 rfl) ?_
  refine lv_iconst (v := 0) hx hb dX7_isRun_1 (by decide) ?_
  refine lv_aload_n hx hb dX7_isRun_2 rfl (lv_at hl 0 rfl) ?_
  refine rc_get (v := .ref h3) hx hb hown hAm hw lyX7 0 rfl rfl 3 (by decide) qw_863 (fun _ h9 => h9) rfl dX7_isRun_3 ?_
  refine rc_calli (wr := [(h0, .inr (12, [.int 0, .ref h1, .ref h2, .ref h3, .ref h4, .ref h5, .int 1, .int 3, .int 50, .int (-1), .int (-1), .int (-1), .int (-1), .int 0, .int 100, .int 1000, .long 0]))]) (va_runV (As := []) (rest := [.int 0, .int x0]) (Ts := []) ⟨hx, hb, hml, hown, fun _ h9 => absurd h9 List.not_mem_nil⟩ (cw_Jx4a65c_size_8abf5 l E _ h3) (rc_cwV hAm qw_928 qw_4 qw_289 qw_287 qw_288 rfl rfl hd_Jx4a65c_size_8abf5 ⟨Nat.le_of_ble_eq_true rfl, Nat.le_of_ble_eq_true rfl⟩) (rc_preV hAm hA hw [1] rfl rfl 1 rfl (q := vwCl[4]) rfl) rfl rfl hl.1 rfl (lv_room (Nat.le_of_ble_eq_true rfl)) dX7_isRun_6 ⟨Nat.le_of_ble_eq_true rfl, Nat.le_of_ble_eq_true rfl⟩) hA hw [1] [0] rfl rfl rfl (by decide) (fun r_1 u_2 H locs hp hw => ?_)
  obtain ⟨rfl, rfl⟩ := hp
  have hw : rc_W E A s [(h0, .inr (12, [.int 0, .ref h1, .ref h2, .ref h3, .ref h4, .ref h5, .int 1, .int 3, .int 50, .int (-1), .int (-1), .int (-1), .int (-1), .int 0, .int 100, .int 1000, .long 0])), (h3, .inr (4, [.int 0, .ref (E.2.2 0), .int 0]))] H locs := hw
  refine lv_iconst (v := 1) hx hb dX7_isRun_9 (by decide) ?_
  refine lv_isub hx hb dX7_isRun_10 ?_
  refine rc_topi (-1) (by decide) ?_
  refine rc_calli (wr := [(h0, .inr (12, [.int 0, .ref h1, .ref h2, .ref h3, .ref h4, .ref h5, .int 1, .int 3, .int 50, .int (-1), .int (-1), .int (-1), .int (-1), .int 0, .int 100, .int 1000, .long 0])), (h3, .inr (4, [.int 0, .ref (E.2.2 0), .int 0]))]) (va_runS (As := [.int x0, .int 0, .int (-1)]) (rest := []) (Ts := []) ⟨hx, hb, hml, hown, fun _ h9 => absurd h9 List.not_mem_nil⟩ (cw_X7_is l E _ x0) (rc_cwS hAm qw_921 qw_13 qw_923 qw_922 rfl rfl hd_X7_is ⟨Nat.le_of_ble_eq_true rfl, Nat.le_of_ble_eq_true rfl⟩) (rc_preS hAm hA hw [] rfl rfl) rfl rfl hl.1 rfl (lv_room (Nat.le_of_ble_eq_true rfl)) dX7_isRun_11 ⟨Nat.le_of_ble_eq_true rfl, Nat.le_of_ble_eq_true rfl⟩) hA hw [] [0, 1] rfl rfl rfl (by decide) (fun r_3 u_4 H locs hp hw => ?_)
  rcases hp with ⟨c_5, rfl, rfl⟩ | ⟨c_6, rfl, rfl⟩
  · have hw : rc_W E A s [(h0, .inr (12, [.int 0, .ref h1, .ref h2, .ref h3, .ref h4, .ref h5, .int 1, .int 3, .int 50, .int (-1), .int (-1), .int (-1), .int (-1), .int 0, .int 100, .int 1000, .long 0])), (h3, .inr (4, [.int 0, .ref (E.2.2 0), .int 0]))] H locs := hw
    exact rc_zret (v := 0) hx hb hr hlocks hw rfl [(h0, .inr (12, [.int 0, .ref h1, .ref h2, .ref h3, .ref h4, .ref h5, .int 1, .int 3, .int 50, .int (-1), .int (-1), .int (-1), .int (-1), .int 0, .int 100, .int 1000, .long 0])), (h3, .inr (4, [.int 0, .ref (E.2.2 0), .int 0]))] (Or.inl ⟨c_5, rfl, rfl⟩) [0, 1] rfl (by decide) (Nat.le_of_ble_eq_true rfl) (Nat.le_of_ble_eq_true rfl) dX7_isRun_14
  · have hw : rc_W E A s [(h0, .inr (12, [.int 0, .ref h1, .ref h2, .ref h3, .ref h4, .ref h5, .int 1, .int 3, .int 50, .int (-1), .int (-1), .int (-1), .int (-1), .int 0, .int 100, .int 1000, .long 0])), (h3, .inr (4, [.int 0, .ref (E.2.2 0), .int 0]))] H locs := hw
    exact rc_zret (v := 0) hx hb hr hlocks hw rfl [(h0, .inr (12, [.int 0, .ref h1, .ref h2, .ref h3, .ref h4, .ref h5, .int 1, .int 3, .int 50, .int (-1), .int (-1), .int (-1), .int (-1), .int 0, .int 100, .int 1000, .long 0])), (h3, .inr (4, [.int 0, .ref (E.2.2 0), .int 0]))] (Or.inr ⟨c_6, rfl, rfl⟩) [0, 1] rfl (by decide) (Nat.le_of_ble_eq_true rfl) (Nat.le_of_ble_eq_true rfl) dX7_isRun_14
theorem hd_X7_isRun : yX7_isRun.cls ≠ "java/lang/invoke/MethodHandle" ∧ yX7_isRun.cls ≠ "java/lang/invoke/VarHandle" ∧ (parseMethodDescriptor yX7_isRun.desc).map (fun d => d.parameters.length) = some 1 := by decide +kernel
set_option maxHeartbeats 4000000 in
set_option maxRecDepth 100000 in
theorem cw_X7_strike (l : Launch) (E : rc_E) (sz : Nat) (h0 : Nat) (x0 : Int32) (h1 : Nat) (h2 : Nat) (h3 : Nat) (h4 : Nat) (h5 : Nat) : rc_Mi l yX7_strike [Cond.code yX7_strike cX7_strike 2 (some FieldType.int)] { frames := 2, cells := 0, slots := 0, locals := 43 } E [.ref h0, .int x0] [(h0, .inr (12, [.int 0, .ref h1, .ref h2, .ref h3, .ref h4, .ref h5, .int 1, .int 3, .int 50, .int (-1), .int (-1), .int (-1), .int (-1), .int 0, .int 100, .int 1000, .long 0])), (h3, .inr (4, [.int 0, .ref (E.2.2 0), .int 0]))] sz (S := va_W) (fun (r : Int32) (u : va_W) => (x0 < 0 ∧ 0 = r ∧ u = [(h0, .inr (12, [.int 1, .ref h1, .ref h2, .ref h3, .ref h4, .ref h5, .int 1, .int 3, .int 50, .int (-1), .int (-1), .int (-1), .int (-1), .int 0, .int 100, .int 1000, .long 0])), (h3, .inr (4, [.int 0, .ref (E.2.2 0), .int 0]))]) ∨ (¬ x0 < 0 ∧ 0 = r ∧ u = [(h0, .inr (12, [.int 1, .ref h1, .ref h2, .ref h3, .ref h4, .ref h5, .int 1, .int 3, .int 50, .int (-1), .int (-1), .int (-1), .int (-1), .int 0, .int 100, .int 1000, .long 0])), (h3, .inr (4, [.int 0, .ref (E.2.2 0), .int 0]))])) (fun u => u) 0 0 := by
  refine rc_ini (cc := cX7_strike) (maxL := 2) (ret := (some FieldType.int)) (by decide) rfl (Nat.le_of_ble_eq_true rfl) ?_
  intro p e s m args below meth c ls A hx hb hr hml _ hown hlocks hin hA hAm hw hl
  have hown : s.vm.findClass RX7 = some m.cls := hown
  have hl : lv_has ls 2 [(0, .ref h0), (1, .int x0)] := hl
  refine lv_aload_n hx hb dX7_strike_0 rfl (lv_at hl 0 rfl) ?_
  refine lv_iconst (v := 0) hx hb dX7_strike_1 (by decide) ?_
  refine rc_put hx hb hown hAm hw lyX7 tyX7 tyX7_ok nmX7 0 rfl rfl 0 (by decide) qw_860 (fun _ h9 => h9) rfl rfl (by decide +kernel) (Nat.le_of_ble_eq_true rfl) [(h0, .inr (12, [.int 0, .ref h1, .ref h2, .ref h3, .ref h4, .ref h5, .int 1, .int 3, .int 50, .int (-1), .int (-1), .int (-1), .int (-1), .int 0, .int 100, .int 1000, .long 0])), (h3, .inr (4, [.int 0, .ref (E.2.2 0), .int 0]))] rfl dX7_strike_2 (fun H locs hw => ?_)
  refine lv_aload_n hx hb dX7_strike_5 rfl (lv_at hl 0 rfl) ?_
  refine lv_iload_n hx hb dX7_strike_6 rfl (lv_at hl 1 rfl) ?_
  refine rc_calli (wr := []) (va_runV (As := [.int x0]) (rest := []) (Ts := []) ⟨hx, hb, hml, hown, fun _ h9 => absurd h9 List.not_mem_nil⟩ (cw_X7_isRun l E _ h0 x0 h1 h2 h3 h4 h5) (rc_cwV hAm qw_1361 qw_13 qw_1364 qw_1363 qs_63 rfl rfl hd_X7_isRun ⟨Nat.le_of_ble_eq_true rfl, Nat.le_of_ble_eq_true rfl⟩) (rc_preV hAm hA hw [0, 1] rfl rfl 0 rfl (q := vwCl[12]) rfl) rfl rfl hl.1 rfl (lv_room (Nat.le_of_ble_eq_true rfl)) dX7_strike_7 ⟨Nat.le_of_ble_eq_true rfl, Nat.le_of_ble_eq_true rfl⟩) hA hw [0, 1] [] rfl rfl rfl (by decide) (fun r_1 u_2 H locs hp hw => ?_)
  rcases hp with ⟨c_3, rfl, rfl⟩ | ⟨c_4, rfl, rfl⟩
  · have hw : rc_W E A s [(h0, .inr (12, [.int 0, .ref h1, .ref h2, .ref h3, .ref h4, .ref h5, .int 1, .int 3, .int 50, .int (-1), .int (-1), .int (-1), .int (-1), .int 0, .int 100, .int 1000, .long 0])), (h3, .inr (4, [.int 0, .ref (E.2.2 0), .int 0]))] H locs := hw
    refine lv_if_ne (tgt := 19) hx hb dX7_strike_10 (by decide) (fun c9 => absurd (by decide) c9) (fun _ => ?_)
    refine lv_aload_n hx hb dX7_strike_13 rfl (lv_at hl 0 rfl) ?_
    refine lv_iconst (v := 1) hx hb dX7_strike_14 (by decide) ?_
    refine rc_calli (wr := [(h3, .inr (4, [.int 0, .ref (E.2.2 0), .int 0]))]) (va_runV (As := [.int 1]) (rest := []) (Ts := []) ⟨hx, hb, hml, hown, fun _ h9 => absurd h9 List.not_mem_nil⟩ (cw_X7_refuse l E _ h0 h1 h2 h3 h4 h5) (rc_cwV hAm qw_924 qw_13 qw_927 qw_926 qs_50 rfl rfl hd_X7_refuse ⟨Nat.le_of_ble_eq_true rfl, Nat.le_of_ble_eq_true rfl⟩) (rc_preV hAm hA hw [0] rfl rfl 0 rfl (q := vwCl[12]) rfl) rfl rfl hl.1 rfl (lv_room (Nat.le_of_ble_eq_true rfl)) dX7_strike_15 ⟨Nat.le_of_ble_eq_true rfl, Nat.le_of_ble_eq_true rfl⟩) hA hw [0] [1] rfl rfl rfl (by decide) (fun r_5 u_6 H locs hp hw => ?_)
    obtain ⟨rfl, rfl⟩ := hp
    have hw : rc_W E A s [(h3, .inr (4, [.int 0, .ref (E.2.2 0), .int 0])), (h0, .inr (12, [.int 1, .ref h1, .ref h2, .ref h3, .ref h4, .ref h5, .int 1, .int 3, .int 50, .int (-1), .int (-1), .int (-1), .int (-1), .int 0, .int 100, .int 1000, .long 0]))] H locs := hw
    exact rc_iret (v := 0) hx hb hr hlocks hw [(h0, .inr (12, [.int 1, .ref h1, .ref h2, .ref h3, .ref h4, .ref h5, .int 1, .int 3, .int 50, .int (-1), .int (-1), .int (-1), .int (-1), .int 0, .int 100, .int 1000, .long 0])), (h3, .inr (4, [.int 0, .ref (E.2.2 0), .int 0]))] (Or.inl ⟨c_3, rfl, rfl⟩) [1, 0] rfl (by decide) (Nat.le_of_ble_eq_true rfl) (Nat.le_of_ble_eq_true rfl) dX7_strike_18
  · have hw : rc_W E A s [(h0, .inr (12, [.int 0, .ref h1, .ref h2, .ref h3, .ref h4, .ref h5, .int 1, .int 3, .int 50, .int (-1), .int (-1), .int (-1), .int (-1), .int 0, .int 100, .int 1000, .long 0])), (h3, .inr (4, [.int 0, .ref (E.2.2 0), .int 0]))] H locs := hw
    refine lv_if_ne (tgt := 19) hx hb dX7_strike_10 (by decide) (fun c9 => absurd (by decide) c9) (fun _ => ?_)
    refine lv_aload_n hx hb dX7_strike_13 rfl (lv_at hl 0 rfl) ?_
    refine lv_iconst (v := 1) hx hb dX7_strike_14 (by decide) ?_
    refine rc_calli (wr := [(h3, .inr (4, [.int 0, .ref (E.2.2 0), .int 0]))]) (va_runV (As := [.int 1]) (rest := []) (Ts := []) ⟨hx, hb, hml, hown, fun _ h9 => absurd h9 List.not_mem_nil⟩ (cw_X7_refuse l E _ h0 h1 h2 h3 h4 h5) (rc_cwV hAm qw_924 qw_13 qw_927 qw_926 qs_50 rfl rfl hd_X7_refuse ⟨Nat.le_of_ble_eq_true rfl, Nat.le_of_ble_eq_true rfl⟩) (rc_preV hAm hA hw [0] rfl rfl 0 rfl (q := vwCl[12]) rfl) rfl rfl hl.1 rfl (lv_room (Nat.le_of_ble_eq_true rfl)) dX7_strike_15 ⟨Nat.le_of_ble_eq_true rfl, Nat.le_of_ble_eq_true rfl⟩) hA hw [0] [1] rfl rfl rfl (by decide) (fun r_7 u_8 H locs hp hw => ?_)
    obtain ⟨rfl, rfl⟩ := hp
    have hw : rc_W E A s [(h3, .inr (4, [.int 0, .ref (E.2.2 0), .int 0])), (h0, .inr (12, [.int 1, .ref h1, .ref h2, .ref h3, .ref h4, .ref h5, .int 1, .int 3, .int 50, .int (-1), .int (-1), .int (-1), .int (-1), .int 0, .int 100, .int 1000, .long 0]))] H locs := hw
    exact rc_iret (v := 0) hx hb hr hlocks hw [(h0, .inr (12, [.int 1, .ref h1, .ref h2, .ref h3, .ref h4, .ref h5, .int 1, .int 3, .int 50, .int (-1), .int (-1), .int (-1), .int (-1), .int 0, .int 100, .int 1000, .long 0])), (h3, .inr (4, [.int 0, .ref (E.2.2 0), .int 0]))] (Or.inr ⟨c_4, rfl, rfl⟩) [1, 0] rfl (by decide) (Nat.le_of_ble_eq_true rfl) (Nat.le_of_ble_eq_true rfl) dX7_strike_18
set_option maxHeartbeats 4000000 in
set_option maxRecDepth 100000 in
theorem cw_X7_ofRun (l : Launch) (E : rc_E) (sz : Nat) (h0 : Nat) (x0 : Int32) (x1 : Int32) (h1 : Nat) (h2 : Nat) (h3 : Nat) (h4 : Nat) (h5 : Nat) : rc_Mi l yX7_ofRun [Cond.code yX7_ofRun cX7_ofRun 3 (some FieldType.int)] { frames := 2, cells := 0, slots := 0, locals := 43 } E [.ref h0, .int x0, .int x1] [(h0, .inr (12, [.int 0, .ref h1, .ref h2, .ref h3, .ref h4, .ref h5, .int 1, .int 3, .int 50, .int (-1), .int (-1), .int (-1), .int (-1), .int 0, .int 100, .int 1000, .long 0])), (h3, .inr (4, [.int 0, .ref (E.2.2 0), .int 0]))] sz (S := va_W) (fun (r : Int32) (u : va_W) => (x0 < 0 ∧ 0 = r ∧ u = [(h0, .inr (12, [.int 1, .ref h1, .ref h2, .ref h3, .ref h4, .ref h5, .int 1, .int 3, .int 50, .int (-1), .int (-1), .int (-1), .int (-1), .int 0, .int 100, .int 1000, .long 0])), (h3, .inr (4, [.int 0, .ref (E.2.2 0), .int 0]))]) ∨ (¬ x0 < 0 ∧ 0 = r ∧ u = [(h0, .inr (12, [.int 1, .ref h1, .ref h2, .ref h3, .ref h4, .ref h5, .int 1, .int 3, .int 50, .int (-1), .int (-1), .int (-1), .int (-1), .int 0, .int 100, .int 1000, .long 0])), (h3, .inr (4, [.int 0, .ref (E.2.2 0), .int 0]))])) (fun u => u) 0 0 := by
  refine rc_ini (cc := cX7_ofRun) (maxL := 3) (ret := (some FieldType.int)) (by decide) rfl (Nat.le_of_ble_eq_true rfl) ?_
  intro p e s m args below meth c ls A hx hb hr hml _ hown hlocks hin hA hAm hw hl
  have hown : s.vm.findClass RX7 = some m.cls := hown
  have hl : lv_has ls 3 [(0, .ref h0), (1, .int x0), (2, .int x1)] := hl
  refine lv_aload_n hx hb dX7_ofRun_0 rfl (lv_at hl 0 rfl) ?_
  refine lv_iconst (v := 0) hx hb dX7_ofRun_1 (by decide) ?_
  refine rc_put hx hb hown hAm hw lyX7 tyX7 tyX7_ok nmX7 0 rfl rfl 0 (by decide) qw_860 (fun _ h9 => h9) rfl rfl (by decide +kernel) (Nat.le_of_ble_eq_true rfl) [(h0, .inr (12, [.int 0, .ref h1, .ref h2, .ref h3, .ref h4, .ref h5, .int 1, .int 3, .int 50, .int (-1), .int (-1), .int (-1), .int (-1), .int 0, .int 100, .int 1000, .long 0])), (h3, .inr (4, [.int 0, .ref (E.2.2 0), .int 0]))] rfl dX7_ofRun_2 (fun H locs hw => ?_)
  refine lv_aload_n hx hb dX7_ofRun_5 rfl (lv_at hl 0 rfl) ?_
  refine lv_iload_n hx hb dX7_ofRun_6 rfl (lv_at hl 1 rfl) ?_
  refine rc_calli (wr := []) (va_runV (As := [.int x0]) (rest := []) (Ts := []) ⟨hx, hb, hml, hown, fun _ h9 => absurd h9 List.not_mem_nil⟩ (cw_X7_isRun l E _ h0 x0 h1 h2 h3 h4 h5) (rc_cwV hAm qw_1361 qw_13 qw_1364 qw_1363 qs_63 rfl rfl hd_X7_isRun ⟨Nat.le_of_ble_eq_true rfl, Nat.le_of_ble_eq_true rfl⟩) (rc_preV hAm hA hw [0, 1] rfl rfl 0 rfl (q := vwCl[12]) rfl) rfl rfl hl.1 rfl (lv_room (Nat.le_of_ble_eq_true rfl)) dX7_ofRun_7 ⟨Nat.le_of_ble_eq_true rfl, Nat.le_of_ble_eq_true rfl⟩) hA hw [0, 1] [] rfl rfl rfl (by decide) (fun r_1 u_2 H locs hp hw => ?_)
  rcases hp with ⟨c_3, rfl, rfl⟩ | ⟨c_4, rfl, rfl⟩
  · have hw : rc_W E A s [(h0, .inr (12, [.int 0, .ref h1, .ref h2, .ref h3, .ref h4, .ref h5, .int 1, .int 3, .int 50, .int (-1), .int (-1), .int (-1), .int (-1), .int 0, .int 100, .int 1000, .long 0])), (h3, .inr (4, [.int 0, .ref (E.2.2 0), .int 0]))] H locs := hw
    refine lv_if_ne (tgt := 19) hx hb dX7_ofRun_10 (by decide) (fun c9 => absurd (by decide) c9) (fun _ => ?_)
    refine lv_aload_n hx hb dX7_ofRun_13 rfl (lv_at hl 0 rfl) ?_
    refine lv_iconst (v := 1) hx hb dX7_ofRun_14 (by decide) ?_
    refine rc_calli (wr := [(h3, .inr (4, [.int 0, .ref (E.2.2 0), .int 0]))]) (va_runV (As := [.int 1]) (rest := []) (Ts := []) ⟨hx, hb, hml, hown, fun _ h9 => absurd h9 List.not_mem_nil⟩ (cw_X7_refuse l E _ h0 h1 h2 h3 h4 h5) (rc_cwV hAm qw_924 qw_13 qw_927 qw_926 qs_50 rfl rfl hd_X7_refuse ⟨Nat.le_of_ble_eq_true rfl, Nat.le_of_ble_eq_true rfl⟩) (rc_preV hAm hA hw [0] rfl rfl 0 rfl (q := vwCl[12]) rfl) rfl rfl hl.1 rfl (lv_room (Nat.le_of_ble_eq_true rfl)) dX7_ofRun_15 ⟨Nat.le_of_ble_eq_true rfl, Nat.le_of_ble_eq_true rfl⟩) hA hw [0] [1] rfl rfl rfl (by decide) (fun r_5 u_6 H locs hp hw => ?_)
    obtain ⟨rfl, rfl⟩ := hp
    have hw : rc_W E A s [(h3, .inr (4, [.int 0, .ref (E.2.2 0), .int 0])), (h0, .inr (12, [.int 1, .ref h1, .ref h2, .ref h3, .ref h4, .ref h5, .int 1, .int 3, .int 50, .int (-1), .int (-1), .int (-1), .int (-1), .int 0, .int 100, .int 1000, .long 0]))] H locs := hw
    exact rc_iret (v := 0) hx hb hr hlocks hw [(h0, .inr (12, [.int 1, .ref h1, .ref h2, .ref h3, .ref h4, .ref h5, .int 1, .int 3, .int 50, .int (-1), .int (-1), .int (-1), .int (-1), .int 0, .int 100, .int 1000, .long 0])), (h3, .inr (4, [.int 0, .ref (E.2.2 0), .int 0]))] (Or.inl ⟨c_3, rfl, rfl⟩) [1, 0] rfl (by decide) (Nat.le_of_ble_eq_true rfl) (Nat.le_of_ble_eq_true rfl) dX7_ofRun_18
  · have hw : rc_W E A s [(h0, .inr (12, [.int 0, .ref h1, .ref h2, .ref h3, .ref h4, .ref h5, .int 1, .int 3, .int 50, .int (-1), .int (-1), .int (-1), .int (-1), .int 0, .int 100, .int 1000, .long 0])), (h3, .inr (4, [.int 0, .ref (E.2.2 0), .int 0]))] H locs := hw
    refine lv_if_ne (tgt := 19) hx hb dX7_ofRun_10 (by decide) (fun c9 => absurd (by decide) c9) (fun _ => ?_)
    refine lv_aload_n hx hb dX7_ofRun_13 rfl (lv_at hl 0 rfl) ?_
    refine lv_iconst (v := 1) hx hb dX7_ofRun_14 (by decide) ?_
    refine rc_calli (wr := [(h3, .inr (4, [.int 0, .ref (E.2.2 0), .int 0]))]) (va_runV (As := [.int 1]) (rest := []) (Ts := []) ⟨hx, hb, hml, hown, fun _ h9 => absurd h9 List.not_mem_nil⟩ (cw_X7_refuse l E _ h0 h1 h2 h3 h4 h5) (rc_cwV hAm qw_924 qw_13 qw_927 qw_926 qs_50 rfl rfl hd_X7_refuse ⟨Nat.le_of_ble_eq_true rfl, Nat.le_of_ble_eq_true rfl⟩) (rc_preV hAm hA hw [0] rfl rfl 0 rfl (q := vwCl[12]) rfl) rfl rfl hl.1 rfl (lv_room (Nat.le_of_ble_eq_true rfl)) dX7_ofRun_15 ⟨Nat.le_of_ble_eq_true rfl, Nat.le_of_ble_eq_true rfl⟩) hA hw [0] [1] rfl rfl rfl (by decide) (fun r_7 u_8 H locs hp hw => ?_)
    obtain ⟨rfl, rfl⟩ := hp
    have hw : rc_W E A s [(h3, .inr (4, [.int 0, .ref (E.2.2 0), .int 0])), (h0, .inr (12, [.int 1, .ref h1, .ref h2, .ref h3, .ref h4, .ref h5, .int 1, .int 3, .int 50, .int (-1), .int (-1), .int (-1), .int (-1), .int 0, .int 100, .int 1000, .long 0]))] H locs := hw
    exact rc_iret (v := 0) hx hb hr hlocks hw [(h0, .inr (12, [.int 1, .ref h1, .ref h2, .ref h3, .ref h4, .ref h5, .int 1, .int 3, .int 50, .int (-1), .int (-1), .int (-1), .int (-1), .int 0, .int 100, .int 1000, .long 0])), (h3, .inr (4, [.int 0, .ref (E.2.2 0), .int 0]))] (Or.inr ⟨c_4, rfl, rfl⟩) [1, 0] rfl (by decide) (Nat.le_of_ble_eq_true rfl) (Nat.le_of_ble_eq_true rfl) dX7_ofRun_18
set_option maxHeartbeats 4000000 in
set_option maxRecDepth 100000 in
theorem cw_X7_is_3 (l : Launch) (E : rc_E) (sz : Nat) (x0 : Int32) : rc_Mi l yX7_is [Cond.code yX7_is cX7_is 3 (some FieldType.boolean)] { frames := 0, cells := 0, slots := 0, locals := 0 } E [.int x0, .int 0, .int 5] [] sz (S := va_W) (fun (r : Int32) (u : va_W) => (x0 < 0 ∧ 0 = r ∧ u = []) ∨ (¬ x0 < 0 ∧ 5 < x0 ∧ 0 = r ∧ u = []) ∨ (¬ x0 < 0 ∧ ¬ 5 < x0 ∧ 1 = r ∧ u = [])) (fun u => u) 0 0 := by
  refine rc_ini (cc := cX7_is) (maxL := 3) (ret := (some FieldType.boolean)) (by decide) rfl (Nat.le_of_ble_eq_true rfl) ?_
  intro p e s m args below meth c ls A hx hb hr hml _ hown hlocks hin hA hAm hw hl
  have hown : s.vm.findClass RX7 = some m.cls := hown
  have hl : lv_has ls 3 [(0, .int x0), (1, .int 0), (2, .int 5)] := hl
  refine lv_iload_n hx hb dX7_is_0 rfl (lv_at hl 0 rfl) ?_
  refine lv_iload_n hx hb dX7_is_1 rfl (lv_at hl 1 rfl) ?_
  refine lv_icmp_lt (tgt := 14) hx hb dX7_is_2 (by decide) (fun c_1 => ?_) (fun c_1 => ?_)
  · refine lv_iconst (v := 0) hx hb dX7_is_14 (by decide) ?_
    exact rc_zret (v := 0) hx hb hr hlocks hw rfl [] (Or.inl ⟨c_1, rfl, rfl⟩) [] rfl (by decide) (Nat.le_of_ble_eq_true rfl) (Nat.le_of_ble_eq_true rfl) dX7_is_15
  · refine lv_iload_n hx hb dX7_is_5 rfl (lv_at hl 0 rfl) ?_
    refine lv_iload_n hx hb dX7_is_6 rfl (lv_at hl 2 rfl) ?_
    refine lv_icmp_gt (tgt := 14) hx hb dX7_is_7 (by decide) (fun c_2 => ?_) (fun c_2 => ?_)
    · refine lv_iconst (v := 0) hx hb dX7_is_14 (by decide) ?_
      exact rc_zret (v := 0) hx hb hr hlocks hw rfl [] (Or.inr (Or.inl ⟨c_1, c_2, rfl, rfl⟩)) [] rfl (by decide) (Nat.le_of_ble_eq_true rfl) (Nat.le_of_ble_eq_true rfl) dX7_is_15
    · refine lv_iconst (v := 1) hx hb dX7_is_10 (by decide) ?_
      refine lv_goto (tgt := 15) hx hb dX7_is_11 (by decide) ?_
      exact rc_zret (v := 1) hx hb hr hlocks hw rfl [] (Or.inr (Or.inr ⟨c_1, c_2, rfl, rfl⟩)) [] rfl (by decide) (Nat.le_of_ble_eq_true rfl) (Nat.le_of_ble_eq_true rfl) dX7_is_15
set_option maxHeartbeats 4000000 in
set_option maxRecDepth 100000 in
theorem cw_X7_refuse_2 (l : Launch) (E : rc_E) (sz : Nat) (h0 : Nat) (h1 : Nat) (h2 : Nat) (h3 : Nat) (h4 : Nat) (h5 : Nat) : rc_Mi l yX7_refuse [Cond.code yX7_refuse cX7_refuse 2 (some FieldType.int)] { frames := 0, cells := 0, slots := 0, locals := 0 } E [.ref h0, .int 2] [(h0, .inr (12, [.int 0, .ref h1, .ref h2, .ref h3, .ref h4, .ref h5, .int 1, .int 3, .int 50, .int (-1), .int (-1), .int (-1), .int (-1), .int 0, .int 100, .int 1000, .long 0]))] sz (S := va_W) (fun (r : Int32) (u : va_W) => (0 = r ∧ u = [(h0, .inr (12, [.int 2, .ref h1, .ref h2, .ref h3, .ref h4, .ref h5, .int 1, .int 3, .int 50, .int (-1), .int (-1), .int (-1), .int (-1), .int 0, .int 100, .int 1000, .long 0]))])) (fun u => u) 0 0 := by
  refine rc_ini (cc := cX7_refuse) (maxL := 2) (ret := (some FieldType.int)) (by decide) rfl (Nat.le_of_ble_eq_true rfl) ?_
  intro p e s m args below meth c ls A hx hb hr hml _ hown hlocks hin hA hAm hw hl
  have hown : s.vm.findClass RX7 = some m.cls := hown
  have hl : lv_has ls 2 [(0, .ref h0), (1, .int 2)] := hl
  refine lv_aload_n hx hb dX7_refuse_0 rfl (lv_at hl 0 rfl) ?_
  refine lv_iload_n hx hb dX7_refuse_1 rfl (lv_at hl 1 rfl) ?_
  refine rc_put hx hb hown hAm hw lyX7 tyX7 tyX7_ok nmX7 0 rfl rfl 0 (by decide) qw_860 (fun _ h9 => h9) rfl rfl (by decide +kernel) (Nat.le_of_ble_eq_true rfl) [(h0, .inr (12, [.int 2, .ref h1, .ref h2, .ref h3, .ref h4, .ref h5, .int 1, .int 3, .int 50, .int (-1), .int (-1), .int (-1), .int (-1), .int 0, .int 100, .int 1000, .long 0]))] rfl dX7_refuse_2 (fun H locs hw => ?_)
  refine lv_iconst (v := 0) hx hb dX7_refuse_5 (by decide) ?_
  exact rc_iret (v := 0) hx hb hr hlocks hw [(h0, .inr (12, [.int 2, .ref h1, .ref h2, .ref h3, .ref h4, .ref h5, .int 1, .int 3, .int 50, .int (-1), .int (-1), .int (-1), .int (-1), .int 0, .int 100, .int 1000, .long 0]))] (⟨rfl, rfl⟩) [0] rfl (by decide) (Nat.le_of_ble_eq_true rfl) (Nat.le_of_ble_eq_true rfl) dX7_refuse_6
set_option maxHeartbeats 4000000 in
set_option maxRecDepth 100000 in
theorem cw_Jx35411_init_45d68 (l : Launch) (E : rc_E) (sz : Nat) (h0 : Nat) (h1 : Nat) : rc_Mv l yJx35411_init_45d68 [Cond.code yJx35411_init_45d68 cJx35411_init_45d68 2 (none : Option FieldType)] { frames := 1, cells := 0, slots := 0, locals := 12 } E [.ref h0, .ref h1] [(h0, .inr (3, [.int 0, .int 0, .int 0, .null])), (h1, .inr (4, [.int 0, .ref (E.2.2 0), .int 0]))] sz (S := va_W) (fun (u : va_W) => (u = [(h0, .inr (3, [.int 0, .int (-1), .int 0, .ref h1])), (h1, .inr (4, [.int 0, .ref (E.2.2 0), .int 0]))])) (fun u => u) 0 0 := by
  refine rc_inv (cc := cJx35411_init_45d68) (maxL := 2) (ret := (none : Option FieldType)) (by decide) rfl (Nat.le_of_ble_eq_true rfl) ?_
  intro p e s m args below meth c ls A hx hb hr hml _ hown hlocks hin hA hAm hw hl
  have hown : s.vm.findClass RJx35411 = some m.cls := hown
  have hl : lv_has ls 2 [(0, .ref h0), (1, .ref h1)] := hl
  refine lv_aload_n hx hb dJx35411_init_45d68_0 rfl (lv_at hl 0 rfl) ?_
  refine lv_aload_n hx hb dJx35411_init_45d68_1 rfl (lv_at hl 1 rfl) ?_
  refine rc_putF hx hb hown hAm hw lyJx35411 tyJx35411 tyJx35411_ok nmJx35411 0 rfl rfl 3 (by decide) qw_1308 (fun _ h9 => h9) rfl hin rfl rfl rfl (Nat.le_of_ble_eq_true rfl) [(h0, .inr (3, [.int 0, .int 0, .int 0, .ref h1])), (h1, .inr (4, [.int 0, .ref (E.2.2 0), .int 0]))] rfl dJx35411_init_45d68_2 (fun H locs hw => ?_)
  refine lv_aload_n hx hb dJx35411_init_45d68_5 rfl (lv_at hl 0 rfl) ?_
  refine rc_obj hx hb hown hAm qw_1304 qw_40 qw_41 (by rw [hml]; exact hl.1) (Nat.le_of_ble_eq_true rfl) (Nat.le_of_ble_eq_true rfl) dJx35411_init_45d68_6 ?_
  refine lv_aload_n hx hb dJx35411_init_45d68_9 rfl (lv_at hl 0 rfl) ?_
  refine lv_iconst (v := (-1)) hx hb dJx35411_init_45d68_10 (by decide) ?_
  refine rc_put hx hb hown hAm hw lyJx35411 tyJx35411 tyJx35411_ok nmJx35411 0 rfl rfl 1 (by decide) qw_1306 (fun _ h9 => h9) rfl rfl (by decide +kernel) (Nat.le_of_ble_eq_true rfl) [(h0, .inr (3, [.int 0, .int (-1), .int 0, .ref h1])), (h1, .inr (4, [.int 0, .ref (E.2.2 0), .int 0]))] rfl dJx35411_init_45d68_11 (fun H locs hw => ?_)
  refine lv_aload_n hx hb dJx35411_init_45d68_14 rfl (lv_at hl 0 rfl) ?_
  refine lv_aload_n hx hb dJx35411_init_45d68_15 rfl (lv_at hl 0 rfl) ?_
  refine rc_get (v := .ref h1) hx hb hown hAm hw lyJx35411 0 rfl rfl 3 (by decide) qw_1308 (fun _ h9 => h9) rfl dJx35411_init_45d68_16 ?_
  refine rc_get (v := .int 0) hx hb hown hAm hw lyJx4a65c 1 rfl rfl 0 (by decide) qw_61 (fun x9 h9 => u_same (hAm.wd (a := args) qw_62 rfl rfl) x9 h9) rfl dJx35411_init_45d68_19 ?_
  refine rc_put hx hb hown hAm hw lyJx35411 tyJx35411 tyJx35411_ok nmJx35411 0 rfl rfl 2 (by decide) qw_1307 (fun _ h9 => h9) rfl rfl (by decide +kernel) (Nat.le_of_ble_eq_true rfl) [(h0, .inr (3, [.int 0, .int (-1), .int 0, .ref h1])), (h1, .inr (4, [.int 0, .ref (E.2.2 0), .int 0]))] rfl dJx35411_init_45d68_22 (fun H locs hw => ?_)
  exact rc_vret hx hb hr hlocks hw [(h0, .inr (3, [.int 0, .int (-1), .int 0, .ref h1])), (h1, .inr (4, [.int 0, .ref (E.2.2 0), .int 0]))] (rfl) [0, 1] rfl (by decide) (Nat.le_of_ble_eq_true rfl) (Nat.le_of_ble_eq_true rfl) dJx35411_init_45d68_25
theorem hd_Jx35411_init_45d68 : yJx35411_init_45d68.cls ≠ "java/lang/invoke/MethodHandle" ∧ yJx35411_init_45d68.cls ≠ "java/lang/invoke/VarHandle" ∧ (parseMethodDescriptor yJx35411_init_45d68.desc).map (fun d => d.parameters.length) = some 1 := by decide +kernel
set_option maxHeartbeats 4000000 in
set_option maxRecDepth 100000 in
theorem cw_Jx4a65c_iterator_32c93 (l : Launch) (E : rc_E) (sz : Nat) (h0 : Nat) : rc_Mr l yJx4a65c_iterator_32c93 [Cond.code yJx4a65c_iterator_32c93 cJx4a65c_iterator_32c93 1 (some (FieldType.object "java/util/Iterator"))] { frames := 2, cells := 1, slots := 4, locals := 33 } E [.ref h0] [(h0, .inr (4, [.int 0, .ref (E.2.2 0), .int 0]))] sz (S := va_W) (fun (u : va_W) (r : Nat) => (∃ q1 : Nat, q1 = r ∧ u = [(h0, .inr (4, [.int 0, .ref (E.2.2 0), .int 0])), (q1, .inr (3, [.int 0, .int (-1), .int 0, .ref h0]))])) (fun u => u) 1 4 := by
  refine rc_inr (cc := cJx4a65c_iterator_32c93) (maxL := 1) (ret := (some (FieldType.object "java/util/Iterator"))) (by decide) rfl (Nat.le_of_ble_eq_true rfl) ?_
  intro p e s m args below meth c ls A hx hb hr hml _ hown hlocks hin hA hAm hw hl
  have hown : s.vm.findClass RJx4a65c = some m.cls := hown
  have hl : lv_has ls 1 [(0, .ref h0)] := hl
  refine rc_new (C := RJx35411) (ci := 3) hx hb hown hAm hA hw lyJx35411 tyJx35411 tyJx35411_ok rfl qw_1299 qw_1300 qw_32 [.int 0, .int 0, .int 0, .null] rfl (Nat.le_of_ble_eq_true rfl) (Nat.le_of_ble_eq_true rfl) dJx4a65c_iterator_32c93_0 (fun q1 H hw => ?_)
  have hw : rc_W E A s [(h0, .inr (4, [.int 0, .ref (E.2.2 0), .int 0])), (q1, .inr (3, [.int 0, .int 0, .int 0, .null]))] H _ := hw
  refine lv_dup hx hb dJx4a65c_iterator_32c93_3 rfl ?_
  refine lv_aload_n hx hb dJx4a65c_iterator_32c93_4 rfl (lv_at hl 0 rfl) ?_
  refine rc_callv (wr := []) (va_runI (As := [.ref h0]) (rest := [.ref q1]) (Ts := []) ⟨hx, hb, hml, hown, fun _ h9 => absurd h9 List.not_mem_nil⟩ (cw_Jx35411_init_45d68 l E _ q1 h0) (rc_cwI hAm qw_1301 qw_32 qw_1303 qw_1302 rfl rfl rfl hd_Jx35411_init_45d68 ⟨Nat.le_of_ble_eq_true rfl, Nat.le_of_ble_eq_true rfl⟩) (rc_preS hAm hA hw [1, 0] rfl rfl) rfl rfl hl.1 rfl (lv_room (Nat.le_of_ble_eq_true rfl)) dJx4a65c_iterator_32c93_5 ⟨Nat.le_of_ble_eq_true rfl, Nat.le_of_ble_eq_true rfl⟩) hA hw [1, 0] [] rfl rfl rfl (by decide) (fun u_2 H locs hp hw => ?_)
  obtain ⟨rfl⟩ := hp
  have hw : rc_W E A s [(q1, .inr (3, [.int 0, .int (-1), .int 0, .ref h0])), (h0, .inr (4, [.int 0, .ref (E.2.2 0), .int 0]))] H locs := hw
  exact rc_aret (v := q1) hx hb hr (by first | exact Or.inl ⟨_, rfl⟩ | exact Or.inr ⟨_, rfl⟩) hlocks hw [(h0, .inr (4, [.int 0, .ref (E.2.2 0), .int 0])), (q1, .inr (3, [.int 0, .int (-1), .int 0, .ref h0]))] (⟨q1, rfl, rfl⟩) [1, 0] rfl (by decide) (Nat.le_of_ble_eq_true rfl) (Nat.le_of_ble_eq_true rfl) dJx4a65c_iterator_32c93_8
theorem hd_Jx4a65c_iterator_32c93 : yJx4a65c_iterator_32c93.cls ≠ "java/lang/invoke/MethodHandle" ∧ yJx4a65c_iterator_32c93.cls ≠ "java/lang/invoke/VarHandle" ∧ (parseMethodDescriptor yJx4a65c_iterator_32c93.desc).map (fun d => d.parameters.length) = some 0 := by decide +kernel
set_option maxHeartbeats 4000000 in
set_option maxRecDepth 100000 in
theorem cw_Jx35411_hasNext_aae02 (l : Launch) (E : rc_E) (sz : Nat) (h0 : Nat) (h1 : Nat) : rc_Mi l yJx35411_hasNext_aae02 [Cond.code yJx35411_hasNext_aae02 cJx35411_hasNext_aae02 1 (some FieldType.boolean)] { frames := 0, cells := 0, slots := 0, locals := 0 } E [.ref h0] [(h0, .inr (3, [.int 0, .int (-1), .int 0, .ref h1])), (h1, .inr (4, [.int 0, .ref (E.2.2 0), .int 0]))] sz (S := va_W) (fun (r : Int32) (u : va_W) => (0 = r ∧ u = [(h0, .inr (3, [.int 0, .int (-1), .int 0, .ref h1])), (h1, .inr (4, [.int 0, .ref (E.2.2 0), .int 0]))])) (fun u => u) 0 0 := by
  refine rc_ini (cc := cJx35411_hasNext_aae02) (maxL := 1) (ret := (some FieldType.boolean)) (by decide) rfl (Nat.le_of_ble_eq_true rfl) ?_
  intro p e s m args below meth c ls A hx hb hr hml _ hown hlocks hin hA hAm hw hl
  have hown : s.vm.findClass RJx35411 = some m.cls := hown
  have hl : lv_has ls 1 [(0, .ref h0)] := hl
  refine lv_aload_n hx hb dJx35411_hasNext_aae02_0 rfl (lv_at hl 0 rfl) ?_
  refine rc_get (v := .int 0) hx hb hown hAm hw lyJx35411 0 rfl rfl 0 (by decide) qw_1305 (fun _ h9 => h9) rfl dJx35411_hasNext_aae02_1 ?_
  refine lv_aload_n hx hb dJx35411_hasNext_aae02_4 rfl (lv_at hl 0 rfl) ?_
  refine rc_get (v := .ref h1) hx hb hown hAm hw lyJx35411 0 rfl rfl 3 (by decide) qw_1308 (fun _ h9 => h9) rfl dJx35411_hasNext_aae02_5 ?_
  refine rc_getN (v := .int 0) hx hb hown hAm hw lyJx4a65c 1 rfl rfl 2 (by decide) qw_58 (fun _ h9 => h9) rfl dJx35411_hasNext_aae02_8 ?_
  refine lv_icmp_eq (tgt := 18) hx hb dJx35411_hasNext_aae02_11 (by decide) (fun _ => ?_) (fun c9 => absurd (by decide) c9)
  refine lv_iconst (v := 0) hx hb dJx35411_hasNext_aae02_18 (by decide) ?_
  exact rc_zret (v := 0) hx hb hr hlocks hw rfl [(h0, .inr (3, [.int 0, .int (-1), .int 0, .ref h1])), (h1, .inr (4, [.int 0, .ref (E.2.2 0), .int 0]))] (⟨rfl, rfl⟩) [0, 1] rfl (by decide) (Nat.le_of_ble_eq_true rfl) (Nat.le_of_ble_eq_true rfl) dJx35411_hasNext_aae02_19
set_option maxHeartbeats 4000000 in
set_option maxRecDepth 100000 in
theorem cw_J7_checkLength_df160 (l : Launch) (E : rc_E) (sz : Nat) : rc_Mv l yJ7_checkLength_df160 [Cond.code yJ7_checkLength_df160 cJ7_checkLength_df160 2 (none : Option FieldType)] { frames := 0, cells := 0, slots := 0, locals := 0 } E [.int 6, .int 6] [] sz (S := va_W) (fun (u : va_W) => (u = [])) (fun u => u) 0 0 := by
  refine rc_inv (cc := cJ7_checkLength_df160) (maxL := 2) (ret := (none : Option FieldType)) (by decide) rfl (Nat.le_of_ble_eq_true rfl) ?_
  intro p e s m args below meth c ls A hx hb hr hml _ hown hlocks hin hA hAm hw hl
  have hown : s.vm.findClass RJ7 = some m.cls := hown
  have hl : lv_has ls 2 [(0, .int 6), (1, .int 6)] := hl
  refine lv_iload_n hx hb dJ7_checkLength_df160_0 rfl (lv_at hl 1 rfl) ?_
  refine lv_iload_n hx hb dJ7_checkLength_df160_1 rfl (lv_at hl 0 rfl) ?_
  refine lv_icmp_ge (tgt := 37) hx hb dJ7_checkLength_df160_2 (by decide) (fun _ => ?_) (fun c9 => absurd (by decide) c9)
  exact rc_vret hx hb hr hlocks hw [] (rfl) [] rfl (by decide) (Nat.le_of_ble_eq_true rfl) (Nat.le_of_ble_eq_true rfl) dJ7_checkLength_df160_37
theorem hd_J7_checkLength_df160 : yJ7_checkLength_df160.cls ≠ "java/lang/invoke/MethodHandle" ∧ yJ7_checkLength_df160.cls ≠ "java/lang/invoke/VarHandle" ∧ (parseMethodDescriptor yJ7_checkLength_df160.desc).map (fun d => d.parameters.length) = some 2 := by decide +kernel
set_option maxHeartbeats 4000000 in
set_option maxRecDepth 100000 in
theorem cw_J7_copyOfRangeInt_feecc (l : Launch) (E : rc_E) (sz : Nat) (h0 : Nat) : rc_Mr l yJ7_copyOfRangeInt_feecc [Cond.code yJ7_copyOfRangeInt_feecc cJ7_copyOfRangeInt_feecc 5 (some (FieldType.array FieldType.int))] { frames := 1, cells := 1, slots := 0, locals := 40 } E [.ref h0, .int 6, .int 6] [(h0, .inl (E.2.1 0, 6, .inl (fun _ => 0)))] sz (S := va_W) (fun (u : va_W) (r : Nat) => (∃ q1 : Nat, q1 = r ∧ u = [(h0, .inl (E.2.1 0, 6, .inl (fun _ => 0))), (q1, .inl (E.2.1 0, 0, .inl (va_cpy (fun _ => 0) (fun _ => 0) 6 0 0)))])) (fun u => u) 1 0 := by
  refine rc_inr (cc := cJ7_copyOfRangeInt_feecc) (maxL := 5) (ret := (some (FieldType.array FieldType.int))) (by decide) rfl (Nat.le_of_ble_eq_true rfl) ?_
  intro p e s m args below meth c ls A hx hb hr hml _ hown hlocks hin hA hAm hw hl
  have hown : s.vm.findClass RJ7 = some m.cls := hown
  have hl : lv_has ls 5 [(0, .ref h0), (1, .int 6), (2, .int 6)] := hl
  refine lv_iload_n hx hb dJ7_copyOfRangeInt_feecc_0 rfl (lv_at hl 1 rfl) ?_
  refine lv_iload_n hx hb dJ7_copyOfRangeInt_feecc_1 rfl (lv_at hl 2 rfl) ?_
  refine rc_callv (wr := [(h0, .inl (E.2.1 0, 6, .inl (fun _ => 0)))]) (va_runS (As := [.int 6, .int 6]) (rest := []) (Ts := []) ⟨hx, hb, hml, hown, fun _ h9 => absurd h9 List.not_mem_nil⟩ (cw_J7_checkLength_df160 l E _) (rc_cwS hAm qw_998 qw_11 qw_1000 qw_999 rfl rfl hd_J7_checkLength_df160 ⟨Nat.le_of_ble_eq_true rfl, Nat.le_of_ble_eq_true rfl⟩) (rc_preS hAm hA hw [] rfl rfl) rfl rfl hl.1 rfl (lv_room (Nat.le_of_ble_eq_true rfl)) dJ7_copyOfRangeInt_feecc_2 ⟨Nat.le_of_ble_eq_true rfl, Nat.le_of_ble_eq_true rfl⟩) hA hw [] [0] rfl rfl rfl (by decide) (fun u_2 H locs hp hw => ?_)
  obtain ⟨rfl⟩ := hp
  have hw : rc_W E A s [(h0, .inl (E.2.1 0, 6, .inl (fun _ => 0)))] H locs := hw
  refine lv_iload_n hx hb dJ7_copyOfRangeInt_feecc_5 rfl (lv_at hl 2 rfl) ?_
  refine lv_iload_n hx hb dJ7_copyOfRangeInt_feecc_6 rfl (lv_at hl 1 rfl) ?_
  refine lv_isub hx hb dJ7_copyOfRangeInt_feecc_7 ?_
  refine rc_topi 0 (by decide) ?_
  refine lv_istore_n (lv' := [(3, .int 0), (0, .ref h0), (1, .int 6), (2, .int 6)]) hx hb dJ7_copyOfRangeInt_feecc_8 rfl hl (by decide) rfl (fun ls hl => ?_)
  refine lv_iload_n hx hb dJ7_copyOfRangeInt_feecc_9 rfl (lv_at hl 0 rfl) ?_
  refine rc_inew hx hb hAm hA hw qw_108 0 (by decide) (by decide) (Nat.le_of_ble_eq_true rfl) (Nat.le_of_ble_eq_true rfl) (Nat.le_of_ble_eq_true rfl) dJ7_copyOfRangeInt_feecc_10 (fun q1 H hw => ?_)
  have hw : rc_W E A s [(h0, .inl (E.2.1 0, 6, .inl (fun _ => 0))), (q1, .inl (E.2.1 0, 0, .inl (fun _ => 0)))] H _ := hw
  refine lv_astore (lv' := [(4, .ref q1), (3, .int 0), (0, .ref h0), (1, .int 6), (2, .int 6)]) hx hb dJ7_copyOfRangeInt_feecc_12 hl (by decide) rfl (fun ls hl => ?_)
  refine lv_aload_n hx hb dJ7_copyOfRangeInt_feecc_14 rfl (lv_at hl 2 rfl) ?_
  refine lv_iload_n hx hb dJ7_copyOfRangeInt_feecc_15 rfl (lv_at hl 3 rfl) ?_
  refine lv_aload hx hb dJ7_copyOfRangeInt_feecc_16 (lv_at hl 0 rfl) ?_
  refine lv_iconst (v := 0) hx hb dJ7_copyOfRangeInt_feecc_18 (by decide) ?_
  refine lv_aload_n hx hb dJ7_copyOfRangeInt_feecc_19 rfl (lv_at hl 2 rfl) ?_
  refine rc_alen hx hb hAm hw 0 0 rfl rfl 6 rfl dJ7_copyOfRangeInt_feecc_20 ?_
  refine lv_iload_n hx hb dJ7_copyOfRangeInt_feecc_21 rfl (lv_at hl 3 rfl) ?_
  refine lv_isub hx hb dJ7_copyOfRangeInt_feecc_22 ?_
  refine rc_topi 0 (by decide) ?_
  refine lv_iload_n hx hb dJ7_copyOfRangeInt_feecc_23 rfl (lv_at hl 1 rfl) ?_
  refine va_mmin hx hb (by rw [hml]; exact hl.1.symm) hown (hAm.wd qw_234 rfl rfl) (hAm.wd qw_235 rfl rfl) (hAm.wd qw_10 rfl rfl) (hAm.wd qw_236 rfl rfl) (Nat.le_of_ble_eq_true rfl) (Nat.le_of_ble_eq_true rfl) (Nat.le_of_ble_eq_true rfl) (Nat.le_of_ble_eq_true rfl) dJ7_copyOfRangeInt_feecc_24 ?_
  refine rc_topi 0 (by decide) ?_
  refine va_copyi (sp := 6) (dp := 0) (n := 0) hx hb (by rw [hml]; exact hl.1.symm) hown (hAm.wd qw_237 rfl rfl) (hAm.wd qw_239 rfl rfl) (hAm.wd qw_238 rfl rfl) (hAm.wd qw_12 rfl rfl) hAm.K hw.1 hw.2.1 hw.2.2 0 1 0 0 rfl rfl rfl rfl rfl (by decide) (by decide) (by decide) (by decide) (by decide) (fun i hi => absurd hi (by exact Nat.not_lt_zero i)) (Nat.le_of_ble_eq_true rfl) (Nat.le_of_ble_eq_true rfl) dJ7_copyOfRangeInt_feecc_27 (fun H locs hP hD hS => ?_)
  have hw : rc_W E A s [(h0, .inl (E.2.1 0, 6, .inl (fun _ => 0))), (q1, .inl (E.2.1 0, 0, .inl (va_cpy (fun _ => 0) (fun _ => 0) 6 0 0)))] H locs := ⟨hP, hD, hS⟩
  refine lv_aload hx hb dJ7_copyOfRangeInt_feecc_30 (lv_at hl 0 rfl) ?_
  exact rc_aret (v := q1) hx hb hr (by first | exact Or.inl ⟨_, rfl⟩ | exact Or.inr ⟨_, rfl⟩) hlocks hw [(h0, .inl (E.2.1 0, 6, .inl (fun _ => 0))), (q1, .inl (E.2.1 0, 0, .inl (va_cpy (fun _ => 0) (fun _ => 0) 6 0 0)))] (⟨q1, rfl, rfl⟩) [0, 1] rfl (by decide) (Nat.le_of_ble_eq_true rfl) (Nat.le_of_ble_eq_true rfl) dJ7_copyOfRangeInt_feecc_32
theorem hd_J7_copyOfRangeInt_feecc : yJ7_copyOfRangeInt_feecc.cls ≠ "java/lang/invoke/MethodHandle" ∧ yJ7_copyOfRangeInt_feecc.cls ≠ "java/lang/invoke/VarHandle" ∧ (parseMethodDescriptor yJ7_copyOfRangeInt_feecc.desc).map (fun d => d.parameters.length) = some 3 := by decide +kernel
set_option maxHeartbeats 4000000 in
set_option maxRecDepth 100000 in
theorem cw_J7_copyOfRange_feecc (l : Launch) (E : rc_E) (sz : Nat) (h0 : Nat) : rc_Mr l yJ7_copyOfRange_feecc [Cond.code yJ7_copyOfRange_feecc cJ7_copyOfRange_feecc 3 (some (FieldType.array FieldType.int))] { frames := 2, cells := 1, slots := 0, locals := 64 } E [.ref h0, .int 6, .int 6] [(h0, .inl (E.2.1 0, 6, .inl (fun _ => 0)))] sz (S := va_W) (fun (u : va_W) (r : Nat) => (∃ q1 : Nat, q1 = r ∧ u = [(h0, .inl (E.2.1 0, 6, .inl (fun _ => 0))), (q1, .inl (E.2.1 0, 0, .inl (va_cpy (fun _ => 0) (fun _ => 0) 6 0 0)))])) (fun u => u) 1 0 := by
  refine rc_inr (cc := cJ7_copyOfRange_feecc) (maxL := 3) (ret := (some (FieldType.array FieldType.int))) (by decide) rfl (Nat.le_of_ble_eq_true rfl) ?_
  intro p e s m args below meth c ls A hx hb hr hml _ hown hlocks hin hA hAm hw hl
  have hown : s.vm.findClass RJ7 = some m.cls := hown
  have hl : lv_has ls 3 [(0, .ref h0), (1, .int 6), (2, .int 6)] := hl
  refine lv_iload_n hx hb dJ7_copyOfRange_feecc_0 rfl (lv_at hl 1 rfl) ?_
  refine lv_if_ne (tgt := 10) hx hb dJ7_copyOfRange_feecc_1 (by decide) (fun _ => ?_) (fun c9 => absurd c9 (by decide))
  refine lv_aload_n hx hb dJ7_copyOfRange_feecc_10 rfl (lv_at hl 0 rfl) ?_
  refine lv_iload_n hx hb dJ7_copyOfRange_feecc_11 rfl (lv_at hl 1 rfl) ?_
  refine lv_iload_n hx hb dJ7_copyOfRange_feecc_12 rfl (lv_at hl 2 rfl) ?_
  refine rc_callr (wr := []) (va_runS (As := [.ref h0, .int 6, .int 6]) (rest := []) (Ts := []) ⟨hx, hb, hml, hown, fun _ h9 => absurd h9 List.not_mem_nil⟩ (cw_J7_copyOfRangeInt_feecc l E _ h0) (rc_cwS hAm qw_995 qw_11 qw_997 qw_996 rfl rfl hd_J7_copyOfRangeInt_feecc ⟨Nat.le_of_ble_eq_true rfl, Nat.le_of_ble_eq_true rfl⟩) (rc_preS hAm hA hw [0] rfl rfl) rfl rfl hl.1 rfl (lv_room (Nat.le_of_ble_eq_true rfl)) dJ7_copyOfRange_feecc_13 ⟨Nat.le_of_ble_eq_true rfl, Nat.le_of_ble_eq_true rfl⟩) hA hw [0] [] rfl rfl rfl (by decide) (fun u_2 r_1 H locs hp hw => ?_)
  obtain ⟨q1, rfl, rfl⟩ := hp
  have hw : rc_W E A s [(h0, .inl (E.2.1 0, 6, .inl (fun _ => 0))), (q1, .inl (E.2.1 0, 0, .inl (va_cpy (fun _ => 0) (fun _ => 0) 6 0 0)))] H locs := hw
  exact rc_aret (v := q1) hx hb hr (by first | exact Or.inl ⟨_, rfl⟩ | exact Or.inr ⟨_, rfl⟩) hlocks hw [(h0, .inl (E.2.1 0, 6, .inl (fun _ => 0))), (q1, .inl (E.2.1 0, 0, .inl (va_cpy (fun _ => 0) (fun _ => 0) 6 0 0)))] (⟨q1, rfl, rfl⟩) [0, 1] rfl (by decide) (Nat.le_of_ble_eq_true rfl) (Nat.le_of_ble_eq_true rfl) dJ7_copyOfRange_feecc_16
theorem hd_J7_copyOfRange_feecc : yJ7_copyOfRange_feecc.cls ≠ "java/lang/invoke/MethodHandle" ∧ yJ7_copyOfRange_feecc.cls ≠ "java/lang/invoke/VarHandle" ∧ (parseMethodDescriptor yJ7_copyOfRange_feecc.desc).map (fun d => d.parameters.length) = some 3 := by decide +kernel
set_option maxHeartbeats 4000000 in
set_option maxRecDepth 100000 in
theorem cw_X7_sample (l : Launch) (E : rc_E) (sz : Nat) (h0 : Nat) (h1 : Nat) (h2 : Nat) (h3 : Nat) (h4 : Nat) (h5 : Nat) : rc_Mr l yX7_sample [Cond.code yX7_sample cX7_sample 6 (some (FieldType.array FieldType.int))] { frames := 3, cells := 2, slots := 6, locals := 86 } E [.ref h0, .int 0, .int (-1)] [(h0, .inr (12, [.int 0, .ref h1, .ref h2, .ref h3, .ref h4, .ref h5, .int 1, .int 3, .int 50, .int (-1), .int (-1), .int (-1), .int (-1), .int 0, .int 100, .int 1000, .long 0])), (h3, .inr (4, [.int 0, .ref (E.2.2 0), .int 0]))] sz (S := va_W) (fun (u : va_W) (r : Nat) => (∃ q2 : Nat, q2 = r ∧ u = [(h0, .inr (12, [.int 0, .ref h1, .ref h2, .ref h3, .ref h4, .ref h5, .int 1, .int 3, .int 50, .int (-1), .int (-1), .int (-1), .int (-1), .int 0, .int 100, .int 1000, .long 0])), (h3, .inr (4, [.int 0, .ref (E.2.2 0), .int 0])), (q2, .inl (E.2.1 0, 0, .inl (va_cpy (fun _ => 0) (fun _ => 0) 6 0 0)))])) (fun u => u) 2 6 := by
  refine rc_inr (cc := cX7_sample) (maxL := 6) (ret := (some (FieldType.array FieldType.int))) (by decide) rfl (Nat.le_of_ble_eq_true rfl) ?_
  intro p e s m args below meth c ls A hx hb hr hml _ hown hlocks hin hA hAm hw hl
  have hown : s.vm.findClass RX7 = some m.cls := hown
  have hl : lv_has ls 6 [(0, .ref h0), (1, .int 0), (2, .int (-1))] := hl
  refine lv_bipush (v := 6) hx hb dX7_sample_0 (by decide) ?_
  refine rc_inew hx hb hAm hA hw qw_108 6 (by decide) (by decide) (Nat.le_of_ble_eq_true rfl) (Nat.le_of_ble_eq_true rfl) (Nat.le_of_ble_eq_true rfl) dX7_sample_2 (fun q1 H hw => ?_)
  have hw : rc_W E A s [(h0, .inr (12, [.int 0, .ref h1, .ref h2, .ref h3, .ref h4, .ref h5, .int 1, .int 3, .int 50, .int (-1), .int (-1), .int (-1), .int (-1), .int 0, .int 100, .int 1000, .long 0])), (h3, .inr (4, [.int 0, .ref (E.2.2 0), .int 0])), (q1, .inl (E.2.1 0, 6, .inl (fun _ => 0)))] H _ := hw
  refine lv_astore_n (lv' := [(3, .ref q1), (0, .ref h0), (1, .int 0), (2, .int (-1))]) hx hb dX7_sample_4 rfl hl (by decide) rfl (fun ls hl => ?_)
  refine lv_iconst (v := 0) hx hb dX7_sample_5 (by decide) ?_
  refine lv_istore (lv' := [(4, .int 0), (3, .ref q1), (0, .ref h0), (1, .int 0), (2, .int (-1))]) hx hb dX7_sample_6 hl (by decide) rfl (fun ls hl => ?_)
  refine lv_aload_n hx hb dX7_sample_8 rfl (lv_at hl 2 rfl) ?_
  refine rc_get (v := .ref h3) hx hb hown hAm hw lyX7 0 rfl rfl 3 (by decide) qw_863 (fun _ h9 => h9) rfl dX7_sample_9 ?_
  refine rc_calli (wr := [(h0, .inr (12, [.int 0, .ref h1, .ref h2, .ref h3, .ref h4, .ref h5, .int 1, .int 3, .int 50, .int (-1), .int (-1), .int (-1), .int (-1), .int 0, .int 100, .int 1000, .long 0])), (q1, .inl (E.2.1 0, 6, .inl (fun _ => 0)))]) (va_runV (As := []) (rest := []) (Ts := []) ⟨hx, hb, hml, hown, fun _ h9 => absurd h9 List.not_mem_nil⟩ (cw_Jx4a65c_size_8abf5 l E _ h3) (rc_cwV hAm qw_928 qw_4 qw_289 qw_287 qw_288 rfl rfl hd_Jx4a65c_size_8abf5 ⟨Nat.le_of_ble_eq_true rfl, Nat.le_of_ble_eq_true rfl⟩) (rc_preV hAm hA hw [1] rfl rfl 1 rfl (q := vwCl[4]) rfl) rfl rfl hl.1 rfl (lv_room (Nat.le_of_ble_eq_true rfl)) dX7_sample_12 ⟨Nat.le_of_ble_eq_true rfl, Nat.le_of_ble_eq_true rfl⟩) hA hw [1] [0, 2] rfl rfl rfl (by decide) (fun r_1 u_2 H locs hp hw => ?_)
  obtain ⟨rfl, rfl⟩ := hp
  have hw : rc_W E A s [(h0, .inr (12, [.int 0, .ref h1, .ref h2, .ref h3, .ref h4, .ref h5, .int 1, .int 3, .int 50, .int (-1), .int (-1), .int (-1), .int (-1), .int 0, .int 100, .int 1000, .long 0])), (q1, .inl (E.2.1 0, 6, .inl (fun _ => 0))), (h3, .inr (4, [.int 0, .ref (E.2.2 0), .int 0]))] H locs := hw
  refine lv_iconst (v := 1) hx hb dX7_sample_15 (by decide) ?_
  refine lv_isub hx hb dX7_sample_16 ?_
  refine rc_topi (-1) (by decide) ?_
  refine lv_istore (lv' := [(5, .int (-1)), (4, .int 0), (3, .ref q1), (0, .ref h0), (1, .int 0), (2, .int (-1))]) hx hb dX7_sample_17 hl (by decide) rfl (fun ls hl => ?_)
  refine lv_iload hx hb dX7_sample_19 (lv_at hl 0 rfl) ?_
  refine lv_if_lt (tgt := 102) hx hb dX7_sample_21 (by decide) (fun _ => ?_) (fun c9 => absurd (by decide) c9)
  refine lv_aload_n hx hb dX7_sample_102 rfl (lv_at hl 2 rfl) ?_
  refine lv_bipush (v := 6) hx hb dX7_sample_103 (by decide) ?_
  refine lv_iload hx hb dX7_sample_105 (lv_at hl 1 rfl) ?_
  refine lv_isub hx hb dX7_sample_107 ?_
  refine rc_topi 6 (by decide) ?_
  refine lv_bipush (v := 6) hx hb dX7_sample_108 (by decide) ?_
  refine rc_callr (wr := [(h0, .inr (12, [.int 0, .ref h1, .ref h2, .ref h3, .ref h4, .ref h5, .int 1, .int 3, .int 50, .int (-1), .int (-1), .int (-1), .int (-1), .int 0, .int 100, .int 1000, .long 0])), (h3, .inr (4, [.int 0, .ref (E.2.2 0), .int 0]))]) (va_runS (As := [.ref q1, .int 6, .int 6]) (rest := []) (Ts := []) ⟨hx, hb, hml, hown, fun _ h9 => absurd h9 List.not_mem_nil⟩ (cw_J7_copyOfRange_feecc l E _ q1) (rc_cwS hAm qw_992 qw_11 qw_994 qw_993 rfl rfl hd_J7_copyOfRange_feecc ⟨Nat.le_of_ble_eq_true rfl, Nat.le_of_ble_eq_true rfl⟩) (rc_preS hAm hA hw [1] rfl rfl) rfl rfl hl.1 rfl (lv_room (Nat.le_of_ble_eq_true rfl)) dX7_sample_110 ⟨Nat.le_of_ble_eq_true rfl, Nat.le_of_ble_eq_true rfl⟩) hA hw [1] [0, 2] rfl rfl rfl (by decide) (fun u_4 r_3 H locs hp hw => ?_)
  obtain ⟨q2, rfl, rfl⟩ := hp
  have hw : rc_W E A s [(h0, .inr (12, [.int 0, .ref h1, .ref h2, .ref h3, .ref h4, .ref h5, .int 1, .int 3, .int 50, .int (-1), .int (-1), .int (-1), .int (-1), .int 0, .int 100, .int 1000, .long 0])), (h3, .inr (4, [.int 0, .ref (E.2.2 0), .int 0])), (q1, .inl (E.2.1 0, 6, .inl (fun _ => 0))), (q2, .inl (E.2.1 0, 0, .inl (va_cpy (fun _ => 0) (fun _ => 0) 6 0 0)))] H locs := hw
  exact rc_aret (v := q2) hx hb hr (by first | exact Or.inl ⟨_, rfl⟩ | exact Or.inr ⟨_, rfl⟩) hlocks hw [(h0, .inr (12, [.int 0, .ref h1, .ref h2, .ref h3, .ref h4, .ref h5, .int 1, .int 3, .int 50, .int (-1), .int (-1), .int (-1), .int (-1), .int 0, .int 100, .int 1000, .long 0])), (h3, .inr (4, [.int 0, .ref (E.2.2 0), .int 0])), (q2, .inl (E.2.1 0, 0, .inl (va_cpy (fun _ => 0) (fun _ => 0) 6 0 0)))] (⟨q2, rfl, rfl⟩) [0, 1, 3] rfl (by decide) (Nat.le_of_ble_eq_true rfl) (Nat.le_of_ble_eq_true rfl) dX7_sample_113
theorem hd_X7_sample : yX7_sample.cls ≠ "java/lang/invoke/MethodHandle" ∧ yX7_sample.cls ≠ "java/lang/invoke/VarHandle" ∧ (parseMethodDescriptor yX7_sample.desc).map (fun d => d.parameters.length) = some 2 := by decide +kernel
set_option maxHeartbeats 4000000 in
set_option maxRecDepth 100000 in
theorem cw_X7_sample_ (l : Launch) (E : rc_E) (sz : Nat) (h0 : Nat) (h1 : Nat) (h2 : Nat) (h3 : Nat) (h4 : Nat) (h5 : Nat) : rc_Mr l yX7_sample_ [Cond.code yX7_sample_ cX7_sample_ 2 (some (FieldType.array FieldType.int))] { frames := 4, cells := 2, slots := 6, locals := 111 } E [.ref h0, .int 0] [(h0, .inr (12, [.int 0, .ref h1, .ref h2, .ref h3, .ref h4, .ref h5, .int 1, .int 3, .int 50, .int (-1), .int (-1), .int (-1), .int (-1), .int 0, .int 100, .int 1000, .long 0])), (h3, .inr (4, [.int 0, .ref (E.2.2 0), .int 0]))] sz (S := va_W) (fun (u : va_W) (r : Nat) => (∃ q1 : Nat, q1 = r ∧ u = [(h0, .inr (12, [.int 0, .ref h1, .ref h2, .ref h3, .ref h4, .ref h5, .int 1, .int 3, .int 50, .int (-1), .int (-1), .int (-1), .int (-1), .int 0, .int 100, .int 1000, .long 0])), (h3, .inr (4, [.int 0, .ref (E.2.2 0), .int 0])), (q1, .inl (E.2.1 0, 0, .inl (va_cpy (fun _ => 0) (fun _ => 0) 6 0 0)))])) (fun u => u) 2 6 := by
  refine rc_inr (cc := cX7_sample_) (maxL := 2) (ret := (some (FieldType.array FieldType.int))) (by decide) rfl (Nat.le_of_ble_eq_true rfl) ?_
  intro p e s m args below meth c ls A hx hb hr hml _ hown hlocks hin hA hAm hw hl
  have hown : s.vm.findClass RX7 = some m.cls := hown
  have hl : lv_has ls 2 [(0, .ref h0), (1, .int 0)] := hl
  refine lv_aload_n hx hb dX7_sample__0 rfl (lv_at hl 0 rfl) ?_
  refine lv_iload_n hx hb dX7_sample__1 rfl (lv_at hl 1 rfl) ?_
  refine lv_iconst (v := (-1)) hx hb dX7_sample__2 (by decide) ?_
  refine rc_callr (wr := []) (va_runV (As := [.int 0, .int (-1)]) (rest := []) (Ts := []) ⟨hx, hb, hml, hown, fun _ h9 => absurd h9 List.not_mem_nil⟩ (cw_X7_sample l E _ h0 h1 h2 h3 h4 h5) (rc_cwV hAm qw_971 qw_13 qw_974 qw_973 qs_55 rfl rfl hd_X7_sample ⟨Nat.le_of_ble_eq_true rfl, Nat.le_of_ble_eq_true rfl⟩) (rc_preV hAm hA hw [0, 1] rfl rfl 0 rfl (q := vwCl[12]) rfl) rfl rfl hl.1 rfl (lv_room (Nat.le_of_ble_eq_true rfl)) dX7_sample__3 ⟨Nat.le_of_ble_eq_true rfl, Nat.le_of_ble_eq_true rfl⟩) hA hw [0, 1] [] rfl rfl rfl (by decide) (fun u_2 r_1 H locs hp hw => ?_)
  obtain ⟨q1, rfl, rfl⟩ := hp
  have hw : rc_W E A s [(h0, .inr (12, [.int 0, .ref h1, .ref h2, .ref h3, .ref h4, .ref h5, .int 1, .int 3, .int 50, .int (-1), .int (-1), .int (-1), .int (-1), .int 0, .int 100, .int 1000, .long 0])), (h3, .inr (4, [.int 0, .ref (E.2.2 0), .int 0])), (q1, .inl (E.2.1 0, 0, .inl (va_cpy (fun _ => 0) (fun _ => 0) 6 0 0)))] H locs := hw
  exact rc_aret (v := q1) hx hb hr (by first | exact Or.inl ⟨_, rfl⟩ | exact Or.inr ⟨_, rfl⟩) hlocks hw [(h0, .inr (12, [.int 0, .ref h1, .ref h2, .ref h3, .ref h4, .ref h5, .int 1, .int 3, .int 50, .int (-1), .int (-1), .int (-1), .int (-1), .int 0, .int 100, .int 1000, .long 0])), (h3, .inr (4, [.int 0, .ref (E.2.2 0), .int 0])), (q1, .inl (E.2.1 0, 0, .inl (va_cpy (fun _ => 0) (fun _ => 0) 6 0 0)))] (⟨q1, rfl, rfl⟩) [0, 1, 2] rfl (by decide) (Nat.le_of_ble_eq_true rfl) (Nat.le_of_ble_eq_true rfl) dX7_sample__6
theorem hd_X7_sample_ : yX7_sample_.cls ≠ "java/lang/invoke/MethodHandle" ∧ yX7_sample_.cls ≠ "java/lang/invoke/VarHandle" ∧ (parseMethodDescriptor yX7_sample_.desc).map (fun d => d.parameters.length) = some 1 := by decide +kernel
set_option maxHeartbeats 4000000 in
set_option maxRecDepth 100000 in
theorem cw_X8_insertionSort (l : Launch) (E : rc_E) (sz : Nat) (h0 : Nat) : rc_Mv l yX8_insertionSort [Cond.code yX8_insertionSort cX8_insertionSort 6 (none : Option FieldType)] { frames := 0, cells := 0, slots := 0, locals := 0 } E [.ref h0, .int 0, .int 0] [] sz (S := va_W) (fun (u : va_W) => (u = [])) (fun u => u) 0 0 := by
  refine rc_inv (cc := cX8_insertionSort) (maxL := 6) (ret := (none : Option FieldType)) (by decide) rfl (Nat.le_of_ble_eq_true rfl) ?_
  intro p e s m args below meth c ls A hx hb hr hml _ hown hlocks hin hA hAm hw hl
  have hown : s.vm.findClass RX8 = some m.cls := hown
  have hl : lv_has ls 6 [(0, .ref h0), (1, .int 0), (2, .int 0)] := hl
  refine lv_iload_n hx hb dX8_insertionSort_0 rfl (lv_at hl 1 rfl) ?_
  refine lv_istore (lv' := [(4, .int 0), (0, .ref h0), (1, .int 0), (2, .int 0)]) hx hb dX8_insertionSort_1 hl (by decide) rfl (fun ls hl => ?_)
  refine lv_iinc (v := 1) (lv' := [(4, .int 1), (0, .ref h0), (1, .int 0), (2, .int 0)]) hx hb dX8_insertionSort_3 hl (k := 0) rfl (by decide) (by decide) rfl (fun ls hl => ?_)
  refine lv_iload hx hb dX8_insertionSort_6 (lv_at hl 0 rfl) ?_
  refine lv_iload_n hx hb dX8_insertionSort_8 rfl (lv_at hl 3 rfl) ?_
  refine lv_icmp_ge (tgt := 67) hx hb dX8_insertionSort_9 (by decide) (fun _ => ?_) (fun c9 => absurd (by decide) c9)
  exact rc_vret hx hb hr hlocks hw [] (rfl) [] rfl (by decide) (Nat.le_of_ble_eq_true rfl) (Nat.le_of_ble_eq_true rfl) dX8_insertionSort_67
theorem hd_X8_insertionSort : yX8_insertionSort.cls ≠ "java/lang/invoke/MethodHandle" ∧ yX8_insertionSort.cls ≠ "java/lang/invoke/VarHandle" ∧ (parseMethodDescriptor yX8_insertionSort.desc).map (fun d => d.parameters.length) = some 3 := by decide +kernel
set_option maxHeartbeats 4000000 in
set_option maxRecDepth 100000 in
theorem cw_X8_sort_ (l : Launch) (E : rc_E) (sz : Nat) (h0 : Nat) : rc_Mv l yX8_sort_ [Cond.code yX8_sort_ cX8_sort_ 21 (none : Option FieldType)] { frames := 1, cells := 0, slots := 0, locals := 25 } E [.null, .ref h0, .int 0, .int 0, .int 0] [] sz (S := va_W) (fun (u : va_W) => (u = [])) (fun u => u) 0 0 := by
  refine rc_inv (cc := cX8_sort_) (maxL := 21) (ret := (none : Option FieldType)) (by decide) rfl (Nat.le_of_ble_eq_true rfl) ?_
  intro p e s m args below meth c ls A hx hb hr hml _ hown hlocks hin hA hAm hw hl
  have hown : s.vm.findClass RX8 = some m.cls := hown
  have hl : lv_has ls 21 [(0, .null), (1, .ref h0), (2, .int 0), (3, .int 0), (4, .int 0)] := hl
  refine lv_iload hx hb dX8_sort__0 (lv_at hl 4 rfl) ?_
  refine lv_iconst (v := 1) hx hb dX8_sort__2 (by decide) ?_
  refine lv_isub hx hb dX8_sort__3 ?_
  refine rc_topi (-1) (by decide) ?_
  refine lv_istore (lv' := [(5, .int (-1)), (0, .null), (1, .ref h0), (2, .int 0), (3, .int 0), (4, .int 0)]) hx hb dX8_sort__4 hl (by decide) rfl (fun ls hl => ?_)
  refine lv_iload hx hb dX8_sort__6 (lv_at hl 5 rfl) ?_
  refine lv_iload_n hx hb dX8_sort__8 rfl (lv_at hl 4 rfl) ?_
  refine lv_isub hx hb dX8_sort__9 ?_
  refine rc_topi 0 (by decide) ?_
  refine lv_istore (lv' := [(6, .int 0), (5, .int (-1)), (0, .null), (1, .ref h0), (2, .int 0), (3, .int 0), (4, .int 0)]) hx hb dX8_sort__10 hl (by decide) rfl (fun ls hl => ?_)
  refine lv_iload hx hb dX8_sort__12 (lv_at hl 0 rfl) ?_
  refine lv_bipush (v := 65) hx hb dX8_sort__14 (by decide) ?_
  refine lv_iload_n hx hb dX8_sort__16 rfl (lv_at hl 4 rfl) ?_
  refine lv_iadd hx hb dX8_sort__17 ?_
  refine rc_topi 65 (by decide) ?_
  refine lv_icmp_ge (tgt := 46) hx hb dX8_sort__18 (by decide) (fun c9 => absurd c9 (by decide)) (fun _ => ?_)
  refine lv_iload_n hx hb dX8_sort__21 rfl (lv_at hl 4 rfl) ?_
  refine lv_iconst (v := 1) hx hb dX8_sort__22 (by decide) ?_
  refine lv_iand hx hb dX8_sort__23 ?_
  refine rc_topi 0 (by decide) ?_
  refine lv_if_le (tgt := 46) hx hb dX8_sort__24 (by decide) (fun _ => ?_) (fun c9 => absurd (by decide) c9)
  refine lv_iload hx hb dX8_sort__46 (lv_at hl 0 rfl) ?_
  refine lv_bipush (v := 44) hx hb dX8_sort__48 (by decide) ?_
  refine lv_icmp_ge (tgt := 61) hx hb dX8_sort__50 (by decide) (fun c9 => absurd c9 (by decide)) (fun _ => ?_)
  refine lv_aload_n hx hb dX8_sort__53 rfl (lv_at hl 3 rfl) ?_
  refine lv_iload_n hx hb dX8_sort__54 rfl (lv_at hl 5 rfl) ?_
  refine lv_iload hx hb dX8_sort__55 (lv_at hl 6 rfl) ?_
  refine rc_callv (wr := []) (va_runS (As := [.ref h0, .int 0, .int 0]) (rest := []) (Ts := []) ⟨hx, hb, hml, hown, fun _ h9 => absurd h9 List.not_mem_nil⟩ (cw_X8_insertionSort l E _ h0) (rc_cwS hAm qw_1253 qw_31 qw_1255 qw_1254 rfl rfl hd_X8_insertionSort ⟨Nat.le_of_ble_eq_true rfl, Nat.le_of_ble_eq_true rfl⟩) (rc_preS hAm hA hw [] rfl rfl) rfl rfl hl.1 rfl (lv_room (Nat.le_of_ble_eq_true rfl)) dX8_sort__57 ⟨Nat.le_of_ble_eq_true rfl, Nat.le_of_ble_eq_true rfl⟩) hA hw [] [] rfl rfl rfl (by decide) (fun u_2 H locs hp hw => ?_)
  obtain ⟨rfl⟩ := hp
  have hw : rc_W E A s [] H locs := hw
  exact rc_vret hx hb hr hlocks hw [] (rfl) [] rfl (by decide) (Nat.le_of_ble_eq_true rfl) (Nat.le_of_ble_eq_true rfl) dX8_sort__60
theorem hd_X8_sort_ : yX8_sort_.cls ≠ "java/lang/invoke/MethodHandle" ∧ yX8_sort_.cls ≠ "java/lang/invoke/VarHandle" ∧ (parseMethodDescriptor yX8_sort_.desc).map (fun d => d.parameters.length) = some 5 := by decide +kernel
set_option maxHeartbeats 4000000 in
set_option maxRecDepth 100000 in
theorem cw_X8_sort (l : Launch) (E : rc_E) (sz : Nat) (h0 : Nat) : rc_Mv l yX8_sort [Cond.code yX8_sort cX8_sort 7 (none : Option FieldType)] { frames := 2, cells := 0, slots := 0, locals := 65 } E [.ref h0, .int 0, .int 0, .int 0] [] sz (S := va_W) (fun (u : va_W) => (u = [])) (fun u => u) 0 0 := by
  refine rc_inv (cc := cX8_sort) (maxL := 7) (ret := (none : Option FieldType)) (by decide) rfl (Nat.le_of_ble_eq_true rfl) ?_
  intro p e s m args below meth c ls A hx hb hr hml _ hown hlocks hin hA hAm hw hl
  have hown : s.vm.findClass RX8 = some m.cls := hown
  have hl : lv_has ls 7 [(0, .ref h0), (1, .int 0), (2, .int 0), (3, .int 0)] := hl
  refine lv_iload_n hx hb dX8_sort_0 rfl (lv_at hl 3 rfl) ?_
  refine lv_iload_n hx hb dX8_sort_1 rfl (lv_at hl 2 rfl) ?_
  refine lv_isub hx hb dX8_sort_2 ?_
  refine rc_topi 0 (by decide) ?_
  refine lv_istore (lv' := [(4, .int 0), (0, .ref h0), (1, .int 0), (2, .int 0), (3, .int 0)]) hx hb dX8_sort_3 hl (by decide) rfl (fun ls hl => ?_)
  refine lv_iload_n hx hb dX8_sort_5 rfl (lv_at hl 2 rfl) ?_
  refine lv_iconst (v := 1) hx hb dX8_sort_6 (by decide) ?_
  refine lv_icmp_le (tgt := 68) hx hb dX8_sort_7 (by decide) (fun _ => ?_) (fun c9 => absurd (by decide) c9)
  refine lv_null hx hb dX8_sort_68 ?_
  refine lv_aload_n hx hb dX8_sort_69 rfl (lv_at hl 1 rfl) ?_
  refine lv_iconst (v := 0) hx hb dX8_sort_70 (by decide) ?_
  refine lv_iload_n hx hb dX8_sort_71 rfl (lv_at hl 3 rfl) ?_
  refine lv_iload_n hx hb dX8_sort_72 rfl (lv_at hl 4 rfl) ?_
  refine rc_callv (wr := []) (va_runS (As := [.null, .ref h0, .int 0, .int 0, .int 0]) (rest := []) (Ts := []) ⟨hx, hb, hml, hown, fun _ h9 => absurd h9 List.not_mem_nil⟩ (cw_X8_sort_ l E _ h0) (rc_cwS hAm qw_1247 qw_31 qw_1249 qw_1248 rfl rfl hd_X8_sort_ ⟨Nat.le_of_ble_eq_true rfl, Nat.le_of_ble_eq_true rfl⟩) (rc_preS hAm hA hw [] rfl rfl) rfl rfl hl.1 rfl (lv_room (Nat.le_of_ble_eq_true rfl)) dX8_sort_73 ⟨Nat.le_of_ble_eq_true rfl, Nat.le_of_ble_eq_true rfl⟩) hA hw [] [] rfl rfl rfl (by decide) (fun u_2 H locs hp hw => ?_)
  obtain ⟨rfl⟩ := hp
  have hw : rc_W E A s [] H locs := hw
  exact rc_vret hx hb hr hlocks hw [] (rfl) [] rfl (by decide) (Nat.le_of_ble_eq_true rfl) (Nat.le_of_ble_eq_true rfl) dX8_sort_76
theorem hd_X8_sort : yX8_sort.cls ≠ "java/lang/invoke/MethodHandle" ∧ yX8_sort.cls ≠ "java/lang/invoke/VarHandle" ∧ (parseMethodDescriptor yX8_sort.desc).map (fun d => d.parameters.length) = some 4 := by decide +kernel
set_option maxHeartbeats 4000000 in
set_option maxRecDepth 100000 in
theorem cw_J7_sort_2022b (l : Launch) (E : rc_E) (sz : Nat) (h0 : Nat) (f0 : Nat → Int32) : rc_Mv l yJ7_sort_2022b [Cond.code yJ7_sort_2022b cJ7_sort_2022b 1 (none : Option FieldType)] { frames := 3, cells := 0, slots := 0, locals := 91 } E [.ref h0] [(h0, .inl (E.2.1 0, 0, .inl f0))] sz (S := va_W) (fun (u : va_W) => (u = [(h0, .inl (E.2.1 0, 0, .inl f0))])) (fun u => u) 0 0 := by
  refine rc_inv (cc := cJ7_sort_2022b) (maxL := 1) (ret := (none : Option FieldType)) (by decide) rfl (Nat.le_of_ble_eq_true rfl) ?_
  intro p e s m args below meth c ls A hx hb hr hml _ hown hlocks hin hA hAm hw hl
  have hown : s.vm.findClass RJ7 = some m.cls := hown
  have hl : lv_has ls 1 [(0, .ref h0)] := hl
  refine lv_aload_n hx hb dJ7_sort_2022b_0 rfl (lv_at hl 0 rfl) ?_
  refine lv_iconst (v := 0) hx hb dJ7_sort_2022b_1 (by decide) ?_
  refine lv_iconst (v := 0) hx hb dJ7_sort_2022b_2 (by decide) ?_
  refine lv_aload_n hx hb dJ7_sort_2022b_3 rfl (lv_at hl 0 rfl) ?_
  refine rc_alen hx hb hAm hw 0 0 rfl rfl 0 rfl dJ7_sort_2022b_4 ?_
  refine rc_callv (wr := [(h0, .inl (E.2.1 0, 0, .inl f0))]) (va_runS (As := [.ref h0, .int 0, .int 0, .int 0]) (rest := []) (Ts := []) ⟨hx, hb, hml, hown, fun _ h9 => absurd h9 List.not_mem_nil⟩ (cw_X8_sort l E _ h0) (rc_cwS hAm qw_1244 qw_31 qw_1246 qw_1245 rfl rfl hd_X8_sort ⟨Nat.le_of_ble_eq_true rfl, Nat.le_of_ble_eq_true rfl⟩) (rc_preS hAm hA hw [] rfl rfl) rfl rfl hl.1 rfl (lv_room (Nat.le_of_ble_eq_true rfl)) dJ7_sort_2022b_5 ⟨Nat.le_of_ble_eq_true rfl, Nat.le_of_ble_eq_true rfl⟩) hA hw [] [0] rfl rfl rfl (by decide) (fun u_2 H locs hp hw => ?_)
  obtain ⟨rfl⟩ := hp
  have hw : rc_W E A s [(h0, .inl (E.2.1 0, 0, .inl f0))] H locs := hw
  exact rc_vret hx hb hr hlocks hw [(h0, .inl (E.2.1 0, 0, .inl f0))] (rfl) [0] rfl (by decide) (Nat.le_of_ble_eq_true rfl) (Nat.le_of_ble_eq_true rfl) dJ7_sort_2022b_8
theorem hd_J7_sort_2022b : yJ7_sort_2022b.cls ≠ "java/lang/invoke/MethodHandle" ∧ yJ7_sort_2022b.cls ≠ "java/lang/invoke/VarHandle" ∧ (parseMethodDescriptor yJ7_sort_2022b.desc).map (fun d => d.parameters.length) = some 1 := by decide +kernel
set_option maxHeartbeats 4000000 in
set_option maxRecDepth 100000 in
theorem cw_X7_ofChangeNow (l : Launch) (E : rc_E) (sz : Nat) (h0 : Nat) (x0 : Int32) (h1 : Nat) (h2 : Nat) (h3 : Nat) (h4 : Nat) (h5 : Nat) : rc_Mi l yX7_ofChangeNow [Cond.code yX7_ofChangeNow cX7_ofChangeNow 6 (some FieldType.int)] { frames := 5, cells := 3, slots := 10, locals := 132 } E [.ref h0, .int 0, .int x0] [(h0, .inr (12, [.int 0, .ref h1, .ref h2, .ref h3, .ref h4, .ref h5, .int 1, .int 3, .int 50, .int (-1), .int (-1), .int (-1), .int (-1), .int 0, .int 100, .int 1000, .long 0])), (h3, .inr (4, [.int 0, .ref (E.2.2 0), .int 0])), (h4, .inl (E.2.1 3, 40, .inl (fun _ => 0))), (h5, .inl (E.2.1 3, 40, .inl (fun _ => 0)))] sz (S := va_W) (fun (r : Int32) (u : va_W) => (x0 = 0 ∧ 0 = r ∧ u = [(h0, .inr (12, [.int 0, .ref h1, .ref h2, .ref h3, .ref h4, .ref h5, .int 1, .int 3, .int 50, .int (-1), .int (-1), .int (-1), .int (-1), .int 0, .int 100, .int 1000, .long 0])), (h3, .inr (4, [.int 0, .ref (E.2.2 0), .int 0])), (h4, .inl (E.2.1 3, 40, .inl (fun _ => 0))), (h5, .inl (E.2.1 3, 40, .inl (fun _ => 0)))]) ∨ (¬ x0 = 0 ∧ x0 = 1 ∧ 0 = r ∧ u = [(h0, .inr (12, [.int 0, .ref h1, .ref h2, .ref h3, .ref h4, .ref h5, .int 1, .int 3, .int 50, .int (-1), .int (-1), .int (-1), .int (-1), .int 0, .int 100, .int 1000, .long 0])), (h3, .inr (4, [.int 0, .ref (E.2.2 0), .int 0])), (h4, .inl (E.2.1 3, 40, .inl (fun _ => 0))), (h5, .inl (E.2.1 3, 40, .inl (fun _ => 0)))]) ∨ (¬ x0 = 0 ∧ ¬ x0 = 1 ∧ x0 = 2 ∧ (-1) = r ∧ u = [(h0, .inr (12, [.int 0, .ref h1, .ref h2, .ref h3, .ref h4, .ref h5, .int 1, .int 3, .int 50, .int (-1), .int (-1), .int (-1), .int (-1), .int 0, .int 100, .int 1000, .long 0])), (h3, .inr (4, [.int 0, .ref (E.2.2 0), .int 0])), (h4, .inl (E.2.1 3, 40, .inl (fun _ => 0))), (h5, .inl (E.2.1 3, 40, .inl (fun _ => 0)))]) ∨ (¬ x0 = 0 ∧ ¬ x0 = 1 ∧ ¬ x0 = 2 ∧ x0 = 3 ∧ (-1) = r ∧ u = [(h0, .inr (12, [.int 0, .ref h1, .ref h2, .ref h3, .ref h4, .ref h5, .int 1, .int 3, .int 50, .int (-1), .int (-1), .int (-1), .int (-1), .int 0, .int 100, .int 1000, .long 0])), (h3, .inr (4, [.int 0, .ref (E.2.2 0), .int 0])), (h4, .inl (E.2.1 3, 40, .inl (fun _ => 0))), (h5, .inl (E.2.1 3, 40, .inl (fun _ => 0)))]) ∨ (¬ x0 = 0 ∧ ¬ x0 = 1 ∧ ¬ x0 = 2 ∧ ¬ x0 = 3 ∧ x0 = 4 ∧ (-1) = r ∧ u = [(h0, .inr (12, [.int 0, .ref h1, .ref h2, .ref h3, .ref h4, .ref h5, .int 1, .int 3, .int 50, .int (-1), .int (-1), .int (-1), .int (-1), .int 0, .int 100, .int 1000, .long 0])), (h3, .inr (4, [.int 0, .ref (E.2.2 0), .int 0])), (h4, .inl (E.2.1 3, 40, .inl (fun _ => 0))), (h5, .inl (E.2.1 3, 40, .inl (fun _ => 0)))]) ∨ (¬ x0 = 0 ∧ ¬ x0 = 1 ∧ ¬ x0 = 2 ∧ ¬ x0 = 3 ∧ ¬ x0 = 4 ∧ 0 = r ∧ u = [(h0, .inr (12, [.int 0, .ref h1, .ref h2, .ref h3, .ref h4, .ref h5, .int 1, .int 3, .int 50, .int (-1), .int (-1), .int (-1), .int (-1), .int 0, .int 100, .int 1000, .long 0])), (h3, .inr (4, [.int 0, .ref (E.2.2 0), .int 0])), (h4, .inl (E.2.1 3, 40, .inl (fun _ => 0))), (h5, .inl (E.2.1 3, 40, .inl (fun _ => 0)))])) (fun u => u) 3 10 := by
  refine rc_ini (cc := cX7_ofChangeNow) (maxL := 6) (ret := (some FieldType.int)) (by decide) rfl (Nat.le_of_ble_eq_true rfl) ?_
  intro p e s m args below meth c ls A hx hb hr hml _ hown hlocks hin hA hAm hw hl
  have hown : s.vm.findClass RX7 = some m.cls := hown
  have hl : lv_has ls 6 [(0, .ref h0), (1, .int 0), (2, .int x0)] := hl
  refine lv_iconst (v := 0) hx hb dX7_ofChangeNow_0 (by decide) ?_
  refine lv_istore_n (lv' := [(3, .int 0), (0, .ref h0), (1, .int 0), (2, .int x0)]) hx hb dX7_ofChangeNow_1 rfl hl (by decide) rfl (fun ls hl => ?_)
  refine lv_aload_n hx hb dX7_ofChangeNow_2 rfl (lv_at hl 1 rfl) ?_
  refine rc_get (v := .ref h3) hx hb hown hAm hw lyX7 0 rfl rfl 3 (by decide) qw_863 (fun _ h9 => h9) rfl dX7_ofChangeNow_3 ?_
  refine rc_callr (wr := [(h0, .inr (12, [.int 0, .ref h1, .ref h2, .ref h3, .ref h4, .ref h5, .int 1, .int 3, .int 50, .int (-1), .int (-1), .int (-1), .int (-1), .int 0, .int 100, .int 1000, .long 0])), (h4, .inl (E.2.1 3, 40, .inl (fun _ => 0))), (h5, .inl (E.2.1 3, 40, .inl (fun _ => 0)))]) (va_runV (As := []) (rest := []) (Ts := []) ⟨hx, hb, hml, hown, fun _ h9 => absurd h9 List.not_mem_nil⟩ (cw_Jx4a65c_iterator_32c93 l E _ h3) (rc_cwV hAm qw_1295 qw_4 qw_1298 qw_1296 qw_1297 rfl rfl hd_Jx4a65c_iterator_32c93 ⟨Nat.le_of_ble_eq_true rfl, Nat.le_of_ble_eq_true rfl⟩) (rc_preV hAm hA hw [1] rfl rfl 1 rfl (q := vwCl[4]) rfl) rfl rfl hl.1 rfl (lv_room (Nat.le_of_ble_eq_true rfl)) dX7_ofChangeNow_6 ⟨Nat.le_of_ble_eq_true rfl, Nat.le_of_ble_eq_true rfl⟩) hA hw [1] [0, 2, 3] rfl rfl rfl (by decide) (fun u_2 r_1 H locs hp hw => ?_)
  obtain ⟨q1, rfl, rfl⟩ := hp
  have hw : rc_W E A s [(h0, .inr (12, [.int 0, .ref h1, .ref h2, .ref h3, .ref h4, .ref h5, .int 1, .int 3, .int 50, .int (-1), .int (-1), .int (-1), .int (-1), .int 0, .int 100, .int 1000, .long 0])), (h4, .inl (E.2.1 3, 40, .inl (fun _ => 0))), (h5, .inl (E.2.1 3, 40, .inl (fun _ => 0))), (h3, .inr (4, [.int 0, .ref (E.2.2 0), .int 0])), (q1, .inr (3, [.int 0, .int (-1), .int 0, .ref h3]))] H locs := hw
  refine lv_astore (lv' := [(4, .ref q1), (3, .int 0), (0, .ref h0), (1, .int 0), (2, .int x0)]) hx hb dX7_ofChangeNow_9 hl (by decide) rfl (fun ls hl => ?_)
  refine lv_aload hx hb dX7_ofChangeNow_11 (lv_at hl 0 rfl) ?_
  refine rc_callFi (wr := [(h0, .inr (12, [.int 0, .ref h1, .ref h2, .ref h3, .ref h4, .ref h5, .int 1, .int 3, .int 50, .int (-1), .int (-1), .int (-1), .int (-1), .int 0, .int 100, .int 1000, .long 0])), (h4, .inl (E.2.1 3, 40, .inl (fun _ => 0))), (h5, .inl (E.2.1 3, 40, .inl (fun _ => 0)))]) (va_runF (As := []) (rest := []) (Ts := []) ((hAm.K.1 3 _ rfl).2) ⟨hx, hb, hml, hown, fun _ h9 => absurd h9 List.not_mem_nil⟩ (cw_Jx35411_hasNext_aae02 l E _ q1 h3) (rc_cwF (C := "java/util/ArrayList$Itr") (n := 0) hAm qw_1319 qw_32 qw_1327 qw_1325 qw_1323 qw_1321 qw_1320 (by decide +kernel) qw_1326 qw_1324 qw_1322 rfl rfl (by decide +kernel) ⟨Nat.le_of_ble_eq_true rfl, Nat.le_of_ble_eq_true rfl⟩) (rc_preV hAm hA hw [4, 3] rfl rfl 4 rfl (q := vwCl[3]) rfl) rfl rfl hl.1 rfl (lv_room (Nat.le_of_ble_eq_true rfl)) dX7_ofChangeNow_13 ⟨Nat.le_of_ble_eq_true rfl, Nat.le_of_ble_eq_true rfl⟩) hA hw [4, 3] [0, 1, 2] rfl rfl rfl (by decide) (fun r_3 u_4 H locs hp hw => ?_)
  obtain ⟨rfl, rfl⟩ := hp
  have hw : rc_W E A s [(h0, .inr (12, [.int 0, .ref h1, .ref h2, .ref h3, .ref h4, .ref h5, .int 1, .int 3, .int 50, .int (-1), .int (-1), .int (-1), .int (-1), .int 0, .int 100, .int 1000, .long 0])), (h4, .inl (E.2.1 3, 40, .inl (fun _ => 0))), (h5, .inl (E.2.1 3, 40, .inl (fun _ => 0))), (q1, .inr (3, [.int 0, .int (-1), .int 0, .ref h3])), (h3, .inr (4, [.int 0, .ref (E.2.2 0), .int 0]))] H locs := hw
  refine lv_if_eq (tgt := 52) hx hb dX7_ofChangeNow_18 (by decide) (fun _ => ?_) (fun c9 => absurd (by decide) c9)
  refine lv_aload_n hx hb dX7_ofChangeNow_52 rfl (lv_at hl 2 rfl) ?_
  refine lv_iload_n hx hb dX7_ofChangeNow_53 rfl (lv_at hl 3 rfl) ?_
  refine rc_callr (wr := [(h4, .inl (E.2.1 3, 40, .inl (fun _ => 0))), (h5, .inl (E.2.1 3, 40, .inl (fun _ => 0))), (q1, .inr (3, [.int 0, .int (-1), .int 0, .ref h3]))]) (va_runV (As := [.int 0]) (rest := []) (Ts := []) ⟨hx, hb, hml, hown, fun _ h9 => absurd h9 List.not_mem_nil⟩ (cw_X7_sample_ l E _ h0 h1 h2 h3 h4 h5) (rc_cwV hAm qw_967 qw_13 qw_970 qw_969 qs_54 rfl rfl hd_X7_sample_ ⟨Nat.le_of_ble_eq_true rfl, Nat.le_of_ble_eq_true rfl⟩) (rc_preV hAm hA hw [0, 4] rfl rfl 0 rfl (q := vwCl[12]) rfl) rfl rfl hl.1 rfl (lv_room (Nat.le_of_ble_eq_true rfl)) dX7_ofChangeNow_54 ⟨Nat.le_of_ble_eq_true rfl, Nat.le_of_ble_eq_true rfl⟩) hA hw [0, 4] [1, 2, 3] rfl rfl rfl (by decide) (fun u_6 r_5 H locs hp hw => ?_)
  obtain ⟨q2, rfl, rfl⟩ := hp
  have hw : rc_W E A s [(h4, .inl (E.2.1 3, 40, .inl (fun _ => 0))), (h5, .inl (E.2.1 3, 40, .inl (fun _ => 0))), (q1, .inr (3, [.int 0, .int (-1), .int 0, .ref h3])), (h0, .inr (12, [.int 0, .ref h1, .ref h2, .ref h3, .ref h4, .ref h5, .int 1, .int 3, .int 50, .int (-1), .int (-1), .int (-1), .int (-1), .int 0, .int 100, .int 1000, .long 0])), (h3, .inr (4, [.int 0, .ref (E.2.2 0), .int 0])), (q2, .inl (E.2.1 0, 0, .inl (va_cpy (fun _ => 0) (fun _ => 0) 6 0 0)))] H locs := hw
  refine lv_astore (lv' := [(4, .ref q2), (3, .int 0), (0, .ref h0), (1, .int 0), (2, .int x0)]) hx hb dX7_ofChangeNow_57 hl (by decide) rfl (fun ls hl => ?_)
  refine lv_aload hx hb dX7_ofChangeNow_59 (lv_at hl 0 rfl) ?_
  refine rc_callv (wr := [(h4, .inl (E.2.1 3, 40, .inl (fun _ => 0))), (h5, .inl (E.2.1 3, 40, .inl (fun _ => 0))), (q1, .inr (3, [.int 0, .int (-1), .int 0, .ref h3])), (h0, .inr (12, [.int 0, .ref h1, .ref h2, .ref h3, .ref h4, .ref h5, .int 1, .int 3, .int 50, .int (-1), .int (-1), .int (-1), .int (-1), .int 0, .int 100, .int 1000, .long 0])), (h3, .inr (4, [.int 0, .ref (E.2.2 0), .int 0]))]) (va_runS (As := [.ref q2]) (rest := []) (Ts := []) ⟨hx, hb, hml, hown, fun _ h9 => absurd h9 List.not_mem_nil⟩ (cw_J7_sort_2022b l E _ q2 (va_cpy (fun _ => 0) (fun _ => 0) 6 0 0)) (rc_cwS hAm qw_1241 qw_11 qw_1243 qw_1242 rfl rfl hd_J7_sort_2022b ⟨Nat.le_of_ble_eq_true rfl, Nat.le_of_ble_eq_true rfl⟩) (rc_preS hAm hA hw [5] rfl rfl) rfl rfl hl.1 rfl (lv_room (Nat.le_of_ble_eq_true rfl)) dX7_ofChangeNow_61 ⟨Nat.le_of_ble_eq_true rfl, Nat.le_of_ble_eq_true rfl⟩) hA hw [5] [0, 1, 2, 3, 4] rfl rfl rfl (by decide) (fun u_8 H locs hp hw => ?_)
  obtain ⟨rfl⟩ := hp
  have hw : rc_W E A s [(h4, .inl (E.2.1 3, 40, .inl (fun _ => 0))), (h5, .inl (E.2.1 3, 40, .inl (fun _ => 0))), (q1, .inr (3, [.int 0, .int (-1), .int 0, .ref h3])), (h0, .inr (12, [.int 0, .ref h1, .ref h2, .ref h3, .ref h4, .ref h5, .int 1, .int 3, .int 50, .int (-1), .int (-1), .int (-1), .int (-1), .int 0, .int 100, .int 1000, .long 0])), (h3, .inr (4, [.int 0, .ref (E.2.2 0), .int 0])), (q2, .inl (E.2.1 0, 0, .inl (va_cpy (fun _ => 0) (fun _ => 0) 6 0 0)))] H locs := hw
  refine lv_aload hx hb dX7_ofChangeNow_64 (lv_at hl 0 rfl) ?_
  refine rc_alen hx hb hAm hw 5 0 rfl rfl 0 rfl dX7_ofChangeNow_66 ?_
  refine lv_iconst (v := 1) hx hb dX7_ofChangeNow_67 (by decide) ?_
  refine lv_isub hx hb dX7_ofChangeNow_68 ?_
  refine rc_topi (-1) (by decide) ?_
  refine lv_istore (lv' := [(5, .int (-1)), (4, .ref q2), (3, .int 0), (0, .ref h0), (1, .int 0), (2, .int x0)]) hx hb dX7_ofChangeNow_69 hl (by decide) rfl (fun ls hl => ?_)
  refine lv_iload_n hx hb dX7_ofChangeNow_71 rfl (lv_at hl 5 rfl) ?_
  rcases Decidable.em (x0 = 0) with c_9 | c_9
  · refine lv_tableIn (tgt := 108) hx hb dX7_ofChangeNow_72 (by rw [c_9]; decide) (by rw [c_9]; decide) (by rw [c_9]; rfl) (by decide) ?_
    refine lv_iload_n hx hb dX7_ofChangeNow_108 rfl (lv_at hl 2 rfl) ?_
    exact rc_iret (v := 0) hx hb hr hlocks hw [(h0, .inr (12, [.int 0, .ref h1, .ref h2, .ref h3, .ref h4, .ref h5, .int 1, .int 3, .int 50, .int (-1), .int (-1), .int (-1), .int (-1), .int 0, .int 100, .int 1000, .long 0])), (h3, .inr (4, [.int 0, .ref (E.2.2 0), .int 0])), (h4, .inl (E.2.1 3, 40, .inl (fun _ => 0))), (h5, .inl (E.2.1 3, 40, .inl (fun _ => 0)))] (Or.inl ⟨c_9, rfl, rfl⟩) [3, 4, 0, 1] rfl (by decide) (Nat.le_of_ble_eq_true rfl) (Nat.le_of_ble_eq_true rfl) dX7_ofChangeNow_109
  · rcases Decidable.em (x0 = 1) with c_10 | c_10
    · refine lv_tableIn (tgt := 110) hx hb dX7_ofChangeNow_72 (by rw [c_10]; decide) (by rw [c_10]; decide) (by rw [c_10]; rfl) (by decide) ?_
      refine lv_aload hx hb dX7_ofChangeNow_110 (lv_at hl 1 rfl) ?_
      refine rc_alen hx hb hAm hw 5 0 rfl rfl 0 rfl dX7_ofChangeNow_112 ?_
      exact rc_iret (v := 0) hx hb hr hlocks hw [(h0, .inr (12, [.int 0, .ref h1, .ref h2, .ref h3, .ref h4, .ref h5, .int 1, .int 3, .int 50, .int (-1), .int (-1), .int (-1), .int (-1), .int 0, .int 100, .int 1000, .long 0])), (h3, .inr (4, [.int 0, .ref (E.2.2 0), .int 0])), (h4, .inl (E.2.1 3, 40, .inl (fun _ => 0))), (h5, .inl (E.2.1 3, 40, .inl (fun _ => 0)))] (Or.inr (Or.inl ⟨c_9, c_10, rfl, rfl⟩)) [3, 4, 0, 1] rfl (by decide) (Nat.le_of_ble_eq_true rfl) (Nat.le_of_ble_eq_true rfl) dX7_ofChangeNow_113
    · rcases Decidable.em (x0 = 2) with c_11 | c_11
      · refine lv_tableIn (tgt := 114) hx hb dX7_ofChangeNow_72 (by rw [c_11]; decide) (by rw [c_11]; decide) (by rw [c_11]; rfl) (by decide) ?_
        refine lv_iload hx hb dX7_ofChangeNow_114 (lv_at hl 0 rfl) ?_
        refine lv_if_ge (tgt := 123) hx hb dX7_ofChangeNow_116 (by decide) (fun c9 => absurd c9 (by decide)) (fun _ => ?_)
        refine lv_iconst (v := (-1)) hx hb dX7_ofChangeNow_119 (by decide) ?_
        refine lv_goto (tgt := 130) hx hb dX7_ofChangeNow_120 (by decide) ?_
        exact rc_iret (v := (-1)) hx hb hr hlocks hw [(h0, .inr (12, [.int 0, .ref h1, .ref h2, .ref h3, .ref h4, .ref h5, .int 1, .int 3, .int 50, .int (-1), .int (-1), .int (-1), .int (-1), .int 0, .int 100, .int 1000, .long 0])), (h3, .inr (4, [.int 0, .ref (E.2.2 0), .int 0])), (h4, .inl (E.2.1 3, 40, .inl (fun _ => 0))), (h5, .inl (E.2.1 3, 40, .inl (fun _ => 0)))] (Or.inr (Or.inr (Or.inl ⟨c_9, c_10, c_11, rfl, rfl⟩))) [3, 4, 0, 1] rfl (by decide) (Nat.le_of_ble_eq_true rfl) (Nat.le_of_ble_eq_true rfl) dX7_ofChangeNow_130
      · rcases Decidable.em (x0 = 3) with c_12 | c_12
        · refine lv_tableIn (tgt := 131) hx hb dX7_ofChangeNow_72 (by rw [c_12]; decide) (by rw [c_12]; decide) (by rw [c_12]; rfl) (by decide) ?_
          refine lv_iload hx hb dX7_ofChangeNow_131 (lv_at hl 0 rfl) ?_
          refine lv_if_ge (tgt := 140) hx hb dX7_ofChangeNow_133 (by decide) (fun c9 => absurd c9 (by decide)) (fun _ => ?_)
          refine lv_iconst (v := (-1)) hx hb dX7_ofChangeNow_136 (by decide) ?_
          refine lv_goto (tgt := 144) hx hb dX7_ofChangeNow_137 (by decide) ?_
          exact rc_iret (v := (-1)) hx hb hr hlocks hw [(h0, .inr (12, [.int 0, .ref h1, .ref h2, .ref h3, .ref h4, .ref h5, .int 1, .int 3, .int 50, .int (-1), .int (-1), .int (-1), .int (-1), .int 0, .int 100, .int 1000, .long 0])), (h3, .inr (4, [.int 0, .ref (E.2.2 0), .int 0])), (h4, .inl (E.2.1 3, 40, .inl (fun _ => 0))), (h5, .inl (E.2.1 3, 40, .inl (fun _ => 0)))] (Or.inr (Or.inr (Or.inr (Or.inl ⟨c_9, c_10, c_11, c_12, rfl, rfl⟩)))) [3, 4, 0, 1] rfl (by decide) (Nat.le_of_ble_eq_true rfl) (Nat.le_of_ble_eq_true rfl) dX7_ofChangeNow_144
        · rcases Decidable.em (x0 = 4) with c_13 | c_13
          · refine lv_tableIn (tgt := 145) hx hb dX7_ofChangeNow_72 (by rw [c_13]; decide) (by rw [c_13]; decide) (by rw [c_13]; rfl) (by decide) ?_
            refine lv_iload hx hb dX7_ofChangeNow_145 (lv_at hl 0 rfl) ?_
            refine lv_if_ge (tgt := 154) hx hb dX7_ofChangeNow_147 (by decide) (fun c9 => absurd c9 (by decide)) (fun _ => ?_)
            refine lv_iconst (v := (-1)) hx hb dX7_ofChangeNow_150 (by decide) ?_
            refine lv_goto (tgt := 159) hx hb dX7_ofChangeNow_151 (by decide) ?_
            exact rc_iret (v := (-1)) hx hb hr hlocks hw [(h0, .inr (12, [.int 0, .ref h1, .ref h2, .ref h3, .ref h4, .ref h5, .int 1, .int 3, .int 50, .int (-1), .int (-1), .int (-1), .int (-1), .int 0, .int 100, .int 1000, .long 0])), (h3, .inr (4, [.int 0, .ref (E.2.2 0), .int 0])), (h4, .inl (E.2.1 3, 40, .inl (fun _ => 0))), (h5, .inl (E.2.1 3, 40, .inl (fun _ => 0)))] (Or.inr (Or.inr (Or.inr (Or.inr (Or.inl ⟨c_9, c_10, c_11, c_12, c_13, rfl, rfl⟩))))) [3, 4, 0, 1] rfl (by decide) (Nat.le_of_ble_eq_true rfl) (Nat.le_of_ble_eq_true rfl) dX7_ofChangeNow_159
          · refine lv_tableOut (tgt := 160) hx hb dX7_ofChangeNow_72 (by have g0 := lv_neT (a := 0) c_9 rfl; have g1 := lv_neT (a := 1) c_10 rfl; have g2 := lv_neT (a := 2) c_11 rfl; have g3 := lv_neT (a := 3) c_12 rfl; have g4 := lv_neT (a := 4) c_13 rfl; omega) (by decide) ?_
            refine lv_aload_n hx hb dX7_ofChangeNow_160 rfl (lv_at hl 3 rfl) ?_
            refine rc_get (v := .ref h5) hx hb hown hAm hw lyX7 3 rfl rfl 5 (by decide) qw_865 (fun _ h9 => h9) rfl dX7_ofChangeNow_161 ?_
            refine lv_iload_n hx hb dX7_ofChangeNow_164 rfl (lv_at hl 4 rfl) ?_
            refine rc_zald hx hb hAm hw 1 rfl (vp_in_iff.mpr (by decide)) dX7_ofChangeNow_165 ?_
            refine rc_topi 0 rfl ?_
            refine lv_if_eq (tgt := 173) hx hb dX7_ofChangeNow_166 (by decide) (fun _ => ?_) (fun c9 => absurd (by decide) c9)
            refine lv_aload_n hx hb dX7_ofChangeNow_173 rfl (lv_at hl 3 rfl) ?_
            refine rc_get (v := .ref h4) hx hb hown hAm hw lyX7 3 rfl rfl 4 (by decide) qw_864 (fun _ h9 => h9) rfl dX7_ofChangeNow_174 ?_
            refine lv_iload_n hx hb dX7_ofChangeNow_177 rfl (lv_at hl 4 rfl) ?_
            refine rc_zald hx hb hAm hw 0 rfl (vp_in_iff.mpr (by decide)) dX7_ofChangeNow_178 ?_
            refine rc_topi 0 rfl ?_
            refine lv_if_eq (tgt := 186) hx hb dX7_ofChangeNow_179 (by decide) (fun _ => ?_) (fun c9 => absurd (by decide) c9)
            refine lv_iconst (v := 0) hx hb dX7_ofChangeNow_186 (by decide) ?_
            exact rc_iret (v := 0) hx hb hr hlocks hw [(h0, .inr (12, [.int 0, .ref h1, .ref h2, .ref h3, .ref h4, .ref h5, .int 1, .int 3, .int 50, .int (-1), .int (-1), .int (-1), .int (-1), .int 0, .int 100, .int 1000, .long 0])), (h3, .inr (4, [.int 0, .ref (E.2.2 0), .int 0])), (h4, .inl (E.2.1 3, 40, .inl (fun _ => 0))), (h5, .inl (E.2.1 3, 40, .inl (fun _ => 0)))] (Or.inr (Or.inr (Or.inr (Or.inr (Or.inr ⟨c_9, c_10, c_11, c_12, c_13, rfl, rfl⟩))))) [3, 4, 0, 1] rfl (by decide) (Nat.le_of_ble_eq_true rfl) (Nat.le_of_ble_eq_true rfl) dX7_ofChangeNow_187
theorem hd_X7_ofChangeNow : yX7_ofChangeNow.cls ≠ "java/lang/invoke/MethodHandle" ∧ yX7_ofChangeNow.cls ≠ "java/lang/invoke/VarHandle" ∧ (parseMethodDescriptor yX7_ofChangeNow.desc).map (fun d => d.parameters.length) = some 2 := by decide +kernel
set_option maxHeartbeats 4000000 in
set_option maxRecDepth 100000 in
theorem cw_X7_ofChange (l : Launch) (E : rc_E) (sz : Nat) (h0 : Nat) (x0 : Int32) (x1 : Int32) (h1 : Nat) (h2 : Nat) (h3 : Nat) (h4 : Nat) (h5 : Nat) : rc_Mi l yX7_ofChange [Cond.code yX7_ofChange cX7_ofChange 3 (some FieldType.int)] { frames := 6, cells := 3, slots := 10, locals := 157 } E [.ref h0, .int x0, .int x1] [(h0, .inr (12, [.int 0, .ref h1, .ref h2, .ref h3, .ref h4, .ref h5, .int 1, .int 3, .int 50, .int (-1), .int (-1), .int (-1), .int (-1), .int 0, .int 100, .int 1000, .long 0])), (h3, .inr (4, [.int 0, .ref (E.2.2 0), .int 0])), (h4, .inl (E.2.1 3, 40, .inl (fun _ => 0))), (h5, .inl (E.2.1 3, 40, .inl (fun _ => 0)))] sz (S := va_W) (fun (r : Int32) (u : va_W) => (x0 < 0 ∧ 0 = r ∧ u = [(h0, .inr (12, [.int 1, .ref h1, .ref h2, .ref h3, .ref h4, .ref h5, .int 1, .int 3, .int 50, .int (-1), .int (-1), .int (-1), .int (-1), .int 0, .int 100, .int 1000, .long 0])), (h3, .inr (4, [.int 0, .ref (E.2.2 0), .int 0])), (h4, .inl (E.2.1 3, 40, .inl (fun _ => 0))), (h5, .inl (E.2.1 3, 40, .inl (fun _ => 0)))]) ∨ (¬ x0 < 0 ∧ 0 < x0 ∧ 0 = r ∧ u = [(h0, .inr (12, [.int 1, .ref h1, .ref h2, .ref h3, .ref h4, .ref h5, .int 1, .int 3, .int 50, .int (-1), .int (-1), .int (-1), .int (-1), .int 0, .int 100, .int 1000, .long 0])), (h3, .inr (4, [.int 0, .ref (E.2.2 0), .int 0])), (h4, .inl (E.2.1 3, 40, .inl (fun _ => 0))), (h5, .inl (E.2.1 3, 40, .inl (fun _ => 0)))]) ∨ (x1 < 0 ∧ x0 = 0 ∧ 0 = r ∧ u = [(h0, .inr (12, [.int 2, .ref h1, .ref h2, .ref h3, .ref h4, .ref h5, .int 1, .int 3, .int 50, .int (-1), .int (-1), .int (-1), .int (-1), .int 0, .int 100, .int 1000, .long 0])), (h3, .inr (4, [.int 0, .ref (E.2.2 0), .int 0])), (h4, .inl (E.2.1 3, 40, .inl (fun _ => 0))), (h5, .inl (E.2.1 3, 40, .inl (fun _ => 0)))]) ∨ (¬ x1 < 0 ∧ 5 < x1 ∧ x0 = 0 ∧ 0 = r ∧ u = [(h0, .inr (12, [.int 2, .ref h1, .ref h2, .ref h3, .ref h4, .ref h5, .int 1, .int 3, .int 50, .int (-1), .int (-1), .int (-1), .int (-1), .int 0, .int 100, .int 1000, .long 0])), (h3, .inr (4, [.int 0, .ref (E.2.2 0), .int 0])), (h4, .inl (E.2.1 3, 40, .inl (fun _ => 0))), (h5, .inl (E.2.1 3, 40, .inl (fun _ => 0)))]) ∨ (x0 = 0 ∧ x1 = 0 ∧ 0 = r ∧ u = [(h0, .inr (12, [.int 0, .ref h1, .ref h2, .ref h3, .ref h4, .ref h5, .int 1, .int 3, .int 50, .int (-1), .int (-1), .int (-1), .int (-1), .int 0, .int 100, .int 1000, .long 0])), (h3, .inr (4, [.int 0, .ref (E.2.2 0), .int 0])), (h4, .inl (E.2.1 3, 40, .inl (fun _ => 0))), (h5, .inl (E.2.1 3, 40, .inl (fun _ => 0)))]) ∨ (x0 = 0 ∧ x1 = 1 ∧ 0 = r ∧ u = [(h0, .inr (12, [.int 0, .ref h1, .ref h2, .ref h3, .ref h4, .ref h5, .int 1, .int 3, .int 50, .int (-1), .int (-1), .int (-1), .int (-1), .int 0, .int 100, .int 1000, .long 0])), (h3, .inr (4, [.int 0, .ref (E.2.2 0), .int 0])), (h4, .inl (E.2.1 3, 40, .inl (fun _ => 0))), (h5, .inl (E.2.1 3, 40, .inl (fun _ => 0)))]) ∨ (x0 = 0 ∧ x1 = 2 ∧ (-1) = r ∧ u = [(h0, .inr (12, [.int 0, .ref h1, .ref h2, .ref h3, .ref h4, .ref h5, .int 1, .int 3, .int 50, .int (-1), .int (-1), .int (-1), .int (-1), .int 0, .int 100, .int 1000, .long 0])), (h3, .inr (4, [.int 0, .ref (E.2.2 0), .int 0])), (h4, .inl (E.2.1 3, 40, .inl (fun _ => 0))), (h5, .inl (E.2.1 3, 40, .inl (fun _ => 0)))]) ∨ (x0 = 0 ∧ x1 = 3 ∧ (-1) = r ∧ u = [(h0, .inr (12, [.int 0, .ref h1, .ref h2, .ref h3, .ref h4, .ref h5, .int 1, .int 3, .int 50, .int (-1), .int (-1), .int (-1), .int (-1), .int 0, .int 100, .int 1000, .long 0])), (h3, .inr (4, [.int 0, .ref (E.2.2 0), .int 0])), (h4, .inl (E.2.1 3, 40, .inl (fun _ => 0))), (h5, .inl (E.2.1 3, 40, .inl (fun _ => 0)))]) ∨ (x0 = 0 ∧ x1 = 4 ∧ (-1) = r ∧ u = [(h0, .inr (12, [.int 0, .ref h1, .ref h2, .ref h3, .ref h4, .ref h5, .int 1, .int 3, .int 50, .int (-1), .int (-1), .int (-1), .int (-1), .int 0, .int 100, .int 1000, .long 0])), (h3, .inr (4, [.int 0, .ref (E.2.2 0), .int 0])), (h4, .inl (E.2.1 3, 40, .inl (fun _ => 0))), (h5, .inl (E.2.1 3, 40, .inl (fun _ => 0)))]) ∨ (x0 = 0 ∧ x1 = 5 ∧ 0 = r ∧ u = [(h0, .inr (12, [.int 0, .ref h1, .ref h2, .ref h3, .ref h4, .ref h5, .int 1, .int 3, .int 50, .int (-1), .int (-1), .int (-1), .int (-1), .int 0, .int 100, .int 1000, .long 0])), (h3, .inr (4, [.int 0, .ref (E.2.2 0), .int 0])), (h4, .inl (E.2.1 3, 40, .inl (fun _ => 0))), (h5, .inl (E.2.1 3, 40, .inl (fun _ => 0)))])) (fun u => u) 3 10 := by
  refine rc_ini (cc := cX7_ofChange) (maxL := 3) (ret := (some FieldType.int)) (by decide) rfl (Nat.le_of_ble_eq_true rfl) ?_
  intro p e s m args below meth c ls A hx hb hr hml _ hown hlocks hin hA hAm hw hl
  have hown : s.vm.findClass RX7 = some m.cls := hown
  have hl : lv_has ls 3 [(0, .ref h0), (1, .int x0), (2, .int x1)] := hl
  refine lv_aload_n hx hb dX7_ofChange_0 rfl (lv_at hl 0 rfl) ?_
  refine lv_iconst (v := 0) hx hb dX7_ofChange_1 (by decide) ?_
  refine rc_put hx hb hown hAm hw lyX7 tyX7 tyX7_ok nmX7 0 rfl rfl 0 (by decide) qw_860 (fun _ h9 => h9) rfl rfl (by decide +kernel) (Nat.le_of_ble_eq_true rfl) [(h0, .inr (12, [.int 0, .ref h1, .ref h2, .ref h3, .ref h4, .ref h5, .int 1, .int 3, .int 50, .int (-1), .int (-1), .int (-1), .int (-1), .int 0, .int 100, .int 1000, .long 0])), (h3, .inr (4, [.int 0, .ref (E.2.2 0), .int 0])), (h4, .inl (E.2.1 3, 40, .inl (fun _ => 0))), (h5, .inl (E.2.1 3, 40, .inl (fun _ => 0)))] rfl dX7_ofChange_2 (fun H locs hw => ?_)
  refine lv_aload_n hx hb dX7_ofChange_5 rfl (lv_at hl 0 rfl) ?_
  refine lv_iload_n hx hb dX7_ofChange_6 rfl (lv_at hl 1 rfl) ?_
  refine rc_calli (wr := [(h3, .inr (4, [.int 0, .ref (E.2.2 0), .int 0])), (h4, .inl (E.2.1 3, 40, .inl (fun _ => 0))), (h5, .inl (E.2.1 3, 40, .inl (fun _ => 0)))]) (va_runV (As := [.int x0]) (rest := []) (Ts := []) ⟨hx, hb, hml, hown, fun _ h9 => absurd h9 List.not_mem_nil⟩ (cw_X7_isChange l E _ h0 x0 h1 h2 h3 h4 h5) (rc_cwV hAm qw_1353 qw_13 qw_1356 qw_1355 qs_62 rfl rfl hd_X7_isChange ⟨Nat.le_of_ble_eq_true rfl, Nat.le_of_ble_eq_true rfl⟩) (rc_preV hAm hA hw [0] rfl rfl 0 rfl (q := vwCl[12]) rfl) rfl rfl hl.1 rfl (lv_room (Nat.le_of_ble_eq_true rfl)) dX7_ofChange_7 ⟨Nat.le_of_ble_eq_true rfl, Nat.le_of_ble_eq_true rfl⟩) hA hw [0] [1, 2, 3] rfl rfl rfl (by decide) (fun r_1 u_2 H locs hp hw => ?_)
  rcases hp with ⟨c_3, rfl, rfl⟩ | ⟨c_4, c_5, rfl, rfl⟩ | ⟨c_6, rfl, rfl⟩
  · have hw : rc_W E A s [(h3, .inr (4, [.int 0, .ref (E.2.2 0), .int 0])), (h4, .inl (E.2.1 3, 40, .inl (fun _ => 0))), (h5, .inl (E.2.1 3, 40, .inl (fun _ => 0))), (h0, .inr (12, [.int 0, .ref h1, .ref h2, .ref h3, .ref h4, .ref h5, .int 1, .int 3, .int 50, .int (-1), .int (-1), .int (-1), .int (-1), .int 0, .int 100, .int 1000, .long 0]))] H locs := hw
    refine lv_if_ne (tgt := 19) hx hb dX7_ofChange_10 (by decide) (fun c9 => absurd (by decide) c9) (fun _ => ?_)
    refine lv_aload_n hx hb dX7_ofChange_13 rfl (lv_at hl 0 rfl) ?_
    refine lv_iconst (v := 1) hx hb dX7_ofChange_14 (by decide) ?_
    refine rc_calli (wr := [(h3, .inr (4, [.int 0, .ref (E.2.2 0), .int 0])), (h4, .inl (E.2.1 3, 40, .inl (fun _ => 0))), (h5, .inl (E.2.1 3, 40, .inl (fun _ => 0)))]) (va_runV (As := [.int 1]) (rest := []) (Ts := []) ⟨hx, hb, hml, hown, fun _ h9 => absurd h9 List.not_mem_nil⟩ (cw_X7_refuse l E _ h0 h1 h2 h3 h4 h5) (rc_cwV hAm qw_924 qw_13 qw_927 qw_926 qs_50 rfl rfl hd_X7_refuse ⟨Nat.le_of_ble_eq_true rfl, Nat.le_of_ble_eq_true rfl⟩) (rc_preV hAm hA hw [3] rfl rfl 3 rfl (q := vwCl[12]) rfl) rfl rfl hl.1 rfl (lv_room (Nat.le_of_ble_eq_true rfl)) dX7_ofChange_15 ⟨Nat.le_of_ble_eq_true rfl, Nat.le_of_ble_eq_true rfl⟩) hA hw [3] [0, 1, 2] rfl rfl rfl (by decide) (fun r_7 u_8 H locs hp hw => ?_)
    obtain ⟨rfl, rfl⟩ := hp
    have hw : rc_W E A s [(h3, .inr (4, [.int 0, .ref (E.2.2 0), .int 0])), (h4, .inl (E.2.1 3, 40, .inl (fun _ => 0))), (h5, .inl (E.2.1 3, 40, .inl (fun _ => 0))), (h0, .inr (12, [.int 1, .ref h1, .ref h2, .ref h3, .ref h4, .ref h5, .int 1, .int 3, .int 50, .int (-1), .int (-1), .int (-1), .int (-1), .int 0, .int 100, .int 1000, .long 0]))] H locs := hw
    exact rc_iret (v := 0) hx hb hr hlocks hw [(h0, .inr (12, [.int 1, .ref h1, .ref h2, .ref h3, .ref h4, .ref h5, .int 1, .int 3, .int 50, .int (-1), .int (-1), .int (-1), .int (-1), .int 0, .int 100, .int 1000, .long 0])), (h3, .inr (4, [.int 0, .ref (E.2.2 0), .int 0])), (h4, .inl (E.2.1 3, 40, .inl (fun _ => 0))), (h5, .inl (E.2.1 3, 40, .inl (fun _ => 0)))] (Or.inl ⟨c_3, rfl, rfl⟩) [3, 0, 1, 2] rfl (by decide) (Nat.le_of_ble_eq_true rfl) (Nat.le_of_ble_eq_true rfl) dX7_ofChange_18
  · have hw : rc_W E A s [(h3, .inr (4, [.int 0, .ref (E.2.2 0), .int 0])), (h4, .inl (E.2.1 3, 40, .inl (fun _ => 0))), (h5, .inl (E.2.1 3, 40, .inl (fun _ => 0))), (h0, .inr (12, [.int 0, .ref h1, .ref h2, .ref h3, .ref h4, .ref h5, .int 1, .int 3, .int 50, .int (-1), .int (-1), .int (-1), .int (-1), .int 0, .int 100, .int 1000, .long 0]))] H locs := hw
    refine lv_if_ne (tgt := 19) hx hb dX7_ofChange_10 (by decide) (fun c9 => absurd (by decide) c9) (fun _ => ?_)
    refine lv_aload_n hx hb dX7_ofChange_13 rfl (lv_at hl 0 rfl) ?_
    refine lv_iconst (v := 1) hx hb dX7_ofChange_14 (by decide) ?_
    refine rc_calli (wr := [(h3, .inr (4, [.int 0, .ref (E.2.2 0), .int 0])), (h4, .inl (E.2.1 3, 40, .inl (fun _ => 0))), (h5, .inl (E.2.1 3, 40, .inl (fun _ => 0)))]) (va_runV (As := [.int 1]) (rest := []) (Ts := []) ⟨hx, hb, hml, hown, fun _ h9 => absurd h9 List.not_mem_nil⟩ (cw_X7_refuse l E _ h0 h1 h2 h3 h4 h5) (rc_cwV hAm qw_924 qw_13 qw_927 qw_926 qs_50 rfl rfl hd_X7_refuse ⟨Nat.le_of_ble_eq_true rfl, Nat.le_of_ble_eq_true rfl⟩) (rc_preV hAm hA hw [3] rfl rfl 3 rfl (q := vwCl[12]) rfl) rfl rfl hl.1 rfl (lv_room (Nat.le_of_ble_eq_true rfl)) dX7_ofChange_15 ⟨Nat.le_of_ble_eq_true rfl, Nat.le_of_ble_eq_true rfl⟩) hA hw [3] [0, 1, 2] rfl rfl rfl (by decide) (fun r_9 u_10 H locs hp hw => ?_)
    obtain ⟨rfl, rfl⟩ := hp
    have hw : rc_W E A s [(h3, .inr (4, [.int 0, .ref (E.2.2 0), .int 0])), (h4, .inl (E.2.1 3, 40, .inl (fun _ => 0))), (h5, .inl (E.2.1 3, 40, .inl (fun _ => 0))), (h0, .inr (12, [.int 1, .ref h1, .ref h2, .ref h3, .ref h4, .ref h5, .int 1, .int 3, .int 50, .int (-1), .int (-1), .int (-1), .int (-1), .int 0, .int 100, .int 1000, .long 0]))] H locs := hw
    exact rc_iret (v := 0) hx hb hr hlocks hw [(h0, .inr (12, [.int 1, .ref h1, .ref h2, .ref h3, .ref h4, .ref h5, .int 1, .int 3, .int 50, .int (-1), .int (-1), .int (-1), .int (-1), .int 0, .int 100, .int 1000, .long 0])), (h3, .inr (4, [.int 0, .ref (E.2.2 0), .int 0])), (h4, .inl (E.2.1 3, 40, .inl (fun _ => 0))), (h5, .inl (E.2.1 3, 40, .inl (fun _ => 0)))] (Or.inr (Or.inl ⟨c_4, c_5, rfl, rfl⟩)) [3, 0, 1, 2] rfl (by decide) (Nat.le_of_ble_eq_true rfl) (Nat.le_of_ble_eq_true rfl) dX7_ofChange_18
  · obtain rfl : x0 = 0 := rc_eqc (b := 0) rfl (by have g_c_6 := rc_g5 (b := 0) c_6 rfl; omega)
    have hw : rc_W E A s [(h3, .inr (4, [.int 0, .ref (E.2.2 0), .int 0])), (h4, .inl (E.2.1 3, 40, .inl (fun _ => 0))), (h5, .inl (E.2.1 3, 40, .inl (fun _ => 0))), (h0, .inr (12, [.int 0, .ref h1, .ref h2, .ref h3, .ref h4, .ref h5, .int 1, .int 3, .int 50, .int (-1), .int (-1), .int (-1), .int (-1), .int 0, .int 100, .int 1000, .long 0]))] H locs := hw
    refine lv_if_ne (tgt := 19) hx hb dX7_ofChange_10 (by decide) (fun _ => ?_) (fun c9 => absurd c9 (by decide))
    refine lv_iload_n hx hb dX7_ofChange_19 rfl (lv_at hl 2 rfl) ?_
    refine lv_iconst (v := 0) hx hb dX7_ofChange_20 (by decide) ?_
    refine lv_iconst (v := 5) hx hb dX7_ofChange_21 (by decide) ?_
    refine rc_calli (wr := [(h3, .inr (4, [.int 0, .ref (E.2.2 0), .int 0])), (h4, .inl (E.2.1 3, 40, .inl (fun _ => 0))), (h5, .inl (E.2.1 3, 40, .inl (fun _ => 0))), (h0, .inr (12, [.int 0, .ref h1, .ref h2, .ref h3, .ref h4, .ref h5, .int 1, .int 3, .int 50, .int (-1), .int (-1), .int (-1), .int (-1), .int 0, .int 100, .int 1000, .long 0]))]) (va_runS (As := [.int x1, .int 0, .int 5]) (rest := []) (Ts := []) ⟨hx, hb, hml, hown, fun _ h9 => absurd h9 List.not_mem_nil⟩ (cw_X7_is_3 l E _ x1) (rc_cwS hAm qw_921 qw_13 qw_923 qw_922 rfl rfl hd_X7_is ⟨Nat.le_of_ble_eq_true rfl, Nat.le_of_ble_eq_true rfl⟩) (rc_preS hAm hA hw [] rfl rfl) rfl rfl hl.1 rfl (lv_room (Nat.le_of_ble_eq_true rfl)) dX7_ofChange_22 ⟨Nat.le_of_ble_eq_true rfl, Nat.le_of_ble_eq_true rfl⟩) hA hw [] [0, 1, 2, 3] rfl rfl rfl (by decide) (fun r_11 u_12 H locs hp hw => ?_)
    rcases hp with ⟨c_13, rfl, rfl⟩ | ⟨c_14, c_15, rfl, rfl⟩ | ⟨c_16, c_17, rfl, rfl⟩
    · have hw : rc_W E A s [(h3, .inr (4, [.int 0, .ref (E.2.2 0), .int 0])), (h4, .inl (E.2.1 3, 40, .inl (fun _ => 0))), (h5, .inl (E.2.1 3, 40, .inl (fun _ => 0))), (h0, .inr (12, [.int 0, .ref h1, .ref h2, .ref h3, .ref h4, .ref h5, .int 1, .int 3, .int 50, .int (-1), .int (-1), .int (-1), .int (-1), .int 0, .int 100, .int 1000, .long 0]))] H locs := hw
      refine lv_if_eq (tgt := 37) hx hb dX7_ofChange_25 (by decide) (fun _ => ?_) (fun c9 => absurd (by decide) c9)
      refine lv_aload_n hx hb dX7_ofChange_37 rfl (lv_at hl 0 rfl) ?_
      refine lv_iconst (v := 2) hx hb dX7_ofChange_38 (by decide) ?_
      refine rc_calli (wr := [(h3, .inr (4, [.int 0, .ref (E.2.2 0), .int 0])), (h4, .inl (E.2.1 3, 40, .inl (fun _ => 0))), (h5, .inl (E.2.1 3, 40, .inl (fun _ => 0)))]) (va_runV (As := [.int 2]) (rest := []) (Ts := []) ⟨hx, hb, hml, hown, fun _ h9 => absurd h9 List.not_mem_nil⟩ (cw_X7_refuse_2 l E _ h0 h1 h2 h3 h4 h5) (rc_cwV hAm qw_924 qw_13 qw_927 qw_926 qs_50 rfl rfl hd_X7_refuse ⟨Nat.le_of_ble_eq_true rfl, Nat.le_of_ble_eq_true rfl⟩) (rc_preV hAm hA hw [3] rfl rfl 3 rfl (q := vwCl[12]) rfl) rfl rfl hl.1 rfl (lv_room (Nat.le_of_ble_eq_true rfl)) dX7_ofChange_39 ⟨Nat.le_of_ble_eq_true rfl, Nat.le_of_ble_eq_true rfl⟩) hA hw [3] [0, 1, 2] rfl rfl rfl (by decide) (fun r_18 u_19 H locs hp hw => ?_)
      obtain ⟨rfl, rfl⟩ := hp
      have hw : rc_W E A s [(h3, .inr (4, [.int 0, .ref (E.2.2 0), .int 0])), (h4, .inl (E.2.1 3, 40, .inl (fun _ => 0))), (h5, .inl (E.2.1 3, 40, .inl (fun _ => 0))), (h0, .inr (12, [.int 2, .ref h1, .ref h2, .ref h3, .ref h4, .ref h5, .int 1, .int 3, .int 50, .int (-1), .int (-1), .int (-1), .int (-1), .int 0, .int 100, .int 1000, .long 0]))] H locs := hw
      exact rc_iret (v := 0) hx hb hr hlocks hw [(h0, .inr (12, [.int 2, .ref h1, .ref h2, .ref h3, .ref h4, .ref h5, .int 1, .int 3, .int 50, .int (-1), .int (-1), .int (-1), .int (-1), .int 0, .int 100, .int 1000, .long 0])), (h3, .inr (4, [.int 0, .ref (E.2.2 0), .int 0])), (h4, .inl (E.2.1 3, 40, .inl (fun _ => 0))), (h5, .inl (E.2.1 3, 40, .inl (fun _ => 0)))] (Or.inr (Or.inr (Or.inl ⟨c_13, rfl, rfl, rfl⟩))) [3, 0, 1, 2] rfl (by decide) (Nat.le_of_ble_eq_true rfl) (Nat.le_of_ble_eq_true rfl) dX7_ofChange_42
    · have hw : rc_W E A s [(h3, .inr (4, [.int 0, .ref (E.2.2 0), .int 0])), (h4, .inl (E.2.1 3, 40, .inl (fun _ => 0))), (h5, .inl (E.2.1 3, 40, .inl (fun _ => 0))), (h0, .inr (12, [.int 0, .ref h1, .ref h2, .ref h3, .ref h4, .ref h5, .int 1, .int 3, .int 50, .int (-1), .int (-1), .int (-1), .int (-1), .int 0, .int 100, .int 1000, .long 0]))] H locs := hw
      refine lv_if_eq (tgt := 37) hx hb dX7_ofChange_25 (by decide) (fun _ => ?_) (fun c9 => absurd (by decide) c9)
      refine lv_aload_n hx hb dX7_ofChange_37 rfl (lv_at hl 0 rfl) ?_
      refine lv_iconst (v := 2) hx hb dX7_ofChange_38 (by decide) ?_
      refine rc_calli (wr := [(h3, .inr (4, [.int 0, .ref (E.2.2 0), .int 0])), (h4, .inl (E.2.1 3, 40, .inl (fun _ => 0))), (h5, .inl (E.2.1 3, 40, .inl (fun _ => 0)))]) (va_runV (As := [.int 2]) (rest := []) (Ts := []) ⟨hx, hb, hml, hown, fun _ h9 => absurd h9 List.not_mem_nil⟩ (cw_X7_refuse_2 l E _ h0 h1 h2 h3 h4 h5) (rc_cwV hAm qw_924 qw_13 qw_927 qw_926 qs_50 rfl rfl hd_X7_refuse ⟨Nat.le_of_ble_eq_true rfl, Nat.le_of_ble_eq_true rfl⟩) (rc_preV hAm hA hw [3] rfl rfl 3 rfl (q := vwCl[12]) rfl) rfl rfl hl.1 rfl (lv_room (Nat.le_of_ble_eq_true rfl)) dX7_ofChange_39 ⟨Nat.le_of_ble_eq_true rfl, Nat.le_of_ble_eq_true rfl⟩) hA hw [3] [0, 1, 2] rfl rfl rfl (by decide) (fun r_20 u_21 H locs hp hw => ?_)
      obtain ⟨rfl, rfl⟩ := hp
      have hw : rc_W E A s [(h3, .inr (4, [.int 0, .ref (E.2.2 0), .int 0])), (h4, .inl (E.2.1 3, 40, .inl (fun _ => 0))), (h5, .inl (E.2.1 3, 40, .inl (fun _ => 0))), (h0, .inr (12, [.int 2, .ref h1, .ref h2, .ref h3, .ref h4, .ref h5, .int 1, .int 3, .int 50, .int (-1), .int (-1), .int (-1), .int (-1), .int 0, .int 100, .int 1000, .long 0]))] H locs := hw
      exact rc_iret (v := 0) hx hb hr hlocks hw [(h0, .inr (12, [.int 2, .ref h1, .ref h2, .ref h3, .ref h4, .ref h5, .int 1, .int 3, .int 50, .int (-1), .int (-1), .int (-1), .int (-1), .int 0, .int 100, .int 1000, .long 0])), (h3, .inr (4, [.int 0, .ref (E.2.2 0), .int 0])), (h4, .inl (E.2.1 3, 40, .inl (fun _ => 0))), (h5, .inl (E.2.1 3, 40, .inl (fun _ => 0)))] (Or.inr (Or.inr (Or.inr (Or.inl ⟨c_14, c_15, rfl, rfl, rfl⟩)))) [3, 0, 1, 2] rfl (by decide) (Nat.le_of_ble_eq_true rfl) (Nat.le_of_ble_eq_true rfl) dX7_ofChange_42
    · have hw : rc_W E A s [(h3, .inr (4, [.int 0, .ref (E.2.2 0), .int 0])), (h4, .inl (E.2.1 3, 40, .inl (fun _ => 0))), (h5, .inl (E.2.1 3, 40, .inl (fun _ => 0))), (h0, .inr (12, [.int 0, .ref h1, .ref h2, .ref h3, .ref h4, .ref h5, .int 1, .int 3, .int 50, .int (-1), .int (-1), .int (-1), .int (-1), .int 0, .int 100, .int 1000, .long 0]))] H locs := hw
      refine lv_if_eq (tgt := 37) hx hb dX7_ofChange_25 (by decide) (fun c9 => absurd c9 (by decide)) (fun _ => ?_)
      refine lv_aload_n hx hb dX7_ofChange_28 rfl (lv_at hl 0 rfl) ?_
      refine lv_iload_n hx hb dX7_ofChange_29 rfl (lv_at hl 1 rfl) ?_
      refine lv_iload_n hx hb dX7_ofChange_30 rfl (lv_at hl 2 rfl) ?_
      refine rc_calli (wr := []) (va_runV (As := [.int 0, .int x1]) (rest := []) (Ts := []) ⟨hx, hb, hml, hown, fun _ h9 => absurd h9 List.not_mem_nil⟩ (cw_X7_ofChangeNow l E _ h0 x1 h1 h2 h3 h4 h5) (rc_cwV hAm qw_1377 qw_13 qw_1380 qw_1379 qs_65 rfl rfl hd_X7_ofChangeNow ⟨Nat.le_of_ble_eq_true rfl, Nat.le_of_ble_eq_true rfl⟩) (rc_preV hAm hA hw [3, 0, 1, 2] rfl rfl 3 rfl (q := vwCl[12]) rfl) rfl rfl hl.1 rfl (lv_room (Nat.le_of_ble_eq_true rfl)) dX7_ofChange_31 ⟨Nat.le_of_ble_eq_true rfl, Nat.le_of_ble_eq_true rfl⟩) hA hw [3, 0, 1, 2] [] rfl rfl rfl (by decide) (fun r_22 u_23 H locs hp hw => ?_)
      rcases hp with ⟨c_24, rfl, rfl⟩ | ⟨c_25, c_26, rfl, rfl⟩ | ⟨c_27, c_28, c_29, rfl, rfl⟩ | ⟨c_30, c_31, c_32, c_33, rfl, rfl⟩ | ⟨c_34, c_35, c_36, c_37, c_38, rfl, rfl⟩ | ⟨c_39, c_40, c_41, c_42, c_43, rfl, rfl⟩
      · obtain rfl : x1 = 0 := rc_eqc (b := 0) rfl (by have g_c_16 := rc_n1 (b := 0) c_16 rfl; have g_c_17 := rc_n2 (b := 5) c_17 rfl; have g_c_24 := rc_g5 (b := 0) c_24 rfl; omega)
        have hw : rc_W E A s [(h0, .inr (12, [.int 0, .ref h1, .ref h2, .ref h3, .ref h4, .ref h5, .int 1, .int 3, .int 50, .int (-1), .int (-1), .int (-1), .int (-1), .int 0, .int 100, .int 1000, .long 0])), (h3, .inr (4, [.int 0, .ref (E.2.2 0), .int 0])), (h4, .inl (E.2.1 3, 40, .inl (fun _ => 0))), (h5, .inl (E.2.1 3, 40, .inl (fun _ => 0)))] H locs := hw
        refine lv_goto (tgt := 42) hx hb dX7_ofChange_34 (by decide) ?_
        exact rc_iret (v := 0) hx hb hr hlocks hw [(h0, .inr (12, [.int 0, .ref h1, .ref h2, .ref h3, .ref h4, .ref h5, .int 1, .int 3, .int 50, .int (-1), .int (-1), .int (-1), .int (-1), .int 0, .int 100, .int 1000, .long 0])), (h3, .inr (4, [.int 0, .ref (E.2.2 0), .int 0])), (h4, .inl (E.2.1 3, 40, .inl (fun _ => 0))), (h5, .inl (E.2.1 3, 40, .inl (fun _ => 0)))] (Or.inr (Or.inr (Or.inr (Or.inr (Or.inl ⟨rfl, rfl, rfl, rfl⟩))))) [0, 1, 2, 3] rfl (by decide) (Nat.le_of_ble_eq_true rfl) (Nat.le_of_ble_eq_true rfl) dX7_ofChange_42
      · obtain rfl : x1 = 1 := rc_eqc (b := 1) rfl (by have g_c_16 := rc_n1 (b := 0) c_16 rfl; have g_c_17 := rc_n2 (b := 5) c_17 rfl; have g_c_25 := rc_n5 (b := 0) c_25 rfl; have g_c_26 := rc_g5 (b := 1) c_26 rfl; omega)
        have hw : rc_W E A s [(h0, .inr (12, [.int 0, .ref h1, .ref h2, .ref h3, .ref h4, .ref h5, .int 1, .int 3, .int 50, .int (-1), .int (-1), .int (-1), .int (-1), .int 0, .int 100, .int 1000, .long 0])), (h3, .inr (4, [.int 0, .ref (E.2.2 0), .int 0])), (h4, .inl (E.2.1 3, 40, .inl (fun _ => 0))), (h5, .inl (E.2.1 3, 40, .inl (fun _ => 0)))] H locs := hw
        refine lv_goto (tgt := 42) hx hb dX7_ofChange_34 (by decide) ?_
        exact rc_iret (v := 0) hx hb hr hlocks hw [(h0, .inr (12, [.int 0, .ref h1, .ref h2, .ref h3, .ref h4, .ref h5, .int 1, .int 3, .int 50, .int (-1), .int (-1), .int (-1), .int (-1), .int 0, .int 100, .int 1000, .long 0])), (h3, .inr (4, [.int 0, .ref (E.2.2 0), .int 0])), (h4, .inl (E.2.1 3, 40, .inl (fun _ => 0))), (h5, .inl (E.2.1 3, 40, .inl (fun _ => 0)))] (Or.inr (Or.inr (Or.inr (Or.inr (Or.inr (Or.inl ⟨rfl, rfl, rfl, rfl⟩)))))) [0, 1, 2, 3] rfl (by decide) (Nat.le_of_ble_eq_true rfl) (Nat.le_of_ble_eq_true rfl) dX7_ofChange_42
      · obtain rfl : x1 = 2 := rc_eqc (b := 2) rfl (by have g_c_16 := rc_n1 (b := 0) c_16 rfl; have g_c_17 := rc_n2 (b := 5) c_17 rfl; have g_c_27 := rc_n5 (b := 0) c_27 rfl; have g_c_28 := rc_n5 (b := 1) c_28 rfl; have g_c_29 := rc_g5 (b := 2) c_29 rfl; omega)
        have hw : rc_W E A s [(h0, .inr (12, [.int 0, .ref h1, .ref h2, .ref h3, .ref h4, .ref h5, .int 1, .int 3, .int 50, .int (-1), .int (-1), .int (-1), .int (-1), .int 0, .int 100, .int 1000, .long 0])), (h3, .inr (4, [.int 0, .ref (E.2.2 0), .int 0])), (h4, .inl (E.2.1 3, 40, .inl (fun _ => 0))), (h5, .inl (E.2.1 3, 40, .inl (fun _ => 0)))] H locs := hw
        refine lv_goto (tgt := 42) hx hb dX7_ofChange_34 (by decide) ?_
        exact rc_iret (v := (-1)) hx hb hr hlocks hw [(h0, .inr (12, [.int 0, .ref h1, .ref h2, .ref h3, .ref h4, .ref h5, .int 1, .int 3, .int 50, .int (-1), .int (-1), .int (-1), .int (-1), .int 0, .int 100, .int 1000, .long 0])), (h3, .inr (4, [.int 0, .ref (E.2.2 0), .int 0])), (h4, .inl (E.2.1 3, 40, .inl (fun _ => 0))), (h5, .inl (E.2.1 3, 40, .inl (fun _ => 0)))] (Or.inr (Or.inr (Or.inr (Or.inr (Or.inr (Or.inr (Or.inl ⟨rfl, rfl, rfl, rfl⟩))))))) [0, 1, 2, 3] rfl (by decide) (Nat.le_of_ble_eq_true rfl) (Nat.le_of_ble_eq_true rfl) dX7_ofChange_42
      · obtain rfl : x1 = 3 := rc_eqc (b := 3) rfl (by have g_c_16 := rc_n1 (b := 0) c_16 rfl; have g_c_17 := rc_n2 (b := 5) c_17 rfl; have g_c_30 := rc_n5 (b := 0) c_30 rfl; have g_c_31 := rc_n5 (b := 1) c_31 rfl; have g_c_32 := rc_n5 (b := 2) c_32 rfl; have g_c_33 := rc_g5 (b := 3) c_33 rfl; omega)
        have hw : rc_W E A s [(h0, .inr (12, [.int 0, .ref h1, .ref h2, .ref h3, .ref h4, .ref h5, .int 1, .int 3, .int 50, .int (-1), .int (-1), .int (-1), .int (-1), .int 0, .int 100, .int 1000, .long 0])), (h3, .inr (4, [.int 0, .ref (E.2.2 0), .int 0])), (h4, .inl (E.2.1 3, 40, .inl (fun _ => 0))), (h5, .inl (E.2.1 3, 40, .inl (fun _ => 0)))] H locs := hw
        refine lv_goto (tgt := 42) hx hb dX7_ofChange_34 (by decide) ?_
        exact rc_iret (v := (-1)) hx hb hr hlocks hw [(h0, .inr (12, [.int 0, .ref h1, .ref h2, .ref h3, .ref h4, .ref h5, .int 1, .int 3, .int 50, .int (-1), .int (-1), .int (-1), .int (-1), .int 0, .int 100, .int 1000, .long 0])), (h3, .inr (4, [.int 0, .ref (E.2.2 0), .int 0])), (h4, .inl (E.2.1 3, 40, .inl (fun _ => 0))), (h5, .inl (E.2.1 3, 40, .inl (fun _ => 0)))] (Or.inr (Or.inr (Or.inr (Or.inr (Or.inr (Or.inr (Or.inr (Or.inl ⟨rfl, rfl, rfl, rfl⟩)))))))) [0, 1, 2, 3] rfl (by decide) (Nat.le_of_ble_eq_true rfl) (Nat.le_of_ble_eq_true rfl) dX7_ofChange_42
      · obtain rfl : x1 = 4 := rc_eqc (b := 4) rfl (by have g_c_16 := rc_n1 (b := 0) c_16 rfl; have g_c_17 := rc_n2 (b := 5) c_17 rfl; have g_c_34 := rc_n5 (b := 0) c_34 rfl; have g_c_35 := rc_n5 (b := 1) c_35 rfl; have g_c_36 := rc_n5 (b := 2) c_36 rfl; have g_c_37 := rc_n5 (b := 3) c_37 rfl; have g_c_38 := rc_g5 (b := 4) c_38 rfl; omega)
        have hw : rc_W E A s [(h0, .inr (12, [.int 0, .ref h1, .ref h2, .ref h3, .ref h4, .ref h5, .int 1, .int 3, .int 50, .int (-1), .int (-1), .int (-1), .int (-1), .int 0, .int 100, .int 1000, .long 0])), (h3, .inr (4, [.int 0, .ref (E.2.2 0), .int 0])), (h4, .inl (E.2.1 3, 40, .inl (fun _ => 0))), (h5, .inl (E.2.1 3, 40, .inl (fun _ => 0)))] H locs := hw
        refine lv_goto (tgt := 42) hx hb dX7_ofChange_34 (by decide) ?_
        exact rc_iret (v := (-1)) hx hb hr hlocks hw [(h0, .inr (12, [.int 0, .ref h1, .ref h2, .ref h3, .ref h4, .ref h5, .int 1, .int 3, .int 50, .int (-1), .int (-1), .int (-1), .int (-1), .int 0, .int 100, .int 1000, .long 0])), (h3, .inr (4, [.int 0, .ref (E.2.2 0), .int 0])), (h4, .inl (E.2.1 3, 40, .inl (fun _ => 0))), (h5, .inl (E.2.1 3, 40, .inl (fun _ => 0)))] (Or.inr (Or.inr (Or.inr (Or.inr (Or.inr (Or.inr (Or.inr (Or.inr (Or.inl ⟨rfl, rfl, rfl, rfl⟩))))))))) [0, 1, 2, 3] rfl (by decide) (Nat.le_of_ble_eq_true rfl) (Nat.le_of_ble_eq_true rfl) dX7_ofChange_42
      · obtain rfl : x1 = 5 := rc_eqc (b := 5) rfl (by have g_c_16 := rc_n1 (b := 0) c_16 rfl; have g_c_17 := rc_n2 (b := 5) c_17 rfl; have g_c_39 := rc_n5 (b := 0) c_39 rfl; have g_c_40 := rc_n5 (b := 1) c_40 rfl; have g_c_41 := rc_n5 (b := 2) c_41 rfl; have g_c_42 := rc_n5 (b := 3) c_42 rfl; have g_c_43 := rc_n5 (b := 4) c_43 rfl; omega)
        have hw : rc_W E A s [(h0, .inr (12, [.int 0, .ref h1, .ref h2, .ref h3, .ref h4, .ref h5, .int 1, .int 3, .int 50, .int (-1), .int (-1), .int (-1), .int (-1), .int 0, .int 100, .int 1000, .long 0])), (h3, .inr (4, [.int 0, .ref (E.2.2 0), .int 0])), (h4, .inl (E.2.1 3, 40, .inl (fun _ => 0))), (h5, .inl (E.2.1 3, 40, .inl (fun _ => 0)))] H locs := hw
        refine lv_goto (tgt := 42) hx hb dX7_ofChange_34 (by decide) ?_
        exact rc_iret (v := 0) hx hb hr hlocks hw [(h0, .inr (12, [.int 0, .ref h1, .ref h2, .ref h3, .ref h4, .ref h5, .int 1, .int 3, .int 50, .int (-1), .int (-1), .int (-1), .int (-1), .int 0, .int 100, .int 1000, .long 0])), (h3, .inr (4, [.int 0, .ref (E.2.2 0), .int 0])), (h4, .inl (E.2.1 3, 40, .inl (fun _ => 0))), (h5, .inl (E.2.1 3, 40, .inl (fun _ => 0)))] (Or.inr (Or.inr (Or.inr (Or.inr (Or.inr (Or.inr (Or.inr (Or.inr (Or.inr ⟨rfl, rfl, rfl, rfl⟩))))))))) [0, 1, 2, 3] rfl (by decide) (Nat.le_of_ble_eq_true rfl) (Nat.le_of_ble_eq_true rfl) dX7_ofChange_42
set_option maxHeartbeats 4000000 in
set_option maxRecDepth 100000 in
theorem cw_X7_is_4 (l : Launch) (E : rc_E) (sz : Nat) (x0 : Int32) : rc_Mi l yX7_is [Cond.code yX7_is cX7_is 3 (some FieldType.boolean)] { frames := 0, cells := 0, slots := 0, locals := 0 } E [.int x0, .int 0, .int 4] [] sz (S := va_W) (fun (r : Int32) (u : va_W) => (x0 < 0 ∧ 0 = r ∧ u = []) ∨ (¬ x0 < 0 ∧ 4 < x0 ∧ 0 = r ∧ u = []) ∨ (¬ x0 < 0 ∧ ¬ 4 < x0 ∧ 1 = r ∧ u = [])) (fun u => u) 0 0 := by
  refine rc_ini (cc := cX7_is) (maxL := 3) (ret := (some FieldType.boolean)) (by decide) rfl (Nat.le_of_ble_eq_true rfl) ?_
  intro p e s m args below meth c ls A hx hb hr hml _ hown hlocks hin hA hAm hw hl
  have hown : s.vm.findClass RX7 = some m.cls := hown
  have hl : lv_has ls 3 [(0, .int x0), (1, .int 0), (2, .int 4)] := hl
  refine lv_iload_n hx hb dX7_is_0 rfl (lv_at hl 0 rfl) ?_
  refine lv_iload_n hx hb dX7_is_1 rfl (lv_at hl 1 rfl) ?_
  refine lv_icmp_lt (tgt := 14) hx hb dX7_is_2 (by decide) (fun c_1 => ?_) (fun c_1 => ?_)
  · refine lv_iconst (v := 0) hx hb dX7_is_14 (by decide) ?_
    exact rc_zret (v := 0) hx hb hr hlocks hw rfl [] (Or.inl ⟨c_1, rfl, rfl⟩) [] rfl (by decide) (Nat.le_of_ble_eq_true rfl) (Nat.le_of_ble_eq_true rfl) dX7_is_15
  · refine lv_iload_n hx hb dX7_is_5 rfl (lv_at hl 0 rfl) ?_
    refine lv_iload_n hx hb dX7_is_6 rfl (lv_at hl 2 rfl) ?_
    refine lv_icmp_gt (tgt := 14) hx hb dX7_is_7 (by decide) (fun c_2 => ?_) (fun c_2 => ?_)
    · refine lv_iconst (v := 0) hx hb dX7_is_14 (by decide) ?_
      exact rc_zret (v := 0) hx hb hr hlocks hw rfl [] (Or.inr (Or.inl ⟨c_1, c_2, rfl, rfl⟩)) [] rfl (by decide) (Nat.le_of_ble_eq_true rfl) (Nat.le_of_ble_eq_true rfl) dX7_is_15
    · refine lv_iconst (v := 1) hx hb dX7_is_10 (by decide) ?_
      refine lv_goto (tgt := 15) hx hb dX7_is_11 (by decide) ?_
      exact rc_zret (v := 1) hx hb hr hlocks hw rfl [] (Or.inr (Or.inr ⟨c_1, c_2, rfl, rfl⟩)) [] rfl (by decide) (Nat.le_of_ble_eq_true rfl) (Nat.le_of_ble_eq_true rfl) dX7_is_15
set_option maxHeartbeats 4000000 in
set_option maxRecDepth 100000 in
theorem cw_X7_verdictOf (l : Launch) (E : rc_E) (sz : Nat) (h0 : Nat) (h1 : Nat) (h2 : Nat) (h3 : Nat) (h4 : Nat) (h5 : Nat) (h6 : Nat) (h7 : Nat) (f0 : Nat → Int32) : rc_Mi l yX7_verdictOf [Cond.code yX7_verdictOf cX7_verdictOf 4 (some FieldType.int)] { frames := 0, cells := 0, slots := 0, locals := 0 } E [.ref h0, .ref h1, .ref h2] [(h0, .inr (12, [.int 0, .ref h3, .ref h4, .ref h5, .ref h6, .ref h7, .int 1, .int 3, .int 50, .int (-1), .int (-1), .int (-1), .int (-1), .int 0, .int 100, .int 1000, .long 0])), (h1, .inl (E.2.1 0, 0, .inl f0))] sz (S := va_W) (fun (r : Int32) (u : va_W) => (0 = r ∧ u = [(h0, .inr (12, [.int 0, .ref h3, .ref h4, .ref h5, .ref h6, .ref h7, .int 1, .int 3, .int 50, .int (-1), .int (-1), .int (-1), .int (-1), .int 0, .int 100, .int 1000, .long 0])), (h1, .inl (E.2.1 0, 0, .inl f0))])) (fun u => u) 0 0 := by
  refine rc_ini (cc := cX7_verdictOf) (maxL := 4) (ret := (some FieldType.int)) (by decide) rfl (Nat.le_of_ble_eq_true rfl) ?_
  intro p e s m args below meth c ls A hx hb hr hml _ hown hlocks hin hA hAm hw hl
  have hown : s.vm.findClass RX7 = some m.cls := hown
  have hl : lv_has ls 4 [(0, .ref h0), (1, .ref h1), (2, .ref h2)] := hl
  refine lv_aload_n hx hb dX7_verdictOf_0 rfl (lv_at hl 1 rfl) ?_
  refine rc_alen hx hb hAm hw 1 0 rfl rfl 0 rfl dX7_verdictOf_1 ?_
  refine lv_aload_n hx hb dX7_verdictOf_2 rfl (lv_at hl 0 rfl) ?_
  refine rc_get (v := .int 3) hx hb hown hAm hw lyX7 0 rfl rfl 7 (by decide) qw_867 (fun _ h9 => h9) rfl dX7_verdictOf_3 ?_
  refine lv_icmp_lt (tgt := 18) hx hb dX7_verdictOf_6 (by decide) (fun _ => ?_) (fun c9 => absurd (by decide) c9)
  refine lv_iconst (v := 0) hx hb dX7_verdictOf_18 (by decide) ?_
  exact rc_iret (v := 0) hx hb hr hlocks hw [(h0, .inr (12, [.int 0, .ref h3, .ref h4, .ref h5, .ref h6, .ref h7, .int 1, .int 3, .int 50, .int (-1), .int (-1), .int (-1), .int (-1), .int 0, .int 100, .int 1000, .long 0])), (h1, .inl (E.2.1 0, 0, .inl f0))] (⟨rfl, rfl⟩) [0, 1] rfl (by decide) (Nat.le_of_ble_eq_true rfl) (Nat.le_of_ble_eq_true rfl) dX7_verdictOf_19
theorem hd_X7_verdictOf : yX7_verdictOf.cls ≠ "java/lang/invoke/MethodHandle" ∧ yX7_verdictOf.cls ≠ "java/lang/invoke/VarHandle" ∧ (parseMethodDescriptor yX7_verdictOf.desc).map (fun d => d.parameters.length) = some 2 := by decide +kernel
set_option maxHeartbeats 4000000 in
set_option maxRecDepth 100000 in
theorem cw_X7_verdictNow (l : Launch) (E : rc_E) (sz : Nat) (h0 : Nat) (h1 : Nat) (h2 : Nat) (h3 : Nat) (h4 : Nat) (h5 : Nat) : rc_Mi l yX7_verdictNow [Cond.code yX7_verdictNow cX7_verdictNow 4 (some FieldType.int)] { frames := 5, cells := 4, slots := 12, locals := 132 } E [.ref h0, .int 0, .int 0, .int 0] [(h0, .inr (12, [.int 0, .ref h1, .ref h2, .ref h3, .ref h4, .ref h5, .int 1, .int 3, .int 50, .int (-1), .int (-1), .int (-1), .int (-1), .int 0, .int 100, .int 1000, .long 0])), (h3, .inr (4, [.int 0, .ref (E.2.2 0), .int 0]))] sz (S := va_W) (fun (r : Int32) (u : va_W) => (0 = r ∧ u = [(h0, .inr (12, [.int 0, .ref h1, .ref h2, .ref h3, .ref h4, .ref h5, .int 1, .int 3, .int 50, .int (-1), .int (-1), .int (-1), .int (-1), .int 0, .int 100, .int 1000, .long 0])), (h3, .inr (4, [.int 0, .ref (E.2.2 0), .int 0]))])) (fun u => u) 4 12 := by
  refine rc_ini (cc := cX7_verdictNow) (maxL := 4) (ret := (some FieldType.int)) (by decide) rfl (Nat.le_of_ble_eq_true rfl) ?_
  intro p e s m args below meth c ls A hx hb hr hml _ hown hlocks hin hA hAm hw hl
  have hown : s.vm.findClass RX7 = some m.cls := hown
  have hl : lv_has ls 4 [(0, .ref h0), (1, .int 0), (2, .int 0), (3, .int 0)] := hl
  refine lv_iload_n hx hb dX7_verdictNow_0 rfl (lv_at hl 3 rfl) ?_
  refine lv_if_ne (tgt := 21) hx hb dX7_verdictNow_1 (by decide) (fun c9 => absurd (by decide) c9) (fun _ => ?_)
  refine lv_aload_n hx hb dX7_verdictNow_4 rfl (lv_at hl 0 rfl) ?_
  refine lv_aload_n hx hb dX7_verdictNow_5 rfl (lv_at hl 0 rfl) ?_
  refine lv_iload_n hx hb dX7_verdictNow_6 rfl (lv_at hl 1 rfl) ?_
  refine rc_callr (wr := []) (va_runV (As := [.int 0]) (rest := [.ref h0]) (Ts := []) ⟨hx, hb, hml, hown, fun _ h9 => absurd h9 List.not_mem_nil⟩ (cw_X7_sample_ l E _ h0 h1 h2 h3 h4 h5) (rc_cwV hAm qw_967 qw_13 qw_970 qw_969 qs_54 rfl rfl hd_X7_sample_ ⟨Nat.le_of_ble_eq_true rfl, Nat.le_of_ble_eq_true rfl⟩) (rc_preV hAm hA hw [0, 1] rfl rfl 0 rfl (q := vwCl[12]) rfl) rfl rfl hl.1 rfl (lv_room (Nat.le_of_ble_eq_true rfl)) dX7_verdictNow_7 ⟨Nat.le_of_ble_eq_true rfl, Nat.le_of_ble_eq_true rfl⟩) hA hw [0, 1] [] rfl rfl rfl (by decide) (fun u_2 r_1 H locs hp hw => ?_)
  obtain ⟨q1, rfl, rfl⟩ := hp
  have hw : rc_W E A s [(h0, .inr (12, [.int 0, .ref h1, .ref h2, .ref h3, .ref h4, .ref h5, .int 1, .int 3, .int 50, .int (-1), .int (-1), .int (-1), .int (-1), .int 0, .int 100, .int 1000, .long 0])), (h3, .inr (4, [.int 0, .ref (E.2.2 0), .int 0])), (q1, .inl (E.2.1 0, 0, .inl (va_cpy (fun _ => 0) (fun _ => 0) 6 0 0)))] H locs := hw
  refine lv_aload_n hx hb dX7_verdictNow_10 rfl (lv_at hl 0 rfl) ?_
  refine lv_iload_n hx hb dX7_verdictNow_11 rfl (lv_at hl 2 rfl) ?_
  refine rc_callr (wr := [(q1, .inl (E.2.1 0, 0, .inl (va_cpy (fun _ => 0) (fun _ => 0) 6 0 0)))]) (va_runV (As := [.int 0]) (rest := [.ref q1, .ref h0]) (Ts := []) ⟨hx, hb, hml, hown, fun _ h9 => absurd h9 List.not_mem_nil⟩ (cw_X7_sample_ l E _ h0 h1 h2 h3 h4 h5) (rc_cwV hAm qw_967 qw_13 qw_970 qw_969 qs_54 rfl rfl hd_X7_sample_ ⟨Nat.le_of_ble_eq_true rfl, Nat.le_of_ble_eq_true rfl⟩) (rc_preV hAm hA hw [0, 1] rfl rfl 0 rfl (q := vwCl[12]) rfl) rfl rfl hl.1 rfl (lv_room (Nat.le_of_ble_eq_true rfl)) dX7_verdictNow_12 ⟨Nat.le_of_ble_eq_true rfl, Nat.le_of_ble_eq_true rfl⟩) hA hw [0, 1] [2] rfl rfl rfl (by decide) (fun u_4 r_3 H locs hp hw => ?_)
  obtain ⟨q2, rfl, rfl⟩ := hp
  have hw : rc_W E A s [(q1, .inl (E.2.1 0, 0, .inl (va_cpy (fun _ => 0) (fun _ => 0) 6 0 0))), (h0, .inr (12, [.int 0, .ref h1, .ref h2, .ref h3, .ref h4, .ref h5, .int 1, .int 3, .int 50, .int (-1), .int (-1), .int (-1), .int (-1), .int 0, .int 100, .int 1000, .long 0])), (h3, .inr (4, [.int 0, .ref (E.2.2 0), .int 0])), (q2, .inl (E.2.1 0, 0, .inl (va_cpy (fun _ => 0) (fun _ => 0) 6 0 0)))] H locs := hw
  refine rc_calli (wr := [(h3, .inr (4, [.int 0, .ref (E.2.2 0), .int 0])), (q2, .inl (E.2.1 0, 0, .inl (va_cpy (fun _ => 0) (fun _ => 0) 6 0 0)))]) (va_runV (As := [.ref q1, .ref q2]) (rest := []) (Ts := []) ⟨hx, hb, hml, hown, fun _ h9 => absurd h9 List.not_mem_nil⟩ (cw_X7_verdictOf l E _ h0 q1 q2 h1 h2 h3 h4 h5 (va_cpy (fun _ => 0) (fun _ => 0) 6 0 0)) (rc_cwV hAm qw_1227 qw_13 qw_1230 qw_1229 qs_58 rfl rfl hd_X7_verdictOf ⟨Nat.le_of_ble_eq_true rfl, Nat.le_of_ble_eq_true rfl⟩) (rc_preV hAm hA hw [1, 0] rfl rfl 1 rfl (q := vwCl[12]) rfl) rfl rfl hl.1 rfl (lv_room (Nat.le_of_ble_eq_true rfl)) dX7_verdictNow_15 ⟨Nat.le_of_ble_eq_true rfl, Nat.le_of_ble_eq_true rfl⟩) hA hw [1, 0] [2, 3] rfl rfl rfl (by decide) (fun r_5 u_6 H locs hp hw => ?_)
  obtain ⟨rfl, rfl⟩ := hp
  have hw : rc_W E A s [(h3, .inr (4, [.int 0, .ref (E.2.2 0), .int 0])), (q2, .inl (E.2.1 0, 0, .inl (va_cpy (fun _ => 0) (fun _ => 0) 6 0 0))), (h0, .inr (12, [.int 0, .ref h1, .ref h2, .ref h3, .ref h4, .ref h5, .int 1, .int 3, .int 50, .int (-1), .int (-1), .int (-1), .int (-1), .int 0, .int 100, .int 1000, .long 0])), (q1, .inl (E.2.1 0, 0, .inl (va_cpy (fun _ => 0) (fun _ => 0) 6 0 0)))] H locs := hw
  refine lv_goto (tgt := 38) hx hb dX7_verdictNow_18 (by decide) ?_
  exact rc_iret (v := 0) hx hb hr hlocks hw [(h0, .inr (12, [.int 0, .ref h1, .ref h2, .ref h3, .ref h4, .ref h5, .int 1, .int 3, .int 50, .int (-1), .int (-1), .int (-1), .int (-1), .int 0, .int 100, .int 1000, .long 0])), (h3, .inr (4, [.int 0, .ref (E.2.2 0), .int 0]))] (⟨rfl, rfl⟩) [2, 0] rfl (by decide) (Nat.le_of_ble_eq_true rfl) (Nat.le_of_ble_eq_true rfl) dX7_verdictNow_38
theorem hd_X7_verdictNow : yX7_verdictNow.cls ≠ "java/lang/invoke/MethodHandle" ∧ yX7_verdictNow.cls ≠ "java/lang/invoke/VarHandle" ∧ (parseMethodDescriptor yX7_verdictNow.desc).map (fun d => d.parameters.length) = some 3 := by decide +kernel
set_option maxHeartbeats 4000000 in
set_option maxRecDepth 100000 in
theorem cw_J7_copyOf_59c91 (l : Launch) (E : rc_E) (sz : Nat) (h0 : Nat) (f0 : Nat → Int32) : rc_Mr l yJ7_copyOf_59c91 [Cond.code yJ7_copyOf_59c91 cJ7_copyOf_59c91 3 (some (FieldType.array FieldType.int))] { frames := 1, cells := 1, slots := 0, locals := 14 } E [.ref h0, .int 0] [(h0, .inl (E.2.1 0, 0, .inl f0))] sz (S := va_W) (fun (u : va_W) (r : Nat) => (∃ q1 : Nat, q1 = r ∧ u = [(h0, .inl (E.2.1 0, 0, .inl f0)), (q1, .inl (E.2.1 0, 0, .inl f0))])) (fun u => u) 1 0 := by
  refine rc_inr (cc := cJ7_copyOf_59c91) (maxL := 3) (ret := (some (FieldType.array FieldType.int))) (by decide) rfl (Nat.le_of_ble_eq_true rfl) ?_
  intro p e s m args below meth c ls A hx hb hr hml _ hown hlocks hin hA hAm hw hl
  have hown : s.vm.findClass RJ7 = some m.cls := hown
  have hl : lv_has ls 3 [(0, .ref h0), (1, .int 0)] := hl
  refine lv_iload_n hx hb dJ7_copyOf_59c91_0 rfl (lv_at hl 1 rfl) ?_
  refine lv_aload_n hx hb dJ7_copyOf_59c91_1 rfl (lv_at hl 0 rfl) ?_
  refine rc_alen hx hb hAm hw 0 0 rfl rfl 0 rfl dJ7_copyOf_59c91_2 ?_
  refine lv_icmp_ne (tgt := 14) hx hb dJ7_copyOf_59c91_3 (by decide) (fun c9 => absurd (by decide) c9) (fun _ => ?_)
  refine lv_aload_n hx hb dJ7_copyOf_59c91_6 rfl (lv_at hl 0 rfl) ?_
  refine rc_clone hx hb (by rw [hml]; exact hl.1.symm) hown hAm hA hw qw_1222 qw_1223 qw_1058 qw_1059 qw_1224 qw_1225 0 rfl (Nat.le_of_ble_eq_true rfl) (Nat.le_of_ble_eq_true rfl) (Nat.le_of_ble_eq_true rfl) (Nat.le_of_ble_eq_true rfl) dJ7_copyOf_59c91_7 (fun q1 H hw => ?_)
  have hw : rc_W E A s [(h0, .inl (E.2.1 0, 0, .inl f0)), (q1, .inl (E.2.1 0, 0, .inl f0))] H _ := hw
  refine rc_castI hx hb hown hAm hw qw_1226 1 rfl dJ7_copyOf_59c91_10 ?_
  exact rc_aret (v := q1) hx hb hr (by first | exact Or.inl ⟨_, rfl⟩ | exact Or.inr ⟨_, rfl⟩) hlocks hw [(h0, .inl (E.2.1 0, 0, .inl f0)), (q1, .inl (E.2.1 0, 0, .inl f0))] (⟨q1, rfl, rfl⟩) [0, 1] rfl (by decide) (Nat.le_of_ble_eq_true rfl) (Nat.le_of_ble_eq_true rfl) dJ7_copyOf_59c91_13
theorem hd_J7_copyOf_59c91 : yJ7_copyOf_59c91.cls ≠ "java/lang/invoke/MethodHandle" ∧ yJ7_copyOf_59c91.cls ≠ "java/lang/invoke/VarHandle" ∧ (parseMethodDescriptor yJ7_copyOf_59c91.desc).map (fun d => d.parameters.length) = some 2 := by decide +kernel
set_option maxHeartbeats 4000000 in
set_option maxRecDepth 100000 in
theorem cw_X7_ways (l : Launch) (E : rc_E) (sz : Nat) (h0 : Nat) (h1 : Nat) (f0 : Nat → Int32) : rc_Mr l yX7_ways [Cond.code yX7_ways cX7_ways 7 (some (FieldType.array FieldType.int))] { frames := 4, cells := 3, slots := 2, locals := 111 } E [.ref h0, .ref h1] [(h0, .inl (E.2.1 0, 0, .inl f0)), (h1, .inl (E.2.1 0, 0, .inl f0))] sz (S := va_W) (fun (u : va_W) (r : Nat) => (∃ q3 : Nat, q3 = r ∧ u = [(h0, .inl (E.2.1 0, 0, .inl f0)), (h1, .inl (E.2.1 0, 0, .inl f0)), (q3, .inl (E.2.1 0, 1, .inl (upd (fun _ => 0) 0 1)))])) (fun u => u) 3 2 := by
  refine rc_inr (cc := cX7_ways) (maxL := 7) (ret := (some (FieldType.array FieldType.int))) (by decide) rfl (Nat.le_of_ble_eq_true rfl) ?_
  intro p e s m args below meth c ls A hx hb hr hml _ hown hlocks hin hA hAm hw hl
  have hown : s.vm.findClass RX7 = some m.cls := hown
  have hl : lv_has ls 7 [(0, .ref h0), (1, .ref h1)] := hl
  refine lv_aload_n hx hb dX7_ways_0 rfl (lv_at hl 0 rfl) ?_
  refine lv_aload_n hx hb dX7_ways_1 rfl (lv_at hl 0 rfl) ?_
  refine rc_alen hx hb hAm hw 0 0 rfl rfl 0 rfl dX7_ways_2 ?_
  refine lv_aload_n hx hb dX7_ways_3 rfl (lv_at hl 1 rfl) ?_
  refine rc_alen hx hb hAm hw 1 0 rfl rfl 0 rfl dX7_ways_4 ?_
  refine lv_iadd hx hb dX7_ways_5 ?_
  refine rc_topi 0 (by decide) ?_
  refine rc_callr (wr := [(h1, .inl (E.2.1 0, 0, .inl f0))]) (va_runS (As := [.ref h0, .int 0]) (rest := []) (Ts := []) ⟨hx, hb, hml, hown, fun _ h9 => absurd h9 List.not_mem_nil⟩ (cw_J7_copyOf_59c91 l E _ h0 f0) (rc_cwS hAm qw_1237 qw_11 qw_1239 qw_1238 rfl rfl hd_J7_copyOf_59c91 ⟨Nat.le_of_ble_eq_true rfl, Nat.le_of_ble_eq_true rfl⟩) (rc_preS hAm hA hw [0] rfl rfl) rfl rfl hl.1 rfl (lv_room (Nat.le_of_ble_eq_true rfl)) dX7_ways_6 ⟨Nat.le_of_ble_eq_true rfl, Nat.le_of_ble_eq_true rfl⟩) hA hw [0] [1] rfl rfl rfl (by decide) (fun u_2 r_1 H locs hp hw => ?_)
  obtain ⟨q1, rfl, rfl⟩ := hp
  have hw : rc_W E A s [(h1, .inl (E.2.1 0, 0, .inl f0)), (h0, .inl (E.2.1 0, 0, .inl f0)), (q1, .inl (E.2.1 0, 0, .inl f0))] H locs := hw
  refine lv_astore_n (lv' := [(2, .ref q1), (0, .ref h0), (1, .ref h1)]) hx hb dX7_ways_9 rfl hl (by decide) rfl (fun ls hl => ?_)
  refine lv_aload_n hx hb dX7_ways_10 rfl (lv_at hl 2 rfl) ?_
  refine lv_iconst (v := 0) hx hb dX7_ways_11 (by decide) ?_
  refine lv_aload_n hx hb dX7_ways_12 rfl (lv_at hl 0 rfl) ?_
  refine lv_aload_n hx hb dX7_ways_13 rfl (lv_at hl 1 rfl) ?_
  refine rc_alen hx hb hAm hw 1 0 rfl rfl 0 rfl dX7_ways_14 ?_
  refine lv_aload_n hx hb dX7_ways_15 rfl (lv_at hl 2 rfl) ?_
  refine rc_alen hx hb hAm hw 0 0 rfl rfl 0 rfl dX7_ways_16 ?_
  refine va_copyi (sp := 0) (dp := 0) (n := 0) hx hb (by rw [hml]; exact hl.1.symm) hown (hAm.wd qw_1240 rfl rfl) (hAm.wd qw_239 rfl rfl) (hAm.wd qw_238 rfl rfl) (hAm.wd qw_12 rfl rfl) hAm.K hw.1 hw.2.1 hw.2.2 0 2 0 0 rfl rfl rfl rfl rfl (by decide) (by decide) (by decide) (by decide) (by decide) (fun i hi => absurd hi (by exact Nat.not_lt_zero i)) (Nat.le_of_ble_eq_true rfl) (Nat.le_of_ble_eq_true rfl) dX7_ways_17 (fun H locs hP hD hS => ?_)
  have hw : rc_W E A s [(h1, .inl (E.2.1 0, 0, .inl f0)), (h0, .inl (E.2.1 0, 0, .inl f0)), (q1, .inl (E.2.1 0, 0, .inl (va_cpy f0 f0 0 0 0)))] H locs := ⟨hP, hD, hS⟩
  refine lv_aload_n hx hb dX7_ways_20 rfl (lv_at hl 0 rfl) ?_
  refine rc_callv (wr := [(h1, .inl (E.2.1 0, 0, .inl f0)), (h0, .inl (E.2.1 0, 0, .inl f0))]) (va_runS (As := [.ref q1]) (rest := []) (Ts := []) ⟨hx, hb, hml, hown, fun _ h9 => absurd h9 List.not_mem_nil⟩ (cw_J7_sort_2022b l E _ q1 (va_cpy f0 f0 0 0 0)) (rc_cwS hAm qw_1241 qw_11 qw_1243 qw_1242 rfl rfl hd_J7_sort_2022b ⟨Nat.le_of_ble_eq_true rfl, Nat.le_of_ble_eq_true rfl⟩) (rc_preS hAm hA hw [2] rfl rfl) rfl rfl hl.1 rfl (lv_room (Nat.le_of_ble_eq_true rfl)) dX7_ways_21 ⟨Nat.le_of_ble_eq_true rfl, Nat.le_of_ble_eq_true rfl⟩) hA hw [2] [0, 1] rfl rfl rfl (by decide) (fun u_4 H locs hp hw => ?_)
  obtain ⟨rfl⟩ := hp
  have hw : rc_W E A s [(h1, .inl (E.2.1 0, 0, .inl f0)), (h0, .inl (E.2.1 0, 0, .inl f0)), (q1, .inl (E.2.1 0, 0, .inl (va_cpy f0 f0 0 0 0)))] H locs := hw
  refine lv_iconst (v := 2) hx hb dX7_ways_24 (by decide) ?_
  refine lv_aload_n hx hb dX7_ways_25 rfl (lv_at hl 1 rfl) ?_
  refine rc_alen hx hb hAm hw 1 0 rfl rfl 0 rfl dX7_ways_26 ?_
  refine lv_imul hx hb dX7_ways_27 ?_
  refine rc_topi 0 (by decide) ?_
  refine lv_aload_n hx hb dX7_ways_28 rfl (lv_at hl 2 rfl) ?_
  refine rc_alen hx hb hAm hw 0 0 rfl rfl 0 rfl dX7_ways_29 ?_
  refine lv_imul hx hb dX7_ways_30 ?_
  refine rc_topi 0 (by decide) ?_
  refine lv_iconst (v := 1) hx hb dX7_ways_31 (by decide) ?_
  refine lv_iadd hx hb dX7_ways_32 ?_
  refine rc_topi 1 (by decide) ?_
  refine lv_istore_n (lv' := [(3, .int 1), (2, .ref q1), (0, .ref h0), (1, .ref h1)]) hx hb dX7_ways_33 rfl hl (by decide) rfl (fun ls hl => ?_)
  refine lv_aload_n hx hb dX7_ways_34 rfl (lv_at hl 2 rfl) ?_
  refine rc_alen hx hb hAm hw 1 0 rfl rfl 0 rfl dX7_ways_35 ?_
  refine lv_iconst (v := 1) hx hb dX7_ways_36 (by decide) ?_
  refine lv_iadd hx hb dX7_ways_37 ?_
  refine rc_topi 1 (by decide) ?_
  refine lv_iload_n hx hb dX7_ways_38 rfl (lv_at hl 0 rfl) ?_
  refine rc_mna1 hx hb hown hAm hA hw qw_1273 qw_118 qw_108 1 (by decide) (by decide) (Nat.le_of_ble_eq_true rfl) (Nat.le_of_ble_eq_true rfl) (Nat.le_of_ble_eq_true rfl) (Nat.le_of_ble_eq_true rfl) dX7_ways_39 (fun q2 q3 H hw => ?_)
  have hw : rc_W E A s [(h1, .inl (E.2.1 0, 0, .inl f0)), (h0, .inl (E.2.1 0, 0, .inl f0)), (q1, .inl (E.2.1 0, 0, .inl (va_cpy f0 f0 0 0 0))), (q2, .inl (E.2.1 1, 1, .inr (.inr (.inr (.inr (rc_rows [q3])))))), (q3, .inl (E.2.1 0, 1, .inl (fun _ => 0)))] H _ := hw
  refine lv_astore (lv' := [(4, .ref q2), (3, .int 1), (2, .ref q1), (0, .ref h0), (1, .ref h1)]) hx hb dX7_ways_43 hl (by decide) rfl (fun ls hl => ?_)
  refine lv_aload hx hb dX7_ways_45 (lv_at hl 0 rfl) ?_
  refine lv_iconst (v := 0) hx hb dX7_ways_47 (by decide) ?_
  refine rc_rald hx hb hAm hw 3 rfl (vp_in_iff.mpr (by decide)) dX7_ways_48 ?_
  refine rc_topv (.ref q3) rfl ?_
  refine lv_iconst (v := 0) hx hb dX7_ways_49 (by decide) ?_
  refine lv_iconst (v := 1) hx hb dX7_ways_50 (by decide) ?_
  refine rc_iast hx hb hAm hw 4 rfl (vp_in_iff.mpr (by decide)) [(h1, .inl (E.2.1 0, 0, .inl f0)), (h0, .inl (E.2.1 0, 0, .inl f0)), (q1, .inl (E.2.1 0, 0, .inl (va_cpy f0 f0 0 0 0))), (q2, .inl (E.2.1 1, 1, .inr (.inr (.inr (.inr (rc_rows [q3])))))), (q3, .inl (E.2.1 0, 1, .inl (upd (fun _ => 0) 0 1)))] rfl dX7_ways_51 (fun H locs hw => ?_)
  refine lv_iconst (v := 0) hx hb dX7_ways_52 (by decide) ?_
  refine lv_istore (lv' := [(5, .int 0), (4, .ref q2), (3, .int 1), (2, .ref q1), (0, .ref h0), (1, .ref h1)]) hx hb dX7_ways_53 hl (by decide) rfl (fun ls hl => ?_)
  refine lv_iload hx hb dX7_ways_55 (lv_at hl 0 rfl) ?_
  refine lv_aload_n hx hb dX7_ways_57 rfl (lv_at hl 3 rfl) ?_
  refine rc_alen hx hb hAm hw 2 0 rfl rfl 0 rfl dX7_ways_58 ?_
  refine lv_icmp_ge (tgt := 114) hx hb dX7_ways_59 (by decide) (fun _ => ?_) (fun c9 => absurd (by decide) c9)
  refine lv_aload hx hb dX7_ways_114 (lv_at hl 1 rfl) ?_
  refine lv_aload_n hx hb dX7_ways_116 rfl (lv_at hl 4 rfl) ?_
  refine rc_alen hx hb hAm hw 1 0 rfl rfl 0 rfl dX7_ways_117 ?_
  refine rc_rald hx hb hAm hw 3 rfl (vp_in_iff.mpr (by decide)) dX7_ways_118 ?_
  refine rc_topv (.ref q3) rfl ?_
  exact rc_aret (v := q3) hx hb hr (by first | exact Or.inl ⟨_, rfl⟩ | exact Or.inr ⟨_, rfl⟩) hlocks hw [(h0, .inl (E.2.1 0, 0, .inl f0)), (h1, .inl (E.2.1 0, 0, .inl f0)), (q3, .inl (E.2.1 0, 1, .inl (upd (fun _ => 0) 0 1)))] (⟨q3, rfl, rfl⟩) [1, 0, 4] rfl (by decide) (Nat.le_of_ble_eq_true rfl) (Nat.le_of_ble_eq_true rfl) dX7_ways_119
theorem hd_X7_ways : yX7_ways.cls ≠ "java/lang/invoke/MethodHandle" ∧ yX7_ways.cls ≠ "java/lang/invoke/VarHandle" ∧ (parseMethodDescriptor yX7_ways.desc).map (fun d => d.parameters.length) = some 2 := by decide +kernel
set_option maxHeartbeats 4000000 in
set_option maxRecDepth 100000 in
theorem cw_X7_score (l : Launch) (E : rc_E) (sz : Nat) (h0 : Nat) (h1 : Nat) (f0 : Nat → Int32) : rc_Mi l yX7_score [Cond.code yX7_score cX7_score 11 (some FieldType.int)] { frames := 0, cells := 0, slots := 0, locals := 0 } E [.ref h0, .ref h1] [(h0, .inl (E.2.1 0, 0, .inl f0))] sz (S := va_W) (fun (r : Int32) (u : va_W) => (0 = r ∧ u = [(h0, .inl (E.2.1 0, 0, .inl f0))])) (fun u => u) 0 0 := by
  refine rc_ini (cc := cX7_score) (maxL := 11) (ret := (some FieldType.int)) (by decide) rfl (Nat.le_of_ble_eq_true rfl) ?_
  intro p e s m args below meth c ls A hx hb hr hml _ hown hlocks hin hA hAm hw hl
  have hown : s.vm.findClass RX7 = some m.cls := hown
  have hl : lv_has ls 11 [(0, .ref h0), (1, .ref h1)] := hl
  refine lv_iconst (v := 0) hx hb dX7_score_0 (by decide) ?_
  refine lv_istore_n (lv' := [(2, .int 0), (0, .ref h0), (1, .ref h1)]) hx hb dX7_score_1 rfl hl (by decide) rfl (fun ls hl => ?_)
  refine lv_aload_n hx hb dX7_score_2 rfl (lv_at hl 1 rfl) ?_
  refine lv_astore_n (lv' := [(3, .ref h0), (2, .int 0), (0, .ref h0), (1, .ref h1)]) hx hb dX7_score_3 rfl hl (by decide) rfl (fun ls hl => ?_)
  refine lv_aload_n hx hb dX7_score_4 rfl (lv_at hl 0 rfl) ?_
  refine rc_alen hx hb hAm hw 0 0 rfl rfl 0 rfl dX7_score_5 ?_
  refine lv_istore (lv' := [(4, .int 0), (3, .ref h0), (2, .int 0), (0, .ref h0), (1, .ref h1)]) hx hb dX7_score_6 hl (by decide) rfl (fun ls hl => ?_)
  refine lv_iconst (v := 0) hx hb dX7_score_8 (by decide) ?_
  refine lv_istore (lv' := [(5, .int 0), (4, .int 0), (3, .ref h0), (2, .int 0), (0, .ref h0), (1, .ref h1)]) hx hb dX7_score_9 hl (by decide) rfl (fun ls hl => ?_)
  refine lv_iload hx hb dX7_score_11 (lv_at hl 0 rfl) ?_
  refine lv_iload hx hb dX7_score_13 (lv_at hl 1 rfl) ?_
  refine lv_icmp_ge (tgt := 87) hx hb dX7_score_15 (by decide) (fun _ => ?_) (fun c9 => absurd (by decide) c9)
  refine lv_iload_n hx hb dX7_score_87 rfl (lv_at hl 3 rfl) ?_
  exact rc_iret (v := 0) hx hb hr hlocks hw [(h0, .inl (E.2.1 0, 0, .inl f0))] (⟨rfl, rfl⟩) [0] rfl (by decide) (Nat.le_of_ble_eq_true rfl) (Nat.le_of_ble_eq_true rfl) dX7_score_88
theorem hd_X7_score : yX7_score.cls ≠ "java/lang/invoke/MethodHandle" ∧ yX7_score.cls ≠ "java/lang/invoke/VarHandle" ∧ (parseMethodDescriptor yX7_score.desc).map (fun d => d.parameters.length) = some 2 := by decide +kernel
set_option maxHeartbeats 4000000 in
set_option maxRecDepth 100000 in
theorem cw_X7_reckoned (l : Launch) (E : rc_E) (sz : Nat) (h0 : Nat) (h1 : Nat) (f0 : Nat → Int32) : rc_Mr l yX7_reckoned [Cond.code yX7_reckoned cX7_reckoned 6 (some (FieldType.array FieldType.int))] { frames := 5, cells := 4, slots := 6, locals := 137 } E [.ref h0, .ref h1] [(h0, .inl (E.2.1 0, 0, .inl f0)), (h1, .inl (E.2.1 0, 0, .inl f0))] sz (S := va_W) (fun (u : va_W) (r : Nat) => (∃ q2 : Nat, q2 = r ∧ u = [(h0, .inl (E.2.1 0, 0, .inl f0)), (h1, .inl (E.2.1 0, 0, .inl f0)), (q2, .inl (E.2.1 0, 4, .inl (upd (upd (upd (upd (upd (upd (upd (fun _ => 0) 0 0) 1 0) 2 0) 3 0) 1 1) 2 1) 3 1)))])) (fun u => u) 4 6 := by
  refine rc_inr (cc := cX7_reckoned) (maxL := 6) (ret := (some (FieldType.array FieldType.int))) (by decide) rfl (Nat.le_of_ble_eq_true rfl) ?_
  intro p e s m args below meth c ls A hx hb hr hml _ hown hlocks hin hA hAm hw hl
  have hown : s.vm.findClass RX7 = some m.cls := hown
  have hl : lv_has ls 6 [(0, .ref h0), (1, .ref h1)] := hl
  refine lv_aload_n hx hb dX7_reckoned_0 rfl (lv_at hl 0 rfl) ?_
  refine lv_aload_n hx hb dX7_reckoned_1 rfl (lv_at hl 1 rfl) ?_
  refine rc_callr (wr := []) (va_runS (As := [.ref h0, .ref h1]) (rest := []) (Ts := []) ⟨hx, hb, hml, hown, fun _ h9 => absurd h9 List.not_mem_nil⟩ (cw_X7_ways l E _ h0 h1 f0) (rc_cwS hAm qw_1234 qw_13 qw_1236 qw_1235 rfl rfl hd_X7_ways ⟨Nat.le_of_ble_eq_true rfl, Nat.le_of_ble_eq_true rfl⟩) (rc_preS hAm hA hw [0, 1] rfl rfl) rfl rfl hl.1 rfl (lv_room (Nat.le_of_ble_eq_true rfl)) dX7_reckoned_2 ⟨Nat.le_of_ble_eq_true rfl, Nat.le_of_ble_eq_true rfl⟩) hA hw [0, 1] [] rfl rfl rfl (by decide) (fun u_2 r_1 H locs hp hw => ?_)
  obtain ⟨q1, rfl, rfl⟩ := hp
  have hw : rc_W E A s [(h0, .inl (E.2.1 0, 0, .inl f0)), (h1, .inl (E.2.1 0, 0, .inl f0)), (q1, .inl (E.2.1 0, 1, .inl (upd (fun _ => 0) 0 1)))] H locs := hw
  refine lv_astore_n (lv' := [(2, .ref q1), (0, .ref h0), (1, .ref h1)]) hx hb dX7_reckoned_5 rfl hl (by decide) rfl (fun ls hl => ?_)
  refine lv_aload_n hx hb dX7_reckoned_6 rfl (lv_at hl 1 rfl) ?_
  refine lv_aload_n hx hb dX7_reckoned_7 rfl (lv_at hl 2 rfl) ?_
  refine rc_calli (wr := [(h1, .inl (E.2.1 0, 0, .inl f0)), (q1, .inl (E.2.1 0, 1, .inl (upd (fun _ => 0) 0 1)))]) (va_runS (As := [.ref h0, .ref h1]) (rest := []) (Ts := []) ⟨hx, hb, hml, hown, fun _ h9 => absurd h9 List.not_mem_nil⟩ (cw_X7_score l E _ h0 h1 f0) (rc_cwS hAm qw_1280 qw_13 qw_1282 qw_1281 rfl rfl hd_X7_score ⟨Nat.le_of_ble_eq_true rfl, Nat.le_of_ble_eq_true rfl⟩) (rc_preS hAm hA hw [0] rfl rfl) rfl rfl hl.1 rfl (lv_room (Nat.le_of_ble_eq_true rfl)) dX7_reckoned_8 ⟨Nat.le_of_ble_eq_true rfl, Nat.le_of_ble_eq_true rfl⟩) hA hw [0] [1, 2] rfl rfl rfl (by decide) (fun r_3 u_4 H locs hp hw => ?_)
  obtain ⟨rfl, rfl⟩ := hp
  have hw : rc_W E A s [(h1, .inl (E.2.1 0, 0, .inl f0)), (q1, .inl (E.2.1 0, 1, .inl (upd (fun _ => 0) 0 1))), (h0, .inl (E.2.1 0, 0, .inl f0))] H locs := hw
  refine lv_istore_n (lv' := [(3, .int 0), (2, .ref q1), (0, .ref h0), (1, .ref h1)]) hx hb dX7_reckoned_11 rfl hl (by decide) rfl (fun ls hl => ?_)
  refine lv_iconst (v := 4) hx hb dX7_reckoned_12 (by decide) ?_
  refine rc_inew hx hb hAm hA hw qw_108 4 (by decide) (by decide) (Nat.le_of_ble_eq_true rfl) (Nat.le_of_ble_eq_true rfl) (Nat.le_of_ble_eq_true rfl) dX7_reckoned_13 (fun q2 H hw => ?_)
  have hw : rc_W E A s [(h1, .inl (E.2.1 0, 0, .inl f0)), (q1, .inl (E.2.1 0, 1, .inl (upd (fun _ => 0) 0 1))), (h0, .inl (E.2.1 0, 0, .inl f0)), (q2, .inl (E.2.1 0, 4, .inl (fun _ => 0)))] H _ := hw
  refine lv_dup hx hb dX7_reckoned_15 rfl ?_
  refine lv_iconst (v := 0) hx hb dX7_reckoned_16 (by decide) ?_
  refine lv_iload_n hx hb dX7_reckoned_17 rfl (lv_at hl 0 rfl) ?_
  refine rc_iast hx hb hAm hw 3 rfl (vp_in_iff.mpr (by decide)) [(h1, .inl (E.2.1 0, 0, .inl f0)), (q1, .inl (E.2.1 0, 1, .inl (upd (fun _ => 0) 0 1))), (h0, .inl (E.2.1 0, 0, .inl f0)), (q2, .inl (E.2.1 0, 4, .inl (upd (fun _ => 0) 0 0)))] rfl dX7_reckoned_18 (fun H locs hw => ?_)
  refine lv_dup hx hb dX7_reckoned_19 rfl ?_
  refine lv_iconst (v := 1) hx hb dX7_reckoned_20 (by decide) ?_
  refine lv_iconst (v := 0) hx hb dX7_reckoned_21 (by decide) ?_
  refine rc_iast hx hb hAm hw 3 rfl (vp_in_iff.mpr (by decide)) [(h1, .inl (E.2.1 0, 0, .inl f0)), (q1, .inl (E.2.1 0, 1, .inl (upd (fun _ => 0) 0 1))), (h0, .inl (E.2.1 0, 0, .inl f0)), (q2, .inl (E.2.1 0, 4, .inl (upd (upd (fun _ => 0) 0 0) 1 0)))] rfl dX7_reckoned_22 (fun H locs hw => ?_)
  refine lv_dup hx hb dX7_reckoned_23 rfl ?_
  refine lv_iconst (v := 2) hx hb dX7_reckoned_24 (by decide) ?_
  refine lv_iconst (v := 0) hx hb dX7_reckoned_25 (by decide) ?_
  refine rc_iast hx hb hAm hw 3 rfl (vp_in_iff.mpr (by decide)) [(h1, .inl (E.2.1 0, 0, .inl f0)), (q1, .inl (E.2.1 0, 1, .inl (upd (fun _ => 0) 0 1))), (h0, .inl (E.2.1 0, 0, .inl f0)), (q2, .inl (E.2.1 0, 4, .inl (upd (upd (upd (fun _ => 0) 0 0) 1 0) 2 0)))] rfl dX7_reckoned_26 (fun H locs hw => ?_)
  refine lv_dup hx hb dX7_reckoned_27 rfl ?_
  refine lv_iconst (v := 3) hx hb dX7_reckoned_28 (by decide) ?_
  refine lv_iconst (v := 0) hx hb dX7_reckoned_29 (by decide) ?_
  refine rc_iast hx hb hAm hw 3 rfl (vp_in_iff.mpr (by decide)) [(h1, .inl (E.2.1 0, 0, .inl f0)), (q1, .inl (E.2.1 0, 1, .inl (upd (fun _ => 0) 0 1))), (h0, .inl (E.2.1 0, 0, .inl f0)), (q2, .inl (E.2.1 0, 4, .inl (upd (upd (upd (upd (fun _ => 0) 0 0) 1 0) 2 0) 3 0)))] rfl dX7_reckoned_30 (fun H locs hw => ?_)
  refine lv_astore (lv' := [(4, .ref q2), (3, .int 0), (2, .ref q1), (0, .ref h0), (1, .ref h1)]) hx hb dX7_reckoned_31 hl (by decide) rfl (fun ls hl => ?_)
  refine lv_iconst (v := 0) hx hb dX7_reckoned_33 (by decide) ?_
  refine lv_istore (lv' := [(5, .int 0), (4, .ref q2), (3, .int 0), (2, .ref q1), (0, .ref h0), (1, .ref h1)]) hx hb dX7_reckoned_34 hl (by decide) rfl (fun ls hl => ?_)
  refine lv_iload hx hb dX7_reckoned_36 (lv_at hl 0 rfl) ?_
  refine lv_aload_n hx hb dX7_reckoned_38 rfl (lv_at hl 3 rfl) ?_
  refine rc_alen hx hb hAm hw 1 0 rfl rfl 1 rfl dX7_reckoned_39 ?_
  refine lv_icmp_ge (tgt := 102) hx hb dX7_reckoned_40 (by decide) (fun c9 => absurd c9 (by decide)) (fun _ => ?_)
  refine lv_aload hx hb dX7_reckoned_43 (lv_at hl 1 rfl) ?_
  refine lv_iconst (v := 1) hx hb dX7_reckoned_45 (by decide) ?_
  refine lv_dup2_11 hx hb dX7_reckoned_46 rfl rfl ?_
  refine rc_iald hx hb hAm hw 3 rfl (vp_in_iff.mpr (by decide)) dX7_reckoned_47 ?_
  refine rc_topi 0 rfl ?_
  refine lv_iload hx hb dX7_reckoned_48 (lv_at hl 0 rfl) ?_
  refine lv_iload_n hx hb dX7_reckoned_50 rfl (lv_at hl 2 rfl) ?_
  refine lv_icmp_lt (tgt := 61) hx hb dX7_reckoned_51 (by decide) (fun c9 => absurd c9 (by decide)) (fun _ => ?_)
  refine lv_aload_n hx hb dX7_reckoned_54 rfl (lv_at hl 3 rfl) ?_
  refine lv_iload hx hb dX7_reckoned_55 (lv_at hl 0 rfl) ?_
  refine rc_iald hx hb hAm hw 1 rfl (vp_in_iff.mpr (by decide)) dX7_reckoned_57 ?_
  refine rc_topi 1 rfl ?_
  refine lv_goto (tgt := 62) hx hb dX7_reckoned_58 (by decide) ?_
  refine lv_iadd hx hb dX7_reckoned_62 ?_
  refine rc_topi 1 (by decide) ?_
  refine rc_iast hx hb hAm hw 3 rfl (vp_in_iff.mpr (by decide)) [(h1, .inl (E.2.1 0, 0, .inl f0)), (q1, .inl (E.2.1 0, 1, .inl (upd (fun _ => 0) 0 1))), (h0, .inl (E.2.1 0, 0, .inl f0)), (q2, .inl (E.2.1 0, 4, .inl (upd (upd (upd (upd (upd (fun _ => 0) 0 0) 1 0) 2 0) 3 0) 1 1)))] rfl dX7_reckoned_63 (fun H locs hw => ?_)
  refine lv_aload hx hb dX7_reckoned_64 (lv_at hl 1 rfl) ?_
  refine lv_iconst (v := 2) hx hb dX7_reckoned_66 (by decide) ?_
  refine lv_dup2_11 hx hb dX7_reckoned_67 rfl rfl ?_
  refine rc_iald hx hb hAm hw 3 rfl (vp_in_iff.mpr (by decide)) dX7_reckoned_68 ?_
  refine rc_topi 0 rfl ?_
  refine lv_iload hx hb dX7_reckoned_69 (lv_at hl 0 rfl) ?_
  refine lv_iload_n hx hb dX7_reckoned_71 rfl (lv_at hl 2 rfl) ?_
  refine lv_icmp_gt (tgt := 82) hx hb dX7_reckoned_72 (by decide) (fun c9 => absurd c9 (by decide)) (fun _ => ?_)
  refine lv_aload_n hx hb dX7_reckoned_75 rfl (lv_at hl 3 rfl) ?_
  refine lv_iload hx hb dX7_reckoned_76 (lv_at hl 0 rfl) ?_
  refine rc_iald hx hb hAm hw 1 rfl (vp_in_iff.mpr (by decide)) dX7_reckoned_78 ?_
  refine rc_topi 1 rfl ?_
  refine lv_goto (tgt := 83) hx hb dX7_reckoned_79 (by decide) ?_
  refine lv_iadd hx hb dX7_reckoned_83 ?_
  refine rc_topi 1 (by decide) ?_
  refine rc_iast hx hb hAm hw 3 rfl (vp_in_iff.mpr (by decide)) [(h1, .inl (E.2.1 0, 0, .inl f0)), (q1, .inl (E.2.1 0, 1, .inl (upd (fun _ => 0) 0 1))), (h0, .inl (E.2.1 0, 0, .inl f0)), (q2, .inl (E.2.1 0, 4, .inl (upd (upd (upd (upd (upd (upd (fun _ => 0) 0 0) 1 0) 2 0) 3 0) 1 1) 2 1)))] rfl dX7_reckoned_84 (fun H locs hw => ?_)
  refine lv_aload hx hb dX7_reckoned_85 (lv_at hl 1 rfl) ?_
  refine lv_iconst (v := 3) hx hb dX7_reckoned_87 (by decide) ?_
  refine lv_dup2_11 hx hb dX7_reckoned_88 rfl rfl ?_
  refine rc_iald hx hb hAm hw 3 rfl (vp_in_iff.mpr (by decide)) dX7_reckoned_89 ?_
  refine rc_topi 0 rfl ?_
  refine lv_aload_n hx hb dX7_reckoned_90 rfl (lv_at hl 3 rfl) ?_
  refine lv_iload hx hb dX7_reckoned_91 (lv_at hl 0 rfl) ?_
  refine rc_iald hx hb hAm hw 1 rfl (vp_in_iff.mpr (by decide)) dX7_reckoned_93 ?_
  refine rc_topi 1 rfl ?_
  refine lv_iadd hx hb dX7_reckoned_94 ?_
  refine rc_topi 1 (by decide) ?_
  refine rc_iast hx hb hAm hw 3 rfl (vp_in_iff.mpr (by decide)) [(h1, .inl (E.2.1 0, 0, .inl f0)), (q1, .inl (E.2.1 0, 1, .inl (upd (fun _ => 0) 0 1))), (h0, .inl (E.2.1 0, 0, .inl f0)), (q2, .inl (E.2.1 0, 4, .inl (upd (upd (upd (upd (upd (upd (upd (fun _ => 0) 0 0) 1 0) 2 0) 3 0) 1 1) 2 1) 3 1)))] rfl dX7_reckoned_95 (fun H locs hw => ?_)
  refine lv_iinc (v := 1) (lv' := [(5, .int 1), (4, .ref q2), (3, .int 0), (2, .ref q1), (0, .ref h0), (1, .ref h1)]) hx hb dX7_reckoned_96 hl (k := 0) rfl (by decide) (by decide) rfl (fun ls hl => ?_)
  refine lv_goto (tgt := 36) hx hb dX7_reckoned_99 (by decide) ?_
  refine lv_iload hx hb dX7_reckoned_36 (lv_at hl 0 rfl) ?_
  refine lv_aload_n hx hb dX7_reckoned_38 rfl (lv_at hl 3 rfl) ?_
  refine rc_alen hx hb hAm hw 1 0 rfl rfl 1 rfl dX7_reckoned_39 ?_
  refine lv_icmp_ge (tgt := 102) hx hb dX7_reckoned_40 (by decide) (fun _ => ?_) (fun c9 => absurd (by decide) c9)
  refine lv_aload hx hb dX7_reckoned_102 (lv_at hl 1 rfl) ?_
  exact rc_aret (v := q2) hx hb hr (by first | exact Or.inl ⟨_, rfl⟩ | exact Or.inr ⟨_, rfl⟩) hlocks hw [(h0, .inl (E.2.1 0, 0, .inl f0)), (h1, .inl (E.2.1 0, 0, .inl f0)), (q2, .inl (E.2.1 0, 4, .inl (upd (upd (upd (upd (upd (upd (upd (fun _ => 0) 0 0) 1 0) 2 0) 3 0) 1 1) 2 1) 3 1)))] (⟨q2, rfl, rfl⟩) [2, 0, 3] rfl (by decide) (Nat.le_of_ble_eq_true rfl) (Nat.le_of_ble_eq_true rfl) dX7_reckoned_104
theorem hd_X7_reckoned : yX7_reckoned.cls ≠ "java/lang/invoke/MethodHandle" ∧ yX7_reckoned.cls ≠ "java/lang/invoke/VarHandle" ∧ (parseMethodDescriptor yX7_reckoned.desc).map (fun d => d.parameters.length) = some 2 := by decide +kernel
set_option maxHeartbeats 4000000 in
set_option maxRecDepth 100000 in
theorem cw_X7_verdictNow_2 (l : Launch) (E : rc_E) (sz : Nat) (h0 : Nat) (h1 : Nat) (h2 : Nat) (h3 : Nat) (h4 : Nat) (h5 : Nat) : rc_Mi l yX7_verdictNow [Cond.code yX7_verdictNow cX7_verdictNow 4 (some FieldType.int)] { frames := 6, cells := 8, slots := 18, locals := 162 } E [.ref h0, .int 0, .int 0, .int 1] [(h0, .inr (12, [.int 0, .ref h1, .ref h2, .ref h3, .ref h4, .ref h5, .int 1, .int 3, .int 50, .int (-1), .int (-1), .int (-1), .int (-1), .int 0, .int 100, .int 1000, .long 0])), (h3, .inr (4, [.int 0, .ref (E.2.2 0), .int 0]))] sz (S := va_W) (fun (r : Int32) (u : va_W) => (0 = r ∧ u = [(h0, .inr (12, [.int 0, .ref h1, .ref h2, .ref h3, .ref h4, .ref h5, .int 1, .int 3, .int 50, .int (-1), .int (-1), .int (-1), .int (-1), .int 0, .int 100, .int 1000, .long 0])), (h3, .inr (4, [.int 0, .ref (E.2.2 0), .int 0]))])) (fun u => u) 8 18 := by
  refine rc_ini (cc := cX7_verdictNow) (maxL := 4) (ret := (some FieldType.int)) (by decide) rfl (Nat.le_of_ble_eq_true rfl) ?_
  intro p e s m args below meth c ls A hx hb hr hml _ hown hlocks hin hA hAm hw hl
  have hown : s.vm.findClass RX7 = some m.cls := hown
  have hl : lv_has ls 4 [(0, .ref h0), (1, .int 0), (2, .int 0), (3, .int 1)] := hl
  refine lv_iload_n hx hb dX7_verdictNow_0 rfl (lv_at hl 3 rfl) ?_
  refine lv_if_ne (tgt := 21) hx hb dX7_verdictNow_1 (by decide) (fun _ => ?_) (fun c9 => absurd c9 (by decide))
  refine lv_aload_n hx hb dX7_verdictNow_21 rfl (lv_at hl 0 rfl) ?_
  refine lv_iload_n hx hb dX7_verdictNow_22 rfl (lv_at hl 1 rfl) ?_
  refine rc_callr (wr := []) (va_runV (As := [.int 0]) (rest := []) (Ts := []) ⟨hx, hb, hml, hown, fun _ h9 => absurd h9 List.not_mem_nil⟩ (cw_X7_sample_ l E _ h0 h1 h2 h3 h4 h5) (rc_cwV hAm qw_967 qw_13 qw_970 qw_969 qs_54 rfl rfl hd_X7_sample_ ⟨Nat.le_of_ble_eq_true rfl, Nat.le_of_ble_eq_true rfl⟩) (rc_preV hAm hA hw [0, 1] rfl rfl 0 rfl (q := vwCl[12]) rfl) rfl rfl hl.1 rfl (lv_room (Nat.le_of_ble_eq_true rfl)) dX7_verdictNow_23 ⟨Nat.le_of_ble_eq_true rfl, Nat.le_of_ble_eq_true rfl⟩) hA hw [0, 1] [] rfl rfl rfl (by decide) (fun u_2 r_1 H locs hp hw => ?_)
  obtain ⟨q1, rfl, rfl⟩ := hp
  have hw : rc_W E A s [(h0, .inr (12, [.int 0, .ref h1, .ref h2, .ref h3, .ref h4, .ref h5, .int 1, .int 3, .int 50, .int (-1), .int (-1), .int (-1), .int (-1), .int 0, .int 100, .int 1000, .long 0])), (h3, .inr (4, [.int 0, .ref (E.2.2 0), .int 0])), (q1, .inl (E.2.1 0, 0, .inl (va_cpy (fun _ => 0) (fun _ => 0) 6 0 0)))] H locs := hw
  refine lv_aload_n hx hb dX7_verdictNow_26 rfl (lv_at hl 0 rfl) ?_
  refine lv_iload_n hx hb dX7_verdictNow_27 rfl (lv_at hl 2 rfl) ?_
  refine rc_callr (wr := [(q1, .inl (E.2.1 0, 0, .inl (va_cpy (fun _ => 0) (fun _ => 0) 6 0 0)))]) (va_runV (As := [.int 0]) (rest := [.ref q1]) (Ts := []) ⟨hx, hb, hml, hown, fun _ h9 => absurd h9 List.not_mem_nil⟩ (cw_X7_sample_ l E _ h0 h1 h2 h3 h4 h5) (rc_cwV hAm qw_967 qw_13 qw_970 qw_969 qs_54 rfl rfl hd_X7_sample_ ⟨Nat.le_of_ble_eq_true rfl, Nat.le_of_ble_eq_true rfl⟩) (rc_preV hAm hA hw [0, 1] rfl rfl 0 rfl (q := vwCl[12]) rfl) rfl rfl hl.1 rfl (lv_room (Nat.le_of_ble_eq_true rfl)) dX7_verdictNow_28 ⟨Nat.le_of_ble_eq_true rfl, Nat.le_of_ble_eq_true rfl⟩) hA hw [0, 1] [2] rfl rfl rfl (by decide) (fun u_4 r_3 H locs hp hw => ?_)
  obtain ⟨q2, rfl, rfl⟩ := hp
  have hw : rc_W E A s [(q1, .inl (E.2.1 0, 0, .inl (va_cpy (fun _ => 0) (fun _ => 0) 6 0 0))), (h0, .inr (12, [.int 0, .ref h1, .ref h2, .ref h3, .ref h4, .ref h5, .int 1, .int 3, .int 50, .int (-1), .int (-1), .int (-1), .int (-1), .int 0, .int 100, .int 1000, .long 0])), (h3, .inr (4, [.int 0, .ref (E.2.2 0), .int 0])), (q2, .inl (E.2.1 0, 0, .inl (va_cpy (fun _ => 0) (fun _ => 0) 6 0 0)))] H locs := hw
  refine rc_callr (wr := [(h0, .inr (12, [.int 0, .ref h1, .ref h2, .ref h3, .ref h4, .ref h5, .int 1, .int 3, .int 50, .int (-1), .int (-1), .int (-1), .int (-1), .int 0, .int 100, .int 1000, .long 0])), (h3, .inr (4, [.int 0, .ref (E.2.2 0), .int 0]))]) (va_runS (As := [.ref q1, .ref q2]) (rest := []) (Ts := []) ⟨hx, hb, hml, hown, fun _ h9 => absurd h9 List.not_mem_nil⟩ (cw_X7_reckoned l E _ q1 q2 (va_cpy (fun _ => 0) (fun _ => 0) 6 0 0)) (rc_cwS hAm qw_1231 qw_13 qw_1233 qw_1232 rfl rfl hd_X7_reckoned ⟨Nat.le_of_ble_eq_true rfl, Nat.le_of_ble_eq_true rfl⟩) (rc_preS hAm hA hw [0, 3] rfl rfl) rfl rfl hl.1 rfl (lv_room (Nat.le_of_ble_eq_true rfl)) dX7_verdictNow_31 ⟨Nat.le_of_ble_eq_true rfl, Nat.le_of_ble_eq_true rfl⟩) hA hw [0, 3] [1, 2] rfl rfl rfl (by decide) (fun u_6 r_5 H locs hp hw => ?_)
  obtain ⟨q3, rfl, rfl⟩ := hp
  have hw : rc_W E A s [(h0, .inr (12, [.int 0, .ref h1, .ref h2, .ref h3, .ref h4, .ref h5, .int 1, .int 3, .int 50, .int (-1), .int (-1), .int (-1), .int (-1), .int 0, .int 100, .int 1000, .long 0])), (h3, .inr (4, [.int 0, .ref (E.2.2 0), .int 0])), (q1, .inl (E.2.1 0, 0, .inl (va_cpy (fun _ => 0) (fun _ => 0) 6 0 0))), (q2, .inl (E.2.1 0, 0, .inl (va_cpy (fun _ => 0) (fun _ => 0) 6 0 0))), (q3, .inl (E.2.1 0, 4, .inl (upd (upd (upd (upd (upd (upd (upd (fun _ => 0) 0 0) 1 0) 2 0) 3 0) 1 1) 2 1) 3 1)))] H locs := hw
  refine lv_iload_n hx hb dX7_verdictNow_34 rfl (lv_at hl 3 rfl) ?_
  refine lv_iconst (v := 1) hx hb dX7_verdictNow_35 (by decide) ?_
  refine lv_isub hx hb dX7_verdictNow_36 ?_
  refine rc_topi 0 (by decide) ?_
  refine rc_iald hx hb hAm hw 4 rfl (vp_in_iff.mpr (by decide)) dX7_verdictNow_37 ?_
  refine rc_topi 0 rfl ?_
  exact rc_iret (v := 0) hx hb hr hlocks hw [(h0, .inr (12, [.int 0, .ref h1, .ref h2, .ref h3, .ref h4, .ref h5, .int 1, .int 3, .int 50, .int (-1), .int (-1), .int (-1), .int (-1), .int 0, .int 100, .int 1000, .long 0])), (h3, .inr (4, [.int 0, .ref (E.2.2 0), .int 0]))] (⟨rfl, rfl⟩) [0, 1] rfl (by decide) (Nat.le_of_ble_eq_true rfl) (Nat.le_of_ble_eq_true rfl) dX7_verdictNow_38
set_option maxHeartbeats 4000000 in
set_option maxRecDepth 100000 in
theorem cw_X7_verdictNow_3 (l : Launch) (E : rc_E) (sz : Nat) (h0 : Nat) (h1 : Nat) (h2 : Nat) (h3 : Nat) (h4 : Nat) (h5 : Nat) : rc_Mi l yX7_verdictNow [Cond.code yX7_verdictNow cX7_verdictNow 4 (some FieldType.int)] { frames := 6, cells := 8, slots := 18, locals := 162 } E [.ref h0, .int 0, .int 0, .int 2] [(h0, .inr (12, [.int 0, .ref h1, .ref h2, .ref h3, .ref h4, .ref h5, .int 1, .int 3, .int 50, .int (-1), .int (-1), .int (-1), .int (-1), .int 0, .int 100, .int 1000, .long 0])), (h3, .inr (4, [.int 0, .ref (E.2.2 0), .int 0]))] sz (S := va_W) (fun (r : Int32) (u : va_W) => (1 = r ∧ u = [(h0, .inr (12, [.int 0, .ref h1, .ref h2, .ref h3, .ref h4, .ref h5, .int 1, .int 3, .int 50, .int (-1), .int (-1), .int (-1), .int (-1), .int 0, .int 100, .int 1000, .long 0])), (h3, .inr (4, [.int 0, .ref (E.2.2 0), .int 0]))])) (fun u => u) 8 18 := by
  refine rc_ini (cc := cX7_verdictNow) (maxL := 4) (ret := (some FieldType.int)) (by decide) rfl (Nat.le_of_ble_eq_true rfl) ?_
  intro p e s m args below meth c ls A hx hb hr hml _ hown hlocks hin hA hAm hw hl
  have hown : s.vm.findClass RX7 = some m.cls := hown
  have hl : lv_has ls 4 [(0, .ref h0), (1, .int 0), (2, .int 0), (3, .int 2)] := hl
  refine lv_iload_n hx hb dX7_verdictNow_0 rfl (lv_at hl 3 rfl) ?_
  refine lv_if_ne (tgt := 21) hx hb dX7_verdictNow_1 (by decide) (fun _ => ?_) (fun c9 => absurd c9 (by decide))
  refine lv_aload_n hx hb dX7_verdictNow_21 rfl (lv_at hl 0 rfl) ?_
  refine lv_iload_n hx hb dX7_verdictNow_22 rfl (lv_at hl 1 rfl) ?_
  refine rc_callr (wr := []) (va_runV (As := [.int 0]) (rest := []) (Ts := []) ⟨hx, hb, hml, hown, fun _ h9 => absurd h9 List.not_mem_nil⟩ (cw_X7_sample_ l E _ h0 h1 h2 h3 h4 h5) (rc_cwV hAm qw_967 qw_13 qw_970 qw_969 qs_54 rfl rfl hd_X7_sample_ ⟨Nat.le_of_ble_eq_true rfl, Nat.le_of_ble_eq_true rfl⟩) (rc_preV hAm hA hw [0, 1] rfl rfl 0 rfl (q := vwCl[12]) rfl) rfl rfl hl.1 rfl (lv_room (Nat.le_of_ble_eq_true rfl)) dX7_verdictNow_23 ⟨Nat.le_of_ble_eq_true rfl, Nat.le_of_ble_eq_true rfl⟩) hA hw [0, 1] [] rfl rfl rfl (by decide) (fun u_2 r_1 H locs hp hw => ?_)
  obtain ⟨q1, rfl, rfl⟩ := hp
  have hw : rc_W E A s [(h0, .inr (12, [.int 0, .ref h1, .ref h2, .ref h3, .ref h4, .ref h5, .int 1, .int 3, .int 50, .int (-1), .int (-1), .int (-1), .int (-1), .int 0, .int 100, .int 1000, .long 0])), (h3, .inr (4, [.int 0, .ref (E.2.2 0), .int 0])), (q1, .inl (E.2.1 0, 0, .inl (va_cpy (fun _ => 0) (fun _ => 0) 6 0 0)))] H locs := hw
  refine lv_aload_n hx hb dX7_verdictNow_26 rfl (lv_at hl 0 rfl) ?_
  refine lv_iload_n hx hb dX7_verdictNow_27 rfl (lv_at hl 2 rfl) ?_
  refine rc_callr (wr := [(q1, .inl (E.2.1 0, 0, .inl (va_cpy (fun _ => 0) (fun _ => 0) 6 0 0)))]) (va_runV (As := [.int 0]) (rest := [.ref q1]) (Ts := []) ⟨hx, hb, hml, hown, fun _ h9 => absurd h9 List.not_mem_nil⟩ (cw_X7_sample_ l E _ h0 h1 h2 h3 h4 h5) (rc_cwV hAm qw_967 qw_13 qw_970 qw_969 qs_54 rfl rfl hd_X7_sample_ ⟨Nat.le_of_ble_eq_true rfl, Nat.le_of_ble_eq_true rfl⟩) (rc_preV hAm hA hw [0, 1] rfl rfl 0 rfl (q := vwCl[12]) rfl) rfl rfl hl.1 rfl (lv_room (Nat.le_of_ble_eq_true rfl)) dX7_verdictNow_28 ⟨Nat.le_of_ble_eq_true rfl, Nat.le_of_ble_eq_true rfl⟩) hA hw [0, 1] [2] rfl rfl rfl (by decide) (fun u_4 r_3 H locs hp hw => ?_)
  obtain ⟨q2, rfl, rfl⟩ := hp
  have hw : rc_W E A s [(q1, .inl (E.2.1 0, 0, .inl (va_cpy (fun _ => 0) (fun _ => 0) 6 0 0))), (h0, .inr (12, [.int 0, .ref h1, .ref h2, .ref h3, .ref h4, .ref h5, .int 1, .int 3, .int 50, .int (-1), .int (-1), .int (-1), .int (-1), .int 0, .int 100, .int 1000, .long 0])), (h3, .inr (4, [.int 0, .ref (E.2.2 0), .int 0])), (q2, .inl (E.2.1 0, 0, .inl (va_cpy (fun _ => 0) (fun _ => 0) 6 0 0)))] H locs := hw
  refine rc_callr (wr := [(h0, .inr (12, [.int 0, .ref h1, .ref h2, .ref h3, .ref h4, .ref h5, .int 1, .int 3, .int 50, .int (-1), .int (-1), .int (-1), .int (-1), .int 0, .int 100, .int 1000, .long 0])), (h3, .inr (4, [.int 0, .ref (E.2.2 0), .int 0]))]) (va_runS (As := [.ref q1, .ref q2]) (rest := []) (Ts := []) ⟨hx, hb, hml, hown, fun _ h9 => absurd h9 List.not_mem_nil⟩ (cw_X7_reckoned l E _ q1 q2 (va_cpy (fun _ => 0) (fun _ => 0) 6 0 0)) (rc_cwS hAm qw_1231 qw_13 qw_1233 qw_1232 rfl rfl hd_X7_reckoned ⟨Nat.le_of_ble_eq_true rfl, Nat.le_of_ble_eq_true rfl⟩) (rc_preS hAm hA hw [0, 3] rfl rfl) rfl rfl hl.1 rfl (lv_room (Nat.le_of_ble_eq_true rfl)) dX7_verdictNow_31 ⟨Nat.le_of_ble_eq_true rfl, Nat.le_of_ble_eq_true rfl⟩) hA hw [0, 3] [1, 2] rfl rfl rfl (by decide) (fun u_6 r_5 H locs hp hw => ?_)
  obtain ⟨q3, rfl, rfl⟩ := hp
  have hw : rc_W E A s [(h0, .inr (12, [.int 0, .ref h1, .ref h2, .ref h3, .ref h4, .ref h5, .int 1, .int 3, .int 50, .int (-1), .int (-1), .int (-1), .int (-1), .int 0, .int 100, .int 1000, .long 0])), (h3, .inr (4, [.int 0, .ref (E.2.2 0), .int 0])), (q1, .inl (E.2.1 0, 0, .inl (va_cpy (fun _ => 0) (fun _ => 0) 6 0 0))), (q2, .inl (E.2.1 0, 0, .inl (va_cpy (fun _ => 0) (fun _ => 0) 6 0 0))), (q3, .inl (E.2.1 0, 4, .inl (upd (upd (upd (upd (upd (upd (upd (fun _ => 0) 0 0) 1 0) 2 0) 3 0) 1 1) 2 1) 3 1)))] H locs := hw
  refine lv_iload_n hx hb dX7_verdictNow_34 rfl (lv_at hl 3 rfl) ?_
  refine lv_iconst (v := 1) hx hb dX7_verdictNow_35 (by decide) ?_
  refine lv_isub hx hb dX7_verdictNow_36 ?_
  refine rc_topi 1 (by decide) ?_
  refine rc_iald hx hb hAm hw 4 rfl (vp_in_iff.mpr (by decide)) dX7_verdictNow_37 ?_
  refine rc_topi 1 rfl ?_
  exact rc_iret (v := 1) hx hb hr hlocks hw [(h0, .inr (12, [.int 0, .ref h1, .ref h2, .ref h3, .ref h4, .ref h5, .int 1, .int 3, .int 50, .int (-1), .int (-1), .int (-1), .int (-1), .int 0, .int 100, .int 1000, .long 0])), (h3, .inr (4, [.int 0, .ref (E.2.2 0), .int 0]))] (⟨rfl, rfl⟩) [0, 1] rfl (by decide) (Nat.le_of_ble_eq_true rfl) (Nat.le_of_ble_eq_true rfl) dX7_verdictNow_38
set_option maxHeartbeats 4000000 in
set_option maxRecDepth 100000 in
theorem cw_X7_verdictNow_4 (l : Launch) (E : rc_E) (sz : Nat) (h0 : Nat) (h1 : Nat) (h2 : Nat) (h3 : Nat) (h4 : Nat) (h5 : Nat) : rc_Mi l yX7_verdictNow [Cond.code yX7_verdictNow cX7_verdictNow 4 (some FieldType.int)] { frames := 6, cells := 8, slots := 18, locals := 162 } E [.ref h0, .int 0, .int 0, .int 3] [(h0, .inr (12, [.int 0, .ref h1, .ref h2, .ref h3, .ref h4, .ref h5, .int 1, .int 3, .int 50, .int (-1), .int (-1), .int (-1), .int (-1), .int 0, .int 100, .int 1000, .long 0])), (h3, .inr (4, [.int 0, .ref (E.2.2 0), .int 0]))] sz (S := va_W) (fun (r : Int32) (u : va_W) => (1 = r ∧ u = [(h0, .inr (12, [.int 0, .ref h1, .ref h2, .ref h3, .ref h4, .ref h5, .int 1, .int 3, .int 50, .int (-1), .int (-1), .int (-1), .int (-1), .int 0, .int 100, .int 1000, .long 0])), (h3, .inr (4, [.int 0, .ref (E.2.2 0), .int 0]))])) (fun u => u) 8 18 := by
  refine rc_ini (cc := cX7_verdictNow) (maxL := 4) (ret := (some FieldType.int)) (by decide) rfl (Nat.le_of_ble_eq_true rfl) ?_
  intro p e s m args below meth c ls A hx hb hr hml _ hown hlocks hin hA hAm hw hl
  have hown : s.vm.findClass RX7 = some m.cls := hown
  have hl : lv_has ls 4 [(0, .ref h0), (1, .int 0), (2, .int 0), (3, .int 3)] := hl
  refine lv_iload_n hx hb dX7_verdictNow_0 rfl (lv_at hl 3 rfl) ?_
  refine lv_if_ne (tgt := 21) hx hb dX7_verdictNow_1 (by decide) (fun _ => ?_) (fun c9 => absurd c9 (by decide))
  refine lv_aload_n hx hb dX7_verdictNow_21 rfl (lv_at hl 0 rfl) ?_
  refine lv_iload_n hx hb dX7_verdictNow_22 rfl (lv_at hl 1 rfl) ?_
  refine rc_callr (wr := []) (va_runV (As := [.int 0]) (rest := []) (Ts := []) ⟨hx, hb, hml, hown, fun _ h9 => absurd h9 List.not_mem_nil⟩ (cw_X7_sample_ l E _ h0 h1 h2 h3 h4 h5) (rc_cwV hAm qw_967 qw_13 qw_970 qw_969 qs_54 rfl rfl hd_X7_sample_ ⟨Nat.le_of_ble_eq_true rfl, Nat.le_of_ble_eq_true rfl⟩) (rc_preV hAm hA hw [0, 1] rfl rfl 0 rfl (q := vwCl[12]) rfl) rfl rfl hl.1 rfl (lv_room (Nat.le_of_ble_eq_true rfl)) dX7_verdictNow_23 ⟨Nat.le_of_ble_eq_true rfl, Nat.le_of_ble_eq_true rfl⟩) hA hw [0, 1] [] rfl rfl rfl (by decide) (fun u_2 r_1 H locs hp hw => ?_)
  obtain ⟨q1, rfl, rfl⟩ := hp
  have hw : rc_W E A s [(h0, .inr (12, [.int 0, .ref h1, .ref h2, .ref h3, .ref h4, .ref h5, .int 1, .int 3, .int 50, .int (-1), .int (-1), .int (-1), .int (-1), .int 0, .int 100, .int 1000, .long 0])), (h3, .inr (4, [.int 0, .ref (E.2.2 0), .int 0])), (q1, .inl (E.2.1 0, 0, .inl (va_cpy (fun _ => 0) (fun _ => 0) 6 0 0)))] H locs := hw
  refine lv_aload_n hx hb dX7_verdictNow_26 rfl (lv_at hl 0 rfl) ?_
  refine lv_iload_n hx hb dX7_verdictNow_27 rfl (lv_at hl 2 rfl) ?_
  refine rc_callr (wr := [(q1, .inl (E.2.1 0, 0, .inl (va_cpy (fun _ => 0) (fun _ => 0) 6 0 0)))]) (va_runV (As := [.int 0]) (rest := [.ref q1]) (Ts := []) ⟨hx, hb, hml, hown, fun _ h9 => absurd h9 List.not_mem_nil⟩ (cw_X7_sample_ l E _ h0 h1 h2 h3 h4 h5) (rc_cwV hAm qw_967 qw_13 qw_970 qw_969 qs_54 rfl rfl hd_X7_sample_ ⟨Nat.le_of_ble_eq_true rfl, Nat.le_of_ble_eq_true rfl⟩) (rc_preV hAm hA hw [0, 1] rfl rfl 0 rfl (q := vwCl[12]) rfl) rfl rfl hl.1 rfl (lv_room (Nat.le_of_ble_eq_true rfl)) dX7_verdictNow_28 ⟨Nat.le_of_ble_eq_true rfl, Nat.le_of_ble_eq_true rfl⟩) hA hw [0, 1] [2] rfl rfl rfl (by decide) (fun u_4 r_3 H locs hp hw => ?_)
  obtain ⟨q2, rfl, rfl⟩ := hp
  have hw : rc_W E A s [(q1, .inl (E.2.1 0, 0, .inl (va_cpy (fun _ => 0) (fun _ => 0) 6 0 0))), (h0, .inr (12, [.int 0, .ref h1, .ref h2, .ref h3, .ref h4, .ref h5, .int 1, .int 3, .int 50, .int (-1), .int (-1), .int (-1), .int (-1), .int 0, .int 100, .int 1000, .long 0])), (h3, .inr (4, [.int 0, .ref (E.2.2 0), .int 0])), (q2, .inl (E.2.1 0, 0, .inl (va_cpy (fun _ => 0) (fun _ => 0) 6 0 0)))] H locs := hw
  refine rc_callr (wr := [(h0, .inr (12, [.int 0, .ref h1, .ref h2, .ref h3, .ref h4, .ref h5, .int 1, .int 3, .int 50, .int (-1), .int (-1), .int (-1), .int (-1), .int 0, .int 100, .int 1000, .long 0])), (h3, .inr (4, [.int 0, .ref (E.2.2 0), .int 0]))]) (va_runS (As := [.ref q1, .ref q2]) (rest := []) (Ts := []) ⟨hx, hb, hml, hown, fun _ h9 => absurd h9 List.not_mem_nil⟩ (cw_X7_reckoned l E _ q1 q2 (va_cpy (fun _ => 0) (fun _ => 0) 6 0 0)) (rc_cwS hAm qw_1231 qw_13 qw_1233 qw_1232 rfl rfl hd_X7_reckoned ⟨Nat.le_of_ble_eq_true rfl, Nat.le_of_ble_eq_true rfl⟩) (rc_preS hAm hA hw [0, 3] rfl rfl) rfl rfl hl.1 rfl (lv_room (Nat.le_of_ble_eq_true rfl)) dX7_verdictNow_31 ⟨Nat.le_of_ble_eq_true rfl, Nat.le_of_ble_eq_true rfl⟩) hA hw [0, 3] [1, 2] rfl rfl rfl (by decide) (fun u_6 r_5 H locs hp hw => ?_)
  obtain ⟨q3, rfl, rfl⟩ := hp
  have hw : rc_W E A s [(h0, .inr (12, [.int 0, .ref h1, .ref h2, .ref h3, .ref h4, .ref h5, .int 1, .int 3, .int 50, .int (-1), .int (-1), .int (-1), .int (-1), .int 0, .int 100, .int 1000, .long 0])), (h3, .inr (4, [.int 0, .ref (E.2.2 0), .int 0])), (q1, .inl (E.2.1 0, 0, .inl (va_cpy (fun _ => 0) (fun _ => 0) 6 0 0))), (q2, .inl (E.2.1 0, 0, .inl (va_cpy (fun _ => 0) (fun _ => 0) 6 0 0))), (q3, .inl (E.2.1 0, 4, .inl (upd (upd (upd (upd (upd (upd (upd (fun _ => 0) 0 0) 1 0) 2 0) 3 0) 1 1) 2 1) 3 1)))] H locs := hw
  refine lv_iload_n hx hb dX7_verdictNow_34 rfl (lv_at hl 3 rfl) ?_
  refine lv_iconst (v := 1) hx hb dX7_verdictNow_35 (by decide) ?_
  refine lv_isub hx hb dX7_verdictNow_36 ?_
  refine rc_topi 2 (by decide) ?_
  refine rc_iald hx hb hAm hw 4 rfl (vp_in_iff.mpr (by decide)) dX7_verdictNow_37 ?_
  refine rc_topi 1 rfl ?_
  exact rc_iret (v := 1) hx hb hr hlocks hw [(h0, .inr (12, [.int 0, .ref h1, .ref h2, .ref h3, .ref h4, .ref h5, .int 1, .int 3, .int 50, .int (-1), .int (-1), .int (-1), .int (-1), .int 0, .int 100, .int 1000, .long 0])), (h3, .inr (4, [.int 0, .ref (E.2.2 0), .int 0]))] (⟨rfl, rfl⟩) [0, 1] rfl (by decide) (Nat.le_of_ble_eq_true rfl) (Nat.le_of_ble_eq_true rfl) dX7_verdictNow_38
set_option maxHeartbeats 4000000 in
set_option maxRecDepth 100000 in
theorem cw_X7_verdictNow_5 (l : Launch) (E : rc_E) (sz : Nat) (h0 : Nat) (h1 : Nat) (h2 : Nat) (h3 : Nat) (h4 : Nat) (h5 : Nat) : rc_Mi l yX7_verdictNow [Cond.code yX7_verdictNow cX7_verdictNow 4 (some FieldType.int)] { frames := 6, cells := 8, slots := 18, locals := 162 } E [.ref h0, .int 0, .int 0, .int 4] [(h0, .inr (12, [.int 0, .ref h1, .ref h2, .ref h3, .ref h4, .ref h5, .int 1, .int 3, .int 50, .int (-1), .int (-1), .int (-1), .int (-1), .int 0, .int 100, .int 1000, .long 0])), (h3, .inr (4, [.int 0, .ref (E.2.2 0), .int 0]))] sz (S := va_W) (fun (r : Int32) (u : va_W) => (1 = r ∧ u = [(h0, .inr (12, [.int 0, .ref h1, .ref h2, .ref h3, .ref h4, .ref h5, .int 1, .int 3, .int 50, .int (-1), .int (-1), .int (-1), .int (-1), .int 0, .int 100, .int 1000, .long 0])), (h3, .inr (4, [.int 0, .ref (E.2.2 0), .int 0]))])) (fun u => u) 8 18 := by
  refine rc_ini (cc := cX7_verdictNow) (maxL := 4) (ret := (some FieldType.int)) (by decide) rfl (Nat.le_of_ble_eq_true rfl) ?_
  intro p e s m args below meth c ls A hx hb hr hml _ hown hlocks hin hA hAm hw hl
  have hown : s.vm.findClass RX7 = some m.cls := hown
  have hl : lv_has ls 4 [(0, .ref h0), (1, .int 0), (2, .int 0), (3, .int 4)] := hl
  refine lv_iload_n hx hb dX7_verdictNow_0 rfl (lv_at hl 3 rfl) ?_
  refine lv_if_ne (tgt := 21) hx hb dX7_verdictNow_1 (by decide) (fun _ => ?_) (fun c9 => absurd c9 (by decide))
  refine lv_aload_n hx hb dX7_verdictNow_21 rfl (lv_at hl 0 rfl) ?_
  refine lv_iload_n hx hb dX7_verdictNow_22 rfl (lv_at hl 1 rfl) ?_
  refine rc_callr (wr := []) (va_runV (As := [.int 0]) (rest := []) (Ts := []) ⟨hx, hb, hml, hown, fun _ h9 => absurd h9 List.not_mem_nil⟩ (cw_X7_sample_ l E _ h0 h1 h2 h3 h4 h5) (rc_cwV hAm qw_967 qw_13 qw_970 qw_969 qs_54 rfl rfl hd_X7_sample_ ⟨Nat.le_of_ble_eq_true rfl, Nat.le_of_ble_eq_true rfl⟩) (rc_preV hAm hA hw [0, 1] rfl rfl 0 rfl (q := vwCl[12]) rfl) rfl rfl hl.1 rfl (lv_room (Nat.le_of_ble_eq_true rfl)) dX7_verdictNow_23 ⟨Nat.le_of_ble_eq_true rfl, Nat.le_of_ble_eq_true rfl⟩) hA hw [0, 1] [] rfl rfl rfl (by decide) (fun u_2 r_1 H locs hp hw => ?_)
  obtain ⟨q1, rfl, rfl⟩ := hp
  have hw : rc_W E A s [(h0, .inr (12, [.int 0, .ref h1, .ref h2, .ref h3, .ref h4, .ref h5, .int 1, .int 3, .int 50, .int (-1), .int (-1), .int (-1), .int (-1), .int 0, .int 100, .int 1000, .long 0])), (h3, .inr (4, [.int 0, .ref (E.2.2 0), .int 0])), (q1, .inl (E.2.1 0, 0, .inl (va_cpy (fun _ => 0) (fun _ => 0) 6 0 0)))] H locs := hw
  refine lv_aload_n hx hb dX7_verdictNow_26 rfl (lv_at hl 0 rfl) ?_
  refine lv_iload_n hx hb dX7_verdictNow_27 rfl (lv_at hl 2 rfl) ?_
  refine rc_callr (wr := [(q1, .inl (E.2.1 0, 0, .inl (va_cpy (fun _ => 0) (fun _ => 0) 6 0 0)))]) (va_runV (As := [.int 0]) (rest := [.ref q1]) (Ts := []) ⟨hx, hb, hml, hown, fun _ h9 => absurd h9 List.not_mem_nil⟩ (cw_X7_sample_ l E _ h0 h1 h2 h3 h4 h5) (rc_cwV hAm qw_967 qw_13 qw_970 qw_969 qs_54 rfl rfl hd_X7_sample_ ⟨Nat.le_of_ble_eq_true rfl, Nat.le_of_ble_eq_true rfl⟩) (rc_preV hAm hA hw [0, 1] rfl rfl 0 rfl (q := vwCl[12]) rfl) rfl rfl hl.1 rfl (lv_room (Nat.le_of_ble_eq_true rfl)) dX7_verdictNow_28 ⟨Nat.le_of_ble_eq_true rfl, Nat.le_of_ble_eq_true rfl⟩) hA hw [0, 1] [2] rfl rfl rfl (by decide) (fun u_4 r_3 H locs hp hw => ?_)
  obtain ⟨q2, rfl, rfl⟩ := hp
  have hw : rc_W E A s [(q1, .inl (E.2.1 0, 0, .inl (va_cpy (fun _ => 0) (fun _ => 0) 6 0 0))), (h0, .inr (12, [.int 0, .ref h1, .ref h2, .ref h3, .ref h4, .ref h5, .int 1, .int 3, .int 50, .int (-1), .int (-1), .int (-1), .int (-1), .int 0, .int 100, .int 1000, .long 0])), (h3, .inr (4, [.int 0, .ref (E.2.2 0), .int 0])), (q2, .inl (E.2.1 0, 0, .inl (va_cpy (fun _ => 0) (fun _ => 0) 6 0 0)))] H locs := hw
  refine rc_callr (wr := [(h0, .inr (12, [.int 0, .ref h1, .ref h2, .ref h3, .ref h4, .ref h5, .int 1, .int 3, .int 50, .int (-1), .int (-1), .int (-1), .int (-1), .int 0, .int 100, .int 1000, .long 0])), (h3, .inr (4, [.int 0, .ref (E.2.2 0), .int 0]))]) (va_runS (As := [.ref q1, .ref q2]) (rest := []) (Ts := []) ⟨hx, hb, hml, hown, fun _ h9 => absurd h9 List.not_mem_nil⟩ (cw_X7_reckoned l E _ q1 q2 (va_cpy (fun _ => 0) (fun _ => 0) 6 0 0)) (rc_cwS hAm qw_1231 qw_13 qw_1233 qw_1232 rfl rfl hd_X7_reckoned ⟨Nat.le_of_ble_eq_true rfl, Nat.le_of_ble_eq_true rfl⟩) (rc_preS hAm hA hw [0, 3] rfl rfl) rfl rfl hl.1 rfl (lv_room (Nat.le_of_ble_eq_true rfl)) dX7_verdictNow_31 ⟨Nat.le_of_ble_eq_true rfl, Nat.le_of_ble_eq_true rfl⟩) hA hw [0, 3] [1, 2] rfl rfl rfl (by decide) (fun u_6 r_5 H locs hp hw => ?_)
  obtain ⟨q3, rfl, rfl⟩ := hp
  have hw : rc_W E A s [(h0, .inr (12, [.int 0, .ref h1, .ref h2, .ref h3, .ref h4, .ref h5, .int 1, .int 3, .int 50, .int (-1), .int (-1), .int (-1), .int (-1), .int 0, .int 100, .int 1000, .long 0])), (h3, .inr (4, [.int 0, .ref (E.2.2 0), .int 0])), (q1, .inl (E.2.1 0, 0, .inl (va_cpy (fun _ => 0) (fun _ => 0) 6 0 0))), (q2, .inl (E.2.1 0, 0, .inl (va_cpy (fun _ => 0) (fun _ => 0) 6 0 0))), (q3, .inl (E.2.1 0, 4, .inl (upd (upd (upd (upd (upd (upd (upd (fun _ => 0) 0 0) 1 0) 2 0) 3 0) 1 1) 2 1) 3 1)))] H locs := hw
  refine lv_iload_n hx hb dX7_verdictNow_34 rfl (lv_at hl 3 rfl) ?_
  refine lv_iconst (v := 1) hx hb dX7_verdictNow_35 (by decide) ?_
  refine lv_isub hx hb dX7_verdictNow_36 ?_
  refine rc_topi 3 (by decide) ?_
  refine rc_iald hx hb hAm hw 4 rfl (vp_in_iff.mpr (by decide)) dX7_verdictNow_37 ?_
  refine rc_topi 1 rfl ?_
  exact rc_iret (v := 1) hx hb hr hlocks hw [(h0, .inr (12, [.int 0, .ref h1, .ref h2, .ref h3, .ref h4, .ref h5, .int 1, .int 3, .int 50, .int (-1), .int (-1), .int (-1), .int (-1), .int 0, .int 100, .int 1000, .long 0])), (h3, .inr (4, [.int 0, .ref (E.2.2 0), .int 0]))] (⟨rfl, rfl⟩) [0, 1] rfl (by decide) (Nat.le_of_ble_eq_true rfl) (Nat.le_of_ble_eq_true rfl) dX7_verdictNow_38
set_option maxHeartbeats 4000000 in
set_option maxRecDepth 100000 in
theorem cw_X7_verdict (l : Launch) (E : rc_E) (sz : Nat) (h0 : Nat) (x0 : Int32) (x1 : Int32) (x2 : Int32) (h1 : Nat) (h2 : Nat) (h3 : Nat) (h4 : Nat) (h5 : Nat) : rc_Mi l yX7_verdict [Cond.code yX7_verdict cX7_verdict 4 (some FieldType.int)] { frames := 7, cells := 8, slots := 18, locals := 185 } E [.ref h0, .int x0, .int x1, .int x2] [(h0, .inr (12, [.int 0, .ref h1, .ref h2, .ref h3, .ref h4, .ref h5, .int 1, .int 3, .int 50, .int (-1), .int (-1), .int (-1), .int (-1), .int 0, .int 100, .int 1000, .long 0])), (h3, .inr (4, [.int 0, .ref (E.2.2 0), .int 0]))] sz (S := va_W) (fun (r : Int32) (u : va_W) => (x0 < 0 ∧ 0 = r ∧ u = [(h0, .inr (12, [.int 1, .ref h1, .ref h2, .ref h3, .ref h4, .ref h5, .int 1, .int 3, .int 50, .int (-1), .int (-1), .int (-1), .int (-1), .int 0, .int 100, .int 1000, .long 0])), (h3, .inr (4, [.int 0, .ref (E.2.2 0), .int 0]))]) ∨ (¬ x0 < 0 ∧ 0 < x0 ∧ 0 = r ∧ u = [(h0, .inr (12, [.int 1, .ref h1, .ref h2, .ref h3, .ref h4, .ref h5, .int 1, .int 3, .int 50, .int (-1), .int (-1), .int (-1), .int (-1), .int 0, .int 100, .int 1000, .long 0])), (h3, .inr (4, [.int 0, .ref (E.2.2 0), .int 0]))]) ∨ (x1 < 0 ∧ x0 = 0 ∧ 0 = r ∧ u = [(h0, .inr (12, [.int 1, .ref h1, .ref h2, .ref h3, .ref h4, .ref h5, .int 1, .int 3, .int 50, .int (-1), .int (-1), .int (-1), .int (-1), .int 0, .int 100, .int 1000, .long 0])), (h3, .inr (4, [.int 0, .ref (E.2.2 0), .int 0]))]) ∨ (¬ x1 < 0 ∧ 0 < x1 ∧ x0 = 0 ∧ 0 = r ∧ u = [(h0, .inr (12, [.int 1, .ref h1, .ref h2, .ref h3, .ref h4, .ref h5, .int 1, .int 3, .int 50, .int (-1), .int (-1), .int (-1), .int (-1), .int 0, .int 100, .int 1000, .long 0])), (h3, .inr (4, [.int 0, .ref (E.2.2 0), .int 0]))]) ∨ (x2 < 0 ∧ x0 = 0 ∧ x1 = 0 ∧ 0 = r ∧ u = [(h0, .inr (12, [.int 2, .ref h1, .ref h2, .ref h3, .ref h4, .ref h5, .int 1, .int 3, .int 50, .int (-1), .int (-1), .int (-1), .int (-1), .int 0, .int 100, .int 1000, .long 0])), (h3, .inr (4, [.int 0, .ref (E.2.2 0), .int 0]))]) ∨ (¬ x2 < 0 ∧ 4 < x2 ∧ x0 = 0 ∧ x1 = 0 ∧ 0 = r ∧ u = [(h0, .inr (12, [.int 2, .ref h1, .ref h2, .ref h3, .ref h4, .ref h5, .int 1, .int 3, .int 50, .int (-1), .int (-1), .int (-1), .int (-1), .int 0, .int 100, .int 1000, .long 0])), (h3, .inr (4, [.int 0, .ref (E.2.2 0), .int 0]))]) ∨ (x0 = 0 ∧ x1 = 0 ∧ x2 = 0 ∧ 0 = r ∧ u = [(h0, .inr (12, [.int 0, .ref h1, .ref h2, .ref h3, .ref h4, .ref h5, .int 1, .int 3, .int 50, .int (-1), .int (-1), .int (-1), .int (-1), .int 0, .int 100, .int 1000, .long 0])), (h3, .inr (4, [.int 0, .ref (E.2.2 0), .int 0]))]) ∨ (x0 = 0 ∧ x1 = 0 ∧ x2 = 1 ∧ 0 = r ∧ u = [(h0, .inr (12, [.int 0, .ref h1, .ref h2, .ref h3, .ref h4, .ref h5, .int 1, .int 3, .int 50, .int (-1), .int (-1), .int (-1), .int (-1), .int 0, .int 100, .int 1000, .long 0])), (h3, .inr (4, [.int 0, .ref (E.2.2 0), .int 0]))]) ∨ (x0 = 0 ∧ x1 = 0 ∧ x2 = 2 ∧ 1 = r ∧ u = [(h0, .inr (12, [.int 0, .ref h1, .ref h2, .ref h3, .ref h4, .ref h5, .int 1, .int 3, .int 50, .int (-1), .int (-1), .int (-1), .int (-1), .int 0, .int 100, .int 1000, .long 0])), (h3, .inr (4, [.int 0, .ref (E.2.2 0), .int 0]))]) ∨ (x0 = 0 ∧ x1 = 0 ∧ x2 = 3 ∧ 1 = r ∧ u = [(h0, .inr (12, [.int 0, .ref h1, .ref h2, .ref h3, .ref h4, .ref h5, .int 1, .int 3, .int 50, .int (-1), .int (-1), .int (-1), .int (-1), .int 0, .int 100, .int 1000, .long 0])), (h3, .inr (4, [.int 0, .ref (E.2.2 0), .int 0]))]) ∨ (x0 = 0 ∧ x1 = 0 ∧ x2 = 4 ∧ 1 = r ∧ u = [(h0, .inr (12, [.int 0, .ref h1, .ref h2, .ref h3, .ref h4, .ref h5, .int 1, .int 3, .int 50, .int (-1), .int (-1), .int (-1), .int (-1), .int 0, .int 100, .int 1000, .long 0])), (h3, .inr (4, [.int 0, .ref (E.2.2 0), .int 0]))])) (fun u => u) 8 18 := by
  refine rc_ini (cc := cX7_verdict) (maxL := 4) (ret := (some FieldType.int)) (by decide) rfl (Nat.le_of_ble_eq_true rfl) ?_
  intro p e s m args below meth c ls A hx hb hr hml _ hown hlocks hin hA hAm hw hl
  have hown : s.vm.findClass RX7 = some m.cls := hown
  have hl : lv_has ls 4 [(0, .ref h0), (1, .int x0), (2, .int x1), (3, .int x2)] := hl
  refine lv_aload_n hx hb dX7_verdict_0 rfl (lv_at hl 0 rfl) ?_
  refine lv_iconst (v := 0) hx hb dX7_verdict_1 (by decide) ?_
  refine rc_put hx hb hown hAm hw lyX7 tyX7 tyX7_ok nmX7 0 rfl rfl 0 (by decide) qw_860 (fun _ h9 => h9) rfl rfl (by decide +kernel) (Nat.le_of_ble_eq_true rfl) [(h0, .inr (12, [.int 0, .ref h1, .ref h2, .ref h3, .ref h4, .ref h5, .int 1, .int 3, .int 50, .int (-1), .int (-1), .int (-1), .int (-1), .int 0, .int 100, .int 1000, .long 0])), (h3, .inr (4, [.int 0, .ref (E.2.2 0), .int 0]))] rfl dX7_verdict_2 (fun H locs hw => ?_)
  refine lv_aload_n hx hb dX7_verdict_5 rfl (lv_at hl 0 rfl) ?_
  refine lv_iload_n hx hb dX7_verdict_6 rfl (lv_at hl 1 rfl) ?_
  refine rc_calli (wr := [(h3, .inr (4, [.int 0, .ref (E.2.2 0), .int 0]))]) (va_runV (As := [.int x0]) (rest := []) (Ts := []) ⟨hx, hb, hml, hown, fun _ h9 => absurd h9 List.not_mem_nil⟩ (cw_X7_isChange l E _ h0 x0 h1 h2 h3 h4 h5) (rc_cwV hAm qw_1353 qw_13 qw_1356 qw_1355 qs_62 rfl rfl hd_X7_isChange ⟨Nat.le_of_ble_eq_true rfl, Nat.le_of_ble_eq_true rfl⟩) (rc_preV hAm hA hw [0] rfl rfl 0 rfl (q := vwCl[12]) rfl) rfl rfl hl.1 rfl (lv_room (Nat.le_of_ble_eq_true rfl)) dX7_verdict_7 ⟨Nat.le_of_ble_eq_true rfl, Nat.le_of_ble_eq_true rfl⟩) hA hw [0] [1] rfl rfl rfl (by decide) (fun r_1 u_2 H locs hp hw => ?_)
  rcases hp with ⟨c_3, rfl, rfl⟩ | ⟨c_4, c_5, rfl, rfl⟩ | ⟨c_6, rfl, rfl⟩
  · have hw : rc_W E A s [(h3, .inr (4, [.int 0, .ref (E.2.2 0), .int 0])), (h0, .inr (12, [.int 0, .ref h1, .ref h2, .ref h3, .ref h4, .ref h5, .int 1, .int 3, .int 50, .int (-1), .int (-1), .int (-1), .int (-1), .int 0, .int 100, .int 1000, .long 0]))] H locs := hw
    refine lv_if_eq (tgt := 21) hx hb dX7_verdict_10 (by decide) (fun _ => ?_) (fun c9 => absurd (by decide) c9)
    refine lv_aload_n hx hb dX7_verdict_21 rfl (lv_at hl 0 rfl) ?_
    refine lv_iconst (v := 1) hx hb dX7_verdict_22 (by decide) ?_
    refine rc_calli (wr := [(h3, .inr (4, [.int 0, .ref (E.2.2 0), .int 0]))]) (va_runV (As := [.int 1]) (rest := []) (Ts := []) ⟨hx, hb, hml, hown, fun _ h9 => absurd h9 List.not_mem_nil⟩ (cw_X7_refuse l E _ h0 h1 h2 h3 h4 h5) (rc_cwV hAm qw_924 qw_13 qw_927 qw_926 qs_50 rfl rfl hd_X7_refuse ⟨Nat.le_of_ble_eq_true rfl, Nat.le_of_ble_eq_true rfl⟩) (rc_preV hAm hA hw [1] rfl rfl 1 rfl (q := vwCl[12]) rfl) rfl rfl hl.1 rfl (lv_room (Nat.le_of_ble_eq_true rfl)) dX7_verdict_23 ⟨Nat.le_of_ble_eq_true rfl, Nat.le_of_ble_eq_true rfl⟩) hA hw [1] [0] rfl rfl rfl (by decide) (fun r_7 u_8 H locs hp hw => ?_)
    obtain ⟨rfl, rfl⟩ := hp
    have hw : rc_W E A s [(h3, .inr (4, [.int 0, .ref (E.2.2 0), .int 0])), (h0, .inr (12, [.int 1, .ref h1, .ref h2, .ref h3, .ref h4, .ref h5, .int 1, .int 3, .int 50, .int (-1), .int (-1), .int (-1), .int (-1), .int 0, .int 100, .int 1000, .long 0]))] H locs := hw
    exact rc_iret (v := 0) hx hb hr hlocks hw [(h0, .inr (12, [.int 1, .ref h1, .ref h2, .ref h3, .ref h4, .ref h5, .int 1, .int 3, .int 50, .int (-1), .int (-1), .int (-1), .int (-1), .int 0, .int 100, .int 1000, .long 0])), (h3, .inr (4, [.int 0, .ref (E.2.2 0), .int 0]))] (Or.inl ⟨c_3, rfl, rfl⟩) [1, 0] rfl (by decide) (Nat.le_of_ble_eq_true rfl) (Nat.le_of_ble_eq_true rfl) dX7_verdict_26
  · have hw : rc_W E A s [(h3, .inr (4, [.int 0, .ref (E.2.2 0), .int 0])), (h0, .inr (12, [.int 0, .ref h1, .ref h2, .ref h3, .ref h4, .ref h5, .int 1, .int 3, .int 50, .int (-1), .int (-1), .int (-1), .int (-1), .int 0, .int 100, .int 1000, .long 0]))] H locs := hw
    refine lv_if_eq (tgt := 21) hx hb dX7_verdict_10 (by decide) (fun _ => ?_) (fun c9 => absurd (by decide) c9)
    refine lv_aload_n hx hb dX7_verdict_21 rfl (lv_at hl 0 rfl) ?_
    refine lv_iconst (v := 1) hx hb dX7_verdict_22 (by decide) ?_
    refine rc_calli (wr := [(h3, .inr (4, [.int 0, .ref (E.2.2 0), .int 0]))]) (va_runV (As := [.int 1]) (rest := []) (Ts := []) ⟨hx, hb, hml, hown, fun _ h9 => absurd h9 List.not_mem_nil⟩ (cw_X7_refuse l E _ h0 h1 h2 h3 h4 h5) (rc_cwV hAm qw_924 qw_13 qw_927 qw_926 qs_50 rfl rfl hd_X7_refuse ⟨Nat.le_of_ble_eq_true rfl, Nat.le_of_ble_eq_true rfl⟩) (rc_preV hAm hA hw [1] rfl rfl 1 rfl (q := vwCl[12]) rfl) rfl rfl hl.1 rfl (lv_room (Nat.le_of_ble_eq_true rfl)) dX7_verdict_23 ⟨Nat.le_of_ble_eq_true rfl, Nat.le_of_ble_eq_true rfl⟩) hA hw [1] [0] rfl rfl rfl (by decide) (fun r_9 u_10 H locs hp hw => ?_)
    obtain ⟨rfl, rfl⟩ := hp
    have hw : rc_W E A s [(h3, .inr (4, [.int 0, .ref (E.2.2 0), .int 0])), (h0, .inr (12, [.int 1, .ref h1, .ref h2, .ref h3, .ref h4, .ref h5, .int 1, .int 3, .int 50, .int (-1), .int (-1), .int (-1), .int (-1), .int 0, .int 100, .int 1000, .long 0]))] H locs := hw
    exact rc_iret (v := 0) hx hb hr hlocks hw [(h0, .inr (12, [.int 1, .ref h1, .ref h2, .ref h3, .ref h4, .ref h5, .int 1, .int 3, .int 50, .int (-1), .int (-1), .int (-1), .int (-1), .int 0, .int 100, .int 1000, .long 0])), (h3, .inr (4, [.int 0, .ref (E.2.2 0), .int 0]))] (Or.inr (Or.inl ⟨c_4, c_5, rfl, rfl⟩)) [1, 0] rfl (by decide) (Nat.le_of_ble_eq_true rfl) (Nat.le_of_ble_eq_true rfl) dX7_verdict_26
  · obtain rfl : x0 = 0 := rc_eqc (b := 0) rfl (by have g_c_6 := rc_g5 (b := 0) c_6 rfl; omega)
    have hw : rc_W E A s [(h3, .inr (4, [.int 0, .ref (E.2.2 0), .int 0])), (h0, .inr (12, [.int 0, .ref h1, .ref h2, .ref h3, .ref h4, .ref h5, .int 1, .int 3, .int 50, .int (-1), .int (-1), .int (-1), .int (-1), .int 0, .int 100, .int 1000, .long 0]))] H locs := hw
    refine lv_if_eq (tgt := 21) hx hb dX7_verdict_10 (by decide) (fun c9 => absurd c9 (by decide)) (fun _ => ?_)
    refine lv_aload_n hx hb dX7_verdict_13 rfl (lv_at hl 0 rfl) ?_
    refine lv_iload_n hx hb dX7_verdict_14 rfl (lv_at hl 2 rfl) ?_
    refine rc_calli (wr := [(h3, .inr (4, [.int 0, .ref (E.2.2 0), .int 0]))]) (va_runV (As := [.int x1]) (rest := []) (Ts := []) ⟨hx, hb, hml, hown, fun _ h9 => absurd h9 List.not_mem_nil⟩ (cw_X7_isChange l E _ h0 x1 h1 h2 h3 h4 h5) (rc_cwV hAm qw_1353 qw_13 qw_1356 qw_1355 qs_62 rfl rfl hd_X7_isChange ⟨Nat.le_of_ble_eq_true rfl, Nat.le_of_ble_eq_true rfl⟩) (rc_preV hAm hA hw [1] rfl rfl 1 rfl (q := vwCl[12]) rfl) rfl rfl hl.1 rfl (lv_room (Nat.le_of_ble_eq_true rfl)) dX7_verdict_15 ⟨Nat.le_of_ble_eq_true rfl, Nat.le_of_ble_eq_true rfl⟩) hA hw [1] [0] rfl rfl rfl (by decide) (fun r_11 u_12 H locs hp hw => ?_)
    rcases hp with ⟨c_13, rfl, rfl⟩ | ⟨c_14, c_15, rfl, rfl⟩ | ⟨c_16, rfl, rfl⟩
    · have hw : rc_W E A s [(h3, .inr (4, [.int 0, .ref (E.2.2 0), .int 0])), (h0, .inr (12, [.int 0, .ref h1, .ref h2, .ref h3, .ref h4, .ref h5, .int 1, .int 3, .int 50, .int (-1), .int (-1), .int (-1), .int (-1), .int 0, .int 100, .int 1000, .long 0]))] H locs := hw
      refine lv_if_ne (tgt := 27) hx hb dX7_verdict_18 (by decide) (fun c9 => absurd (by decide) c9) (fun _ => ?_)
      refine lv_aload_n hx hb dX7_verdict_21 rfl (lv_at hl 0 rfl) ?_
      refine lv_iconst (v := 1) hx hb dX7_verdict_22 (by decide) ?_
      refine rc_calli (wr := [(h3, .inr (4, [.int 0, .ref (E.2.2 0), .int 0]))]) (va_runV (As := [.int 1]) (rest := []) (Ts := []) ⟨hx, hb, hml, hown, fun _ h9 => absurd h9 List.not_mem_nil⟩ (cw_X7_refuse l E _ h0 h1 h2 h3 h4 h5) (rc_cwV hAm qw_924 qw_13 qw_927 qw_926 qs_50 rfl rfl hd_X7_refuse ⟨Nat.le_of_ble_eq_true rfl, Nat.le_of_ble_eq_true rfl⟩) (rc_preV hAm hA hw [1] rfl rfl 1 rfl (q := vwCl[12]) rfl) rfl rfl hl.1 rfl (lv_room (Nat.le_of_ble_eq_true rfl)) dX7_verdict_23 ⟨Nat.le_of_ble_eq_true rfl, Nat.le_of_ble_eq_true rfl⟩) hA hw [1] [0] rfl rfl rfl (by decide) (fun r_17 u_18 H locs hp hw => ?_)
      obtain ⟨rfl, rfl⟩ := hp
      have hw : rc_W E A s [(h3, .inr (4, [.int 0, .ref (E.2.2 0), .int 0])), (h0, .inr (12, [.int 1, .ref h1, .ref h2, .ref h3, .ref h4, .ref h5, .int 1, .int 3, .int 50, .int (-1), .int (-1), .int (-1), .int (-1), .int 0, .int 100, .int 1000, .long 0]))] H locs := hw
      exact rc_iret (v := 0) hx hb hr hlocks hw [(h0, .inr (12, [.int 1, .ref h1, .ref h2, .ref h3, .ref h4, .ref h5, .int 1, .int 3, .int 50, .int (-1), .int (-1), .int (-1), .int (-1), .int 0, .int 100, .int 1000, .long 0])), (h3, .inr (4, [.int 0, .ref (E.2.2 0), .int 0]))] (Or.inr (Or.inr (Or.inl ⟨c_13, rfl, rfl, rfl⟩))) [1, 0] rfl (by decide) (Nat.le_of_ble_eq_true rfl) (Nat.le_of_ble_eq_true rfl) dX7_verdict_26
    · have hw : rc_W E A s [(h3, .inr (4, [.int 0, .ref (E.2.2 0), .int 0])), (h0, .inr (12, [.int 0, .ref h1, .ref h2, .ref h3, .ref h4, .ref h5, .int 1, .int 3, .int 50, .int (-1), .int (-1), .int (-1), .int (-1), .int 0, .int 100, .int 1000, .long 0]))] H locs := hw
      refine lv_if_ne (tgt := 27) hx hb dX7_verdict_18 (by decide) (fun c9 => absurd (by decide) c9) (fun _ => ?_)
      refine lv_aload_n hx hb dX7_verdict_21 rfl (lv_at hl 0 rfl) ?_
      refine lv_iconst (v := 1) hx hb dX7_verdict_22 (by decide) ?_
      refine rc_calli (wr := [(h3, .inr (4, [.int 0, .ref (E.2.2 0), .int 0]))]) (va_runV (As := [.int 1]) (rest := []) (Ts := []) ⟨hx, hb, hml, hown, fun _ h9 => absurd h9 List.not_mem_nil⟩ (cw_X7_refuse l E _ h0 h1 h2 h3 h4 h5) (rc_cwV hAm qw_924 qw_13 qw_927 qw_926 qs_50 rfl rfl hd_X7_refuse ⟨Nat.le_of_ble_eq_true rfl, Nat.le_of_ble_eq_true rfl⟩) (rc_preV hAm hA hw [1] rfl rfl 1 rfl (q := vwCl[12]) rfl) rfl rfl hl.1 rfl (lv_room (Nat.le_of_ble_eq_true rfl)) dX7_verdict_23 ⟨Nat.le_of_ble_eq_true rfl, Nat.le_of_ble_eq_true rfl⟩) hA hw [1] [0] rfl rfl rfl (by decide) (fun r_19 u_20 H locs hp hw => ?_)
      obtain ⟨rfl, rfl⟩ := hp
      have hw : rc_W E A s [(h3, .inr (4, [.int 0, .ref (E.2.2 0), .int 0])), (h0, .inr (12, [.int 1, .ref h1, .ref h2, .ref h3, .ref h4, .ref h5, .int 1, .int 3, .int 50, .int (-1), .int (-1), .int (-1), .int (-1), .int 0, .int 100, .int 1000, .long 0]))] H locs := hw
      exact rc_iret (v := 0) hx hb hr hlocks hw [(h0, .inr (12, [.int 1, .ref h1, .ref h2, .ref h3, .ref h4, .ref h5, .int 1, .int 3, .int 50, .int (-1), .int (-1), .int (-1), .int (-1), .int 0, .int 100, .int 1000, .long 0])), (h3, .inr (4, [.int 0, .ref (E.2.2 0), .int 0]))] (Or.inr (Or.inr (Or.inr (Or.inl ⟨c_14, c_15, rfl, rfl, rfl⟩)))) [1, 0] rfl (by decide) (Nat.le_of_ble_eq_true rfl) (Nat.le_of_ble_eq_true rfl) dX7_verdict_26
    · obtain rfl : x1 = 0 := rc_eqc (b := 0) rfl (by have g_c_16 := rc_g5 (b := 0) c_16 rfl; omega)
      have hw : rc_W E A s [(h3, .inr (4, [.int 0, .ref (E.2.2 0), .int 0])), (h0, .inr (12, [.int 0, .ref h1, .ref h2, .ref h3, .ref h4, .ref h5, .int 1, .int 3, .int 50, .int (-1), .int (-1), .int (-1), .int (-1), .int 0, .int 100, .int 1000, .long 0]))] H locs := hw
      refine lv_if_ne (tgt := 27) hx hb dX7_verdict_18 (by decide) (fun _ => ?_) (fun c9 => absurd c9 (by decide))
      refine lv_iload_n hx hb dX7_verdict_27 rfl (lv_at hl 3 rfl) ?_
      refine lv_iconst (v := 0) hx hb dX7_verdict_28 (by decide) ?_
      refine lv_iconst (v := 4) hx hb dX7_verdict_29 (by decide) ?_
      refine rc_calli (wr := [(h3, .inr (4, [.int 0, .ref (E.2.2 0), .int 0])), (h0, .inr (12, [.int 0, .ref h1, .ref h2, .ref h3, .ref h4, .ref h5, .int 1, .int 3, .int 50, .int (-1), .int (-1), .int (-1), .int (-1), .int 0, .int 100, .int 1000, .long 0]))]) (va_runS (As := [.int x2, .int 0, .int 4]) (rest := []) (Ts := []) ⟨hx, hb, hml, hown, fun _ h9 => absurd h9 List.not_mem_nil⟩ (cw_X7_is_4 l E _ x2) (rc_cwS hAm qw_921 qw_13 qw_923 qw_922 rfl rfl hd_X7_is ⟨Nat.le_of_ble_eq_true rfl, Nat.le_of_ble_eq_true rfl⟩) (rc_preS hAm hA hw [] rfl rfl) rfl rfl hl.1 rfl (lv_room (Nat.le_of_ble_eq_true rfl)) dX7_verdict_30 ⟨Nat.le_of_ble_eq_true rfl, Nat.le_of_ble_eq_true rfl⟩) hA hw [] [0, 1] rfl rfl rfl (by decide) (fun r_21 u_22 H locs hp hw => ?_)
      rcases hp with ⟨c_23, rfl, rfl⟩ | ⟨c_24, c_25, rfl, rfl⟩ | ⟨c_26, c_27, rfl, rfl⟩
      · have hw : rc_W E A s [(h3, .inr (4, [.int 0, .ref (E.2.2 0), .int 0])), (h0, .inr (12, [.int 0, .ref h1, .ref h2, .ref h3, .ref h4, .ref h5, .int 1, .int 3, .int 50, .int (-1), .int (-1), .int (-1), .int (-1), .int 0, .int 100, .int 1000, .long 0]))] H locs := hw
        refine lv_if_eq (tgt := 46) hx hb dX7_verdict_33 (by decide) (fun _ => ?_) (fun c9 => absurd (by decide) c9)
        refine lv_aload_n hx hb dX7_verdict_46 rfl (lv_at hl 0 rfl) ?_
        refine lv_iconst (v := 2) hx hb dX7_verdict_47 (by decide) ?_
        refine rc_calli (wr := [(h3, .inr (4, [.int 0, .ref (E.2.2 0), .int 0]))]) (va_runV (As := [.int 2]) (rest := []) (Ts := []) ⟨hx, hb, hml, hown, fun _ h9 => absurd h9 List.not_mem_nil⟩ (cw_X7_refuse_2 l E _ h0 h1 h2 h3 h4 h5) (rc_cwV hAm qw_924 qw_13 qw_927 qw_926 qs_50 rfl rfl hd_X7_refuse ⟨Nat.le_of_ble_eq_true rfl, Nat.le_of_ble_eq_true rfl⟩) (rc_preV hAm hA hw [1] rfl rfl 1 rfl (q := vwCl[12]) rfl) rfl rfl hl.1 rfl (lv_room (Nat.le_of_ble_eq_true rfl)) dX7_verdict_48 ⟨Nat.le_of_ble_eq_true rfl, Nat.le_of_ble_eq_true rfl⟩) hA hw [1] [0] rfl rfl rfl (by decide) (fun r_28 u_29 H locs hp hw => ?_)
        obtain ⟨rfl, rfl⟩ := hp
        have hw : rc_W E A s [(h3, .inr (4, [.int 0, .ref (E.2.2 0), .int 0])), (h0, .inr (12, [.int 2, .ref h1, .ref h2, .ref h3, .ref h4, .ref h5, .int 1, .int 3, .int 50, .int (-1), .int (-1), .int (-1), .int (-1), .int 0, .int 100, .int 1000, .long 0]))] H locs := hw
        exact rc_iret (v := 0) hx hb hr hlocks hw [(h0, .inr (12, [.int 2, .ref h1, .ref h2, .ref h3, .ref h4, .ref h5, .int 1, .int 3, .int 50, .int (-1), .int (-1), .int (-1), .int (-1), .int 0, .int 100, .int 1000, .long 0])), (h3, .inr (4, [.int 0, .ref (E.2.2 0), .int 0]))] (Or.inr (Or.inr (Or.inr (Or.inr (Or.inl ⟨c_23, rfl, rfl, rfl, rfl⟩))))) [1, 0] rfl (by decide) (Nat.le_of_ble_eq_true rfl) (Nat.le_of_ble_eq_true rfl) dX7_verdict_51
      · have hw : rc_W E A s [(h3, .inr (4, [.int 0, .ref (E.2.2 0), .int 0])), (h0, .inr (12, [.int 0, .ref h1, .ref h2, .ref h3, .ref h4, .ref h5, .int 1, .int 3, .int 50, .int (-1), .int (-1), .int (-1), .int (-1), .int 0, .int 100, .int 1000, .long 0]))] H locs := hw
        refine lv_if_eq (tgt := 46) hx hb dX7_verdict_33 (by decide) (fun _ => ?_) (fun c9 => absurd (by decide) c9)
        refine lv_aload_n hx hb dX7_verdict_46 rfl (lv_at hl 0 rfl) ?_
        refine lv_iconst (v := 2) hx hb dX7_verdict_47 (by decide) ?_
        refine rc_calli (wr := [(h3, .inr (4, [.int 0, .ref (E.2.2 0), .int 0]))]) (va_runV (As := [.int 2]) (rest := []) (Ts := []) ⟨hx, hb, hml, hown, fun _ h9 => absurd h9 List.not_mem_nil⟩ (cw_X7_refuse_2 l E _ h0 h1 h2 h3 h4 h5) (rc_cwV hAm qw_924 qw_13 qw_927 qw_926 qs_50 rfl rfl hd_X7_refuse ⟨Nat.le_of_ble_eq_true rfl, Nat.le_of_ble_eq_true rfl⟩) (rc_preV hAm hA hw [1] rfl rfl 1 rfl (q := vwCl[12]) rfl) rfl rfl hl.1 rfl (lv_room (Nat.le_of_ble_eq_true rfl)) dX7_verdict_48 ⟨Nat.le_of_ble_eq_true rfl, Nat.le_of_ble_eq_true rfl⟩) hA hw [1] [0] rfl rfl rfl (by decide) (fun r_30 u_31 H locs hp hw => ?_)
        obtain ⟨rfl, rfl⟩ := hp
        have hw : rc_W E A s [(h3, .inr (4, [.int 0, .ref (E.2.2 0), .int 0])), (h0, .inr (12, [.int 2, .ref h1, .ref h2, .ref h3, .ref h4, .ref h5, .int 1, .int 3, .int 50, .int (-1), .int (-1), .int (-1), .int (-1), .int 0, .int 100, .int 1000, .long 0]))] H locs := hw
        exact rc_iret (v := 0) hx hb hr hlocks hw [(h0, .inr (12, [.int 2, .ref h1, .ref h2, .ref h3, .ref h4, .ref h5, .int 1, .int 3, .int 50, .int (-1), .int (-1), .int (-1), .int (-1), .int 0, .int 100, .int 1000, .long 0])), (h3, .inr (4, [.int 0, .ref (E.2.2 0), .int 0]))] (Or.inr (Or.inr (Or.inr (Or.inr (Or.inr (Or.inl ⟨c_24, c_25, rfl, rfl, rfl, rfl⟩)))))) [1, 0] rfl (by decide) (Nat.le_of_ble_eq_true rfl) (Nat.le_of_ble_eq_true rfl) dX7_verdict_51
      · have hw : rc_W E A s [(h3, .inr (4, [.int 0, .ref (E.2.2 0), .int 0])), (h0, .inr (12, [.int 0, .ref h1, .ref h2, .ref h3, .ref h4, .ref h5, .int 1, .int 3, .int 50, .int (-1), .int (-1), .int (-1), .int (-1), .int 0, .int 100, .int 1000, .long 0]))] H locs := hw
        refine lv_if_eq (tgt := 46) hx hb dX7_verdict_33 (by decide) (fun c9 => absurd c9 (by decide)) (fun _ => ?_)
        refine lv_aload_n hx hb dX7_verdict_36 rfl (lv_at hl 0 rfl) ?_
        refine lv_iload_n hx hb dX7_verdict_37 rfl (lv_at hl 1 rfl) ?_
        refine lv_iload_n hx hb dX7_verdict_38 rfl (lv_at hl 2 rfl) ?_
        refine lv_iload_n hx hb dX7_verdict_39 rfl (lv_at hl 3 rfl) ?_
        rcases Decidable.em (x2 = 0) with c_32 | c_32
        · obtain rfl : x2 = 0 := rc_eqc (b := 0) rfl (rc_g5 c_32 rfl)
          refine rc_calli (wr := []) (va_runV (As := [.int 0, .int 0, .int 0]) (rest := []) (Ts := []) ⟨hx, hb, hml, hown, fun _ h9 => absurd h9 List.not_mem_nil⟩ (cw_X7_verdictNow l E _ h0 h1 h2 h3 h4 h5) (rc_cwV hAm qw_963 qw_13 qw_966 qw_965 qs_53 rfl rfl hd_X7_verdictNow ⟨Nat.le_of_ble_eq_true rfl, Nat.le_of_ble_eq_true rfl⟩) (rc_preV hAm hA hw [1, 0] rfl rfl 1 rfl (q := vwCl[12]) rfl) rfl rfl hl.1 rfl (lv_room (Nat.le_of_ble_eq_true rfl)) dX7_verdict_40 ⟨Nat.le_of_ble_eq_true rfl, Nat.le_of_ble_eq_true rfl⟩) hA hw [1, 0] [] rfl rfl rfl (by decide) (fun r_33 u_34 H locs hp hw => ?_)
          obtain ⟨rfl, rfl⟩ := hp
          have hw : rc_W E A s [(h0, .inr (12, [.int 0, .ref h1, .ref h2, .ref h3, .ref h4, .ref h5, .int 1, .int 3, .int 50, .int (-1), .int (-1), .int (-1), .int (-1), .int 0, .int 100, .int 1000, .long 0])), (h3, .inr (4, [.int 0, .ref (E.2.2 0), .int 0]))] H locs := hw
          refine lv_goto (tgt := 51) hx hb dX7_verdict_43 (by decide) ?_
          exact rc_iret (v := 0) hx hb hr hlocks hw [(h0, .inr (12, [.int 0, .ref h1, .ref h2, .ref h3, .ref h4, .ref h5, .int 1, .int 3, .int 50, .int (-1), .int (-1), .int (-1), .int (-1), .int 0, .int 100, .int 1000, .long 0])), (h3, .inr (4, [.int 0, .ref (E.2.2 0), .int 0]))] (Or.inr (Or.inr (Or.inr (Or.inr (Or.inr (Or.inr (Or.inl ⟨rfl, rfl, rfl, rfl, rfl⟩))))))) [0, 1] rfl (by decide) (Nat.le_of_ble_eq_true rfl) (Nat.le_of_ble_eq_true rfl) dX7_verdict_51
        · rcases Decidable.em (x2 = 1) with c_35 | c_35
          · obtain rfl : x2 = 1 := rc_eqc (b := 1) rfl (rc_g5 c_35 rfl)
            refine rc_calli (wr := []) (va_runV (As := [.int 0, .int 0, .int 1]) (rest := []) (Ts := []) ⟨hx, hb, hml, hown, fun _ h9 => absurd h9 List.not_mem_nil⟩ (cw_X7_verdictNow_2 l E _ h0 h1 h2 h3 h4 h5) (rc_cwV hAm qw_963 qw_13 qw_966 qw_965 qs_53 rfl rfl hd_X7_verdictNow ⟨Nat.le_of_ble_eq_true rfl, Nat.le_of_ble_eq_true rfl⟩) (rc_preV hAm hA hw [1, 0] rfl rfl 1 rfl (q := vwCl[12]) rfl) rfl rfl hl.1 rfl (lv_room (Nat.le_of_ble_eq_true rfl)) dX7_verdict_40 ⟨Nat.le_of_ble_eq_true rfl, Nat.le_of_ble_eq_true rfl⟩) hA hw [1, 0] [] rfl rfl rfl (by decide) (fun r_36 u_37 H locs hp hw => ?_)
            obtain ⟨rfl, rfl⟩ := hp
            have hw : rc_W E A s [(h0, .inr (12, [.int 0, .ref h1, .ref h2, .ref h3, .ref h4, .ref h5, .int 1, .int 3, .int 50, .int (-1), .int (-1), .int (-1), .int (-1), .int 0, .int 100, .int 1000, .long 0])), (h3, .inr (4, [.int 0, .ref (E.2.2 0), .int 0]))] H locs := hw
            refine lv_goto (tgt := 51) hx hb dX7_verdict_43 (by decide) ?_
            exact rc_iret (v := 0) hx hb hr hlocks hw [(h0, .inr (12, [.int 0, .ref h1, .ref h2, .ref h3, .ref h4, .ref h5, .int 1, .int 3, .int 50, .int (-1), .int (-1), .int (-1), .int (-1), .int 0, .int 100, .int 1000, .long 0])), (h3, .inr (4, [.int 0, .ref (E.2.2 0), .int 0]))] (Or.inr (Or.inr (Or.inr (Or.inr (Or.inr (Or.inr (Or.inr (Or.inl ⟨rfl, rfl, rfl, rfl, rfl⟩)))))))) [0, 1] rfl (by decide) (Nat.le_of_ble_eq_true rfl) (Nat.le_of_ble_eq_true rfl) dX7_verdict_51
          · rcases Decidable.em (x2 = 2) with c_38 | c_38
            · obtain rfl : x2 = 2 := rc_eqc (b := 2) rfl (rc_g5 c_38 rfl)
              refine rc_calli (wr := []) (va_runV (As := [.int 0, .int 0, .int 2]) (rest := []) (Ts := []) ⟨hx, hb, hml, hown, fun _ h9 => absurd h9 List.not_mem_nil⟩ (cw_X7_verdictNow_3 l E _ h0 h1 h2 h3 h4 h5) (rc_cwV hAm qw_963 qw_13 qw_966 qw_965 qs_53 rfl rfl hd_X7_verdictNow ⟨Nat.le_of_ble_eq_true rfl, Nat.le_of_ble_eq_true rfl⟩) (rc_preV hAm hA hw [1, 0] rfl rfl 1 rfl (q := vwCl[12]) rfl) rfl rfl hl.1 rfl (lv_room (Nat.le_of_ble_eq_true rfl)) dX7_verdict_40 ⟨Nat.le_of_ble_eq_true rfl, Nat.le_of_ble_eq_true rfl⟩) hA hw [1, 0] [] rfl rfl rfl (by decide) (fun r_39 u_40 H locs hp hw => ?_)
              obtain ⟨rfl, rfl⟩ := hp
              have hw : rc_W E A s [(h0, .inr (12, [.int 0, .ref h1, .ref h2, .ref h3, .ref h4, .ref h5, .int 1, .int 3, .int 50, .int (-1), .int (-1), .int (-1), .int (-1), .int 0, .int 100, .int 1000, .long 0])), (h3, .inr (4, [.int 0, .ref (E.2.2 0), .int 0]))] H locs := hw
              refine lv_goto (tgt := 51) hx hb dX7_verdict_43 (by decide) ?_
              exact rc_iret (v := 1) hx hb hr hlocks hw [(h0, .inr (12, [.int 0, .ref h1, .ref h2, .ref h3, .ref h4, .ref h5, .int 1, .int 3, .int 50, .int (-1), .int (-1), .int (-1), .int (-1), .int 0, .int 100, .int 1000, .long 0])), (h3, .inr (4, [.int 0, .ref (E.2.2 0), .int 0]))] (Or.inr (Or.inr (Or.inr (Or.inr (Or.inr (Or.inr (Or.inr (Or.inr (Or.inl ⟨rfl, rfl, rfl, rfl, rfl⟩))))))))) [0, 1] rfl (by decide) (Nat.le_of_ble_eq_true rfl) (Nat.le_of_ble_eq_true rfl) dX7_verdict_51
            · rcases Decidable.em (x2 = 3) with c_41 | c_41
              · obtain rfl : x2 = 3 := rc_eqc (b := 3) rfl (rc_g5 c_41 rfl)
                refine rc_calli (wr := []) (va_runV (As := [.int 0, .int 0, .int 3]) (rest := []) (Ts := []) ⟨hx, hb, hml, hown, fun _ h9 => absurd h9 List.not_mem_nil⟩ (cw_X7_verdictNow_4 l E _ h0 h1 h2 h3 h4 h5) (rc_cwV hAm qw_963 qw_13 qw_966 qw_965 qs_53 rfl rfl hd_X7_verdictNow ⟨Nat.le_of_ble_eq_true rfl, Nat.le_of_ble_eq_true rfl⟩) (rc_preV hAm hA hw [1, 0] rfl rfl 1 rfl (q := vwCl[12]) rfl) rfl rfl hl.1 rfl (lv_room (Nat.le_of_ble_eq_true rfl)) dX7_verdict_40 ⟨Nat.le_of_ble_eq_true rfl, Nat.le_of_ble_eq_true rfl⟩) hA hw [1, 0] [] rfl rfl rfl (by decide) (fun r_42 u_43 H locs hp hw => ?_)
                obtain ⟨rfl, rfl⟩ := hp
                have hw : rc_W E A s [(h0, .inr (12, [.int 0, .ref h1, .ref h2, .ref h3, .ref h4, .ref h5, .int 1, .int 3, .int 50, .int (-1), .int (-1), .int (-1), .int (-1), .int 0, .int 100, .int 1000, .long 0])), (h3, .inr (4, [.int 0, .ref (E.2.2 0), .int 0]))] H locs := hw
                refine lv_goto (tgt := 51) hx hb dX7_verdict_43 (by decide) ?_
                exact rc_iret (v := 1) hx hb hr hlocks hw [(h0, .inr (12, [.int 0, .ref h1, .ref h2, .ref h3, .ref h4, .ref h5, .int 1, .int 3, .int 50, .int (-1), .int (-1), .int (-1), .int (-1), .int 0, .int 100, .int 1000, .long 0])), (h3, .inr (4, [.int 0, .ref (E.2.2 0), .int 0]))] (Or.inr (Or.inr (Or.inr (Or.inr (Or.inr (Or.inr (Or.inr (Or.inr (Or.inr (Or.inl ⟨rfl, rfl, rfl, rfl, rfl⟩)))))))))) [0, 1] rfl (by decide) (Nat.le_of_ble_eq_true rfl) (Nat.le_of_ble_eq_true rfl) dX7_verdict_51
              · obtain rfl : x2 = 4 := rc_eqc (b := 4) rfl (by have g_c_26 := rc_n1 (b := 0) c_26 rfl; have g_c_27 := rc_n2 (b := 4) c_27 rfl; have g_c_32 := rc_n5 (b := 0) c_32 rfl; have g_c_35 := rc_n5 (b := 1) c_35 rfl; have g_c_38 := rc_n5 (b := 2) c_38 rfl; have g_c_41 := rc_n5 (b := 3) c_41 rfl; omega)
                refine rc_calli (wr := []) (va_runV (As := [.int 0, .int 0, .int 4]) (rest := []) (Ts := []) ⟨hx, hb, hml, hown, fun _ h9 => absurd h9 List.not_mem_nil⟩ (cw_X7_verdictNow_5 l E _ h0 h1 h2 h3 h4 h5) (rc_cwV hAm qw_963 qw_13 qw_966 qw_965 qs_53 rfl rfl hd_X7_verdictNow ⟨Nat.le_of_ble_eq_true rfl, Nat.le_of_ble_eq_true rfl⟩) (rc_preV hAm hA hw [1, 0] rfl rfl 1 rfl (q := vwCl[12]) rfl) rfl rfl hl.1 rfl (lv_room (Nat.le_of_ble_eq_true rfl)) dX7_verdict_40 ⟨Nat.le_of_ble_eq_true rfl, Nat.le_of_ble_eq_true rfl⟩) hA hw [1, 0] [] rfl rfl rfl (by decide) (fun r_44 u_45 H locs hp hw => ?_)
                obtain ⟨rfl, rfl⟩ := hp
                have hw : rc_W E A s [(h0, .inr (12, [.int 0, .ref h1, .ref h2, .ref h3, .ref h4, .ref h5, .int 1, .int 3, .int 50, .int (-1), .int (-1), .int (-1), .int (-1), .int 0, .int 100, .int 1000, .long 0])), (h3, .inr (4, [.int 0, .ref (E.2.2 0), .int 0]))] H locs := hw
                refine lv_goto (tgt := 51) hx hb dX7_verdict_43 (by decide) ?_
                exact rc_iret (v := 1) hx hb hr hlocks hw [(h0, .inr (12, [.int 0, .ref h1, .ref h2, .ref h3, .ref h4, .ref h5, .int 1, .int 3, .int 50, .int (-1), .int (-1), .int (-1), .int (-1), .int 0, .int 100, .int 1000, .long 0])), (h3, .inr (4, [.int 0, .ref (E.2.2 0), .int 0]))] (Or.inr (Or.inr (Or.inr (Or.inr (Or.inr (Or.inr (Or.inr (Or.inr (Or.inr (Or.inr ⟨rfl, rfl, rfl, rfl, rfl⟩)))))))))) [0, 1] rfl (by decide) (Nat.le_of_ble_eq_true rfl) (Nat.le_of_ble_eq_true rfl) dX7_verdict_51
set_option maxHeartbeats 4000000 in
set_option maxRecDepth 100000 in
theorem cw_X7_doubt (l : Launch) (E : rc_E) (sz : Nat) (h0 : Nat) (x0 : Int32) (x1 : Int32) (h1 : Nat) (h2 : Nat) (h3 : Nat) (h4 : Nat) (h5 : Nat) : rc_Md l yX7_doubt [Cond.code yX7_doubt cX7_doubt 4 (some FieldType.double)] { frames := 6, cells := 8, slots := 18, locals := 162 } E [.ref h0, .int x0, .int x1] [(h0, .inr (12, [.int 0, .ref h1, .ref h2, .ref h3, .ref h4, .ref h5, .int 1, .int 3, .int 50, .int (-1), .int (-1), .int (-1), .int (-1), .int 0, .int 100, .int 1000, .long 0])), (h3, .inr (4, [.int 0, .ref (E.2.2 0), .int 0]))] sz (S := va_W) (fun (r : UInt64) (u : va_W) => (x0 < 0 ∧ FP.dconst0 = r ∧ u = [(h0, .inr (12, [.int 1, .ref h1, .ref h2, .ref h3, .ref h4, .ref h5, .int 1, .int 3, .int 50, .int (-1), .int (-1), .int (-1), .int (-1), .int 0, .int 100, .int 1000, .long 0])), (h3, .inr (4, [.int 0, .ref (E.2.2 0), .int 0]))]) ∨ (¬ x0 < 0 ∧ 0 < x0 ∧ FP.dconst0 = r ∧ u = [(h0, .inr (12, [.int 1, .ref h1, .ref h2, .ref h3, .ref h4, .ref h5, .int 1, .int 3, .int 50, .int (-1), .int (-1), .int (-1), .int (-1), .int 0, .int 100, .int 1000, .long 0])), (h3, .inr (4, [.int 0, .ref (E.2.2 0), .int 0]))]) ∨ (x1 < 0 ∧ x0 = 0 ∧ FP.dconst0 = r ∧ u = [(h0, .inr (12, [.int 1, .ref h1, .ref h2, .ref h3, .ref h4, .ref h5, .int 1, .int 3, .int 50, .int (-1), .int (-1), .int (-1), .int (-1), .int 0, .int 100, .int 1000, .long 0])), (h3, .inr (4, [.int 0, .ref (E.2.2 0), .int 0]))]) ∨ (¬ x1 < 0 ∧ 0 < x1 ∧ x0 = 0 ∧ FP.dconst0 = r ∧ u = [(h0, .inr (12, [.int 1, .ref h1, .ref h2, .ref h3, .ref h4, .ref h5, .int 1, .int 3, .int 50, .int (-1), .int (-1), .int (-1), .int (-1), .int 0, .int 100, .int 1000, .long 0])), (h3, .inr (4, [.int 0, .ref (E.2.2 0), .int 0]))]) ∨ (x0 = 0 ∧ x1 = 0 ∧ FP.ddiv (FP.i2d 1) (FP.i2d 1) = r ∧ u = [(h0, .inr (12, [.int 0, .ref h1, .ref h2, .ref h3, .ref h4, .ref h5, .int 1, .int 3, .int 50, .int (-1), .int (-1), .int (-1), .int (-1), .int 0, .int 100, .int 1000, .long 0])), (h3, .inr (4, [.int 0, .ref (E.2.2 0), .int 0]))])) (fun u => u) 8 18 := by
  refine rc_ind (cc := cX7_doubt) (maxL := 4) (ret := (some FieldType.double)) (by decide) rfl (Nat.le_of_ble_eq_true rfl) ?_
  intro p e s m args below meth c ls A hx hb hr hml _ hown hlocks hin hA hAm hw hl
  have hown : s.vm.findClass RX7 = some m.cls := hown
  have hl : lv_has ls 4 [(0, .ref h0), (1, .int x0), (2, .int x1)] := hl
  refine lv_aload_n hx hb dX7_doubt_0 rfl (lv_at hl 0 rfl) ?_
  refine lv_aload_n hx hb dX7_doubt_1 rfl (lv_at hl 0 rfl) ?_
  refine lv_iload_n hx hb dX7_doubt_2 rfl (lv_at hl 1 rfl) ?_
  refine rc_calli (wr := [(h3, .inr (4, [.int 0, .ref (E.2.2 0), .int 0]))]) (va_runV (As := [.int x0]) (rest := [.ref h0]) (Ts := []) ⟨hx, hb, hml, hown, fun _ h9 => absurd h9 List.not_mem_nil⟩ (cw_X7_isChange l E _ h0 x0 h1 h2 h3 h4 h5) (rc_cwV hAm qw_1353 qw_13 qw_1356 qw_1355 qs_62 rfl rfl hd_X7_isChange ⟨Nat.le_of_ble_eq_true rfl, Nat.le_of_ble_eq_true rfl⟩) (rc_preV hAm hA hw [0] rfl rfl 0 rfl (q := vwCl[12]) rfl) rfl rfl hl.1 rfl (lv_room (Nat.le_of_ble_eq_true rfl)) dX7_doubt_3 ⟨Nat.le_of_ble_eq_true rfl, Nat.le_of_ble_eq_true rfl⟩) hA hw [0] [1] rfl rfl rfl (by decide) (fun r_1 u_2 H locs hp hw => ?_)
  rcases hp with ⟨c_3, rfl, rfl⟩ | ⟨c_4, c_5, rfl, rfl⟩ | ⟨c_6, rfl, rfl⟩
  · have hw : rc_W E A s [(h3, .inr (4, [.int 0, .ref (E.2.2 0), .int 0])), (h0, .inr (12, [.int 0, .ref h1, .ref h2, .ref h3, .ref h4, .ref h5, .int 1, .int 3, .int 50, .int (-1), .int (-1), .int (-1), .int (-1), .int 0, .int 100, .int 1000, .long 0]))] H locs := hw
    refine lv_if_eq (tgt := 21) hx hb dX7_doubt_6 (by decide) (fun _ => ?_) (fun c9 => absurd (by decide) c9)
    refine lv_iconst (v := 1) hx hb dX7_doubt_21 (by decide) ?_
    refine rc_put hx hb hown hAm hw lyX7 tyX7 tyX7_ok nmX7 1 rfl rfl 0 (by decide) qw_860 (fun _ h9 => h9) rfl rfl (by decide +kernel) (Nat.le_of_ble_eq_true rfl) [(h3, .inr (4, [.int 0, .ref (E.2.2 0), .int 0])), (h0, .inr (12, [.int 1, .ref h1, .ref h2, .ref h3, .ref h4, .ref h5, .int 1, .int 3, .int 50, .int (-1), .int (-1), .int (-1), .int (-1), .int 0, .int 100, .int 1000, .long 0]))] rfl dX7_doubt_22 (fun H locs hw => ?_)
    refine lv_aload_n hx hb dX7_doubt_25 rfl (lv_at hl 0 rfl) ?_
    refine rc_get (v := .int 1) hx hb hown hAm hw lyX7 1 rfl rfl 0 (by decide) qw_860 (fun _ h9 => h9) rfl dX7_doubt_26 ?_
    refine lv_if_le (tgt := 34) hx hb dX7_doubt_29 (by decide) (fun c9 => absurd c9 (by decide)) (fun _ => ?_)
    refine lv_dconst0 hx hb dX7_doubt_32 ?_
    exact rc_dret (v := FP.dconst0) hx hb hr hlocks hw [(h0, .inr (12, [.int 1, .ref h1, .ref h2, .ref h3, .ref h4, .ref h5, .int 1, .int 3, .int 50, .int (-1), .int (-1), .int (-1), .int (-1), .int 0, .int 100, .int 1000, .long 0])), (h3, .inr (4, [.int 0, .ref (E.2.2 0), .int 0]))] (Or.inl ⟨c_3, rfl, rfl⟩) [1, 0] rfl (by decide) (Nat.le_of_ble_eq_true rfl) (Nat.le_of_ble_eq_true rfl) dX7_doubt_33
  · have hw : rc_W E A s [(h3, .inr (4, [.int 0, .ref (E.2.2 0), .int 0])), (h0, .inr (12, [.int 0, .ref h1, .ref h2, .ref h3, .ref h4, .ref h5, .int 1, .int 3, .int 50, .int (-1), .int (-1), .int (-1), .int (-1), .int 0, .int 100, .int 1000, .long 0]))] H locs := hw
    refine lv_if_eq (tgt := 21) hx hb dX7_doubt_6 (by decide) (fun _ => ?_) (fun c9 => absurd (by decide) c9)
    refine lv_iconst (v := 1) hx hb dX7_doubt_21 (by decide) ?_
    refine rc_put hx hb hown hAm hw lyX7 tyX7 tyX7_ok nmX7 1 rfl rfl 0 (by decide) qw_860 (fun _ h9 => h9) rfl rfl (by decide +kernel) (Nat.le_of_ble_eq_true rfl) [(h3, .inr (4, [.int 0, .ref (E.2.2 0), .int 0])), (h0, .inr (12, [.int 1, .ref h1, .ref h2, .ref h3, .ref h4, .ref h5, .int 1, .int 3, .int 50, .int (-1), .int (-1), .int (-1), .int (-1), .int 0, .int 100, .int 1000, .long 0]))] rfl dX7_doubt_22 (fun H locs hw => ?_)
    refine lv_aload_n hx hb dX7_doubt_25 rfl (lv_at hl 0 rfl) ?_
    refine rc_get (v := .int 1) hx hb hown hAm hw lyX7 1 rfl rfl 0 (by decide) qw_860 (fun _ h9 => h9) rfl dX7_doubt_26 ?_
    refine lv_if_le (tgt := 34) hx hb dX7_doubt_29 (by decide) (fun c9 => absurd c9 (by decide)) (fun _ => ?_)
    refine lv_dconst0 hx hb dX7_doubt_32 ?_
    exact rc_dret (v := FP.dconst0) hx hb hr hlocks hw [(h0, .inr (12, [.int 1, .ref h1, .ref h2, .ref h3, .ref h4, .ref h5, .int 1, .int 3, .int 50, .int (-1), .int (-1), .int (-1), .int (-1), .int 0, .int 100, .int 1000, .long 0])), (h3, .inr (4, [.int 0, .ref (E.2.2 0), .int 0]))] (Or.inr (Or.inl ⟨c_4, c_5, rfl, rfl⟩)) [1, 0] rfl (by decide) (Nat.le_of_ble_eq_true rfl) (Nat.le_of_ble_eq_true rfl) dX7_doubt_33
  · obtain rfl : x0 = 0 := rc_eqc (b := 0) rfl (by have g_c_6 := rc_g5 (b := 0) c_6 rfl; omega)
    have hw : rc_W E A s [(h3, .inr (4, [.int 0, .ref (E.2.2 0), .int 0])), (h0, .inr (12, [.int 0, .ref h1, .ref h2, .ref h3, .ref h4, .ref h5, .int 1, .int 3, .int 50, .int (-1), .int (-1), .int (-1), .int (-1), .int 0, .int 100, .int 1000, .long 0]))] H locs := hw
    refine lv_if_eq (tgt := 21) hx hb dX7_doubt_6 (by decide) (fun c9 => absurd c9 (by decide)) (fun _ => ?_)
    refine lv_aload_n hx hb dX7_doubt_9 rfl (lv_at hl 0 rfl) ?_
    refine lv_iload_n hx hb dX7_doubt_10 rfl (lv_at hl 2 rfl) ?_
    refine rc_calli (wr := [(h3, .inr (4, [.int 0, .ref (E.2.2 0), .int 0]))]) (va_runV (As := [.int x1]) (rest := [.ref h0]) (Ts := []) ⟨hx, hb, hml, hown, fun _ h9 => absurd h9 List.not_mem_nil⟩ (cw_X7_isChange l E _ h0 x1 h1 h2 h3 h4 h5) (rc_cwV hAm qw_1353 qw_13 qw_1356 qw_1355 qs_62 rfl rfl hd_X7_isChange ⟨Nat.le_of_ble_eq_true rfl, Nat.le_of_ble_eq_true rfl⟩) (rc_preV hAm hA hw [1] rfl rfl 1 rfl (q := vwCl[12]) rfl) rfl rfl hl.1 rfl (lv_room (Nat.le_of_ble_eq_true rfl)) dX7_doubt_11 ⟨Nat.le_of_ble_eq_true rfl, Nat.le_of_ble_eq_true rfl⟩) hA hw [1] [0] rfl rfl rfl (by decide) (fun r_7 u_8 H locs hp hw => ?_)
    rcases hp with ⟨c_9, rfl, rfl⟩ | ⟨c_10, c_11, rfl, rfl⟩ | ⟨c_12, rfl, rfl⟩
    · have hw : rc_W E A s [(h3, .inr (4, [.int 0, .ref (E.2.2 0), .int 0])), (h0, .inr (12, [.int 0, .ref h1, .ref h2, .ref h3, .ref h4, .ref h5, .int 1, .int 3, .int 50, .int (-1), .int (-1), .int (-1), .int (-1), .int 0, .int 100, .int 1000, .long 0]))] H locs := hw
      refine lv_if_eq (tgt := 21) hx hb dX7_doubt_14 (by decide) (fun _ => ?_) (fun c9 => absurd (by decide) c9)
      refine lv_iconst (v := 1) hx hb dX7_doubt_21 (by decide) ?_
      refine rc_put hx hb hown hAm hw lyX7 tyX7 tyX7_ok nmX7 1 rfl rfl 0 (by decide) qw_860 (fun _ h9 => h9) rfl rfl (by decide +kernel) (Nat.le_of_ble_eq_true rfl) [(h3, .inr (4, [.int 0, .ref (E.2.2 0), .int 0])), (h0, .inr (12, [.int 1, .ref h1, .ref h2, .ref h3, .ref h4, .ref h5, .int 1, .int 3, .int 50, .int (-1), .int (-1), .int (-1), .int (-1), .int 0, .int 100, .int 1000, .long 0]))] rfl dX7_doubt_22 (fun H locs hw => ?_)
      refine lv_aload_n hx hb dX7_doubt_25 rfl (lv_at hl 0 rfl) ?_
      refine rc_get (v := .int 1) hx hb hown hAm hw lyX7 1 rfl rfl 0 (by decide) qw_860 (fun _ h9 => h9) rfl dX7_doubt_26 ?_
      refine lv_if_le (tgt := 34) hx hb dX7_doubt_29 (by decide) (fun c9 => absurd c9 (by decide)) (fun _ => ?_)
      refine lv_dconst0 hx hb dX7_doubt_32 ?_
      exact rc_dret (v := FP.dconst0) hx hb hr hlocks hw [(h0, .inr (12, [.int 1, .ref h1, .ref h2, .ref h3, .ref h4, .ref h5, .int 1, .int 3, .int 50, .int (-1), .int (-1), .int (-1), .int (-1), .int 0, .int 100, .int 1000, .long 0])), (h3, .inr (4, [.int 0, .ref (E.2.2 0), .int 0]))] (Or.inr (Or.inr (Or.inl ⟨c_9, rfl, rfl, rfl⟩))) [1, 0] rfl (by decide) (Nat.le_of_ble_eq_true rfl) (Nat.le_of_ble_eq_true rfl) dX7_doubt_33
    · have hw : rc_W E A s [(h3, .inr (4, [.int 0, .ref (E.2.2 0), .int 0])), (h0, .inr (12, [.int 0, .ref h1, .ref h2, .ref h3, .ref h4, .ref h5, .int 1, .int 3, .int 50, .int (-1), .int (-1), .int (-1), .int (-1), .int 0, .int 100, .int 1000, .long 0]))] H locs := hw
      refine lv_if_eq (tgt := 21) hx hb dX7_doubt_14 (by decide) (fun _ => ?_) (fun c9 => absurd (by decide) c9)
      refine lv_iconst (v := 1) hx hb dX7_doubt_21 (by decide) ?_
      refine rc_put hx hb hown hAm hw lyX7 tyX7 tyX7_ok nmX7 1 rfl rfl 0 (by decide) qw_860 (fun _ h9 => h9) rfl rfl (by decide +kernel) (Nat.le_of_ble_eq_true rfl) [(h3, .inr (4, [.int 0, .ref (E.2.2 0), .int 0])), (h0, .inr (12, [.int 1, .ref h1, .ref h2, .ref h3, .ref h4, .ref h5, .int 1, .int 3, .int 50, .int (-1), .int (-1), .int (-1), .int (-1), .int 0, .int 100, .int 1000, .long 0]))] rfl dX7_doubt_22 (fun H locs hw => ?_)
      refine lv_aload_n hx hb dX7_doubt_25 rfl (lv_at hl 0 rfl) ?_
      refine rc_get (v := .int 1) hx hb hown hAm hw lyX7 1 rfl rfl 0 (by decide) qw_860 (fun _ h9 => h9) rfl dX7_doubt_26 ?_
      refine lv_if_le (tgt := 34) hx hb dX7_doubt_29 (by decide) (fun c9 => absurd c9 (by decide)) (fun _ => ?_)
      refine lv_dconst0 hx hb dX7_doubt_32 ?_
      exact rc_dret (v := FP.dconst0) hx hb hr hlocks hw [(h0, .inr (12, [.int 1, .ref h1, .ref h2, .ref h3, .ref h4, .ref h5, .int 1, .int 3, .int 50, .int (-1), .int (-1), .int (-1), .int (-1), .int 0, .int 100, .int 1000, .long 0])), (h3, .inr (4, [.int 0, .ref (E.2.2 0), .int 0]))] (Or.inr (Or.inr (Or.inr (Or.inl ⟨c_10, c_11, rfl, rfl, rfl⟩)))) [1, 0] rfl (by decide) (Nat.le_of_ble_eq_true rfl) (Nat.le_of_ble_eq_true rfl) dX7_doubt_33
    · obtain rfl : x1 = 0 := rc_eqc (b := 0) rfl (by have g_c_12 := rc_g5 (b := 0) c_12 rfl; omega)
      have hw : rc_W E A s [(h3, .inr (4, [.int 0, .ref (E.2.2 0), .int 0])), (h0, .inr (12, [.int 0, .ref h1, .ref h2, .ref h3, .ref h4, .ref h5, .int 1, .int 3, .int 50, .int (-1), .int (-1), .int (-1), .int (-1), .int 0, .int 100, .int 1000, .long 0]))] H locs := hw
      refine lv_if_eq (tgt := 21) hx hb dX7_doubt_14 (by decide) (fun c9 => absurd c9 (by decide)) (fun _ => ?_)
      refine lv_iconst (v := 0) hx hb dX7_doubt_17 (by decide) ?_
      refine lv_goto (tgt := 22) hx hb dX7_doubt_18 (by decide) ?_
      refine rc_put hx hb hown hAm hw lyX7 tyX7 tyX7_ok nmX7 1 rfl rfl 0 (by decide) qw_860 (fun _ h9 => h9) rfl rfl (by decide +kernel) (Nat.le_of_ble_eq_true rfl) [(h3, .inr (4, [.int 0, .ref (E.2.2 0), .int 0])), (h0, .inr (12, [.int 0, .ref h1, .ref h2, .ref h3, .ref h4, .ref h5, .int 1, .int 3, .int 50, .int (-1), .int (-1), .int (-1), .int (-1), .int 0, .int 100, .int 1000, .long 0]))] rfl dX7_doubt_22 (fun H locs hw => ?_)
      refine lv_aload_n hx hb dX7_doubt_25 rfl (lv_at hl 0 rfl) ?_
      refine rc_get (v := .int 0) hx hb hown hAm hw lyX7 1 rfl rfl 0 (by decide) qw_860 (fun _ h9 => h9) rfl dX7_doubt_26 ?_
      refine lv_if_le (tgt := 34) hx hb dX7_doubt_29 (by decide) (fun _ => ?_) (fun c9 => absurd (by decide) c9)
      refine lv_aload_n hx hb dX7_doubt_34 rfl (lv_at hl 0 rfl) ?_
      refine lv_iload_n hx hb dX7_doubt_35 rfl (lv_at hl 1 rfl) ?_
      refine rc_callr (wr := []) (va_runV (As := [.int 0]) (rest := []) (Ts := []) ⟨hx, hb, hml, hown, fun _ h9 => absurd h9 List.not_mem_nil⟩ (cw_X7_sample_ l E _ h0 h1 h2 h3 h4 h5) (rc_cwV hAm qw_967 qw_13 qw_970 qw_969 qs_54 rfl rfl hd_X7_sample_ ⟨Nat.le_of_ble_eq_true rfl, Nat.le_of_ble_eq_true rfl⟩) (rc_preV hAm hA hw [1, 0] rfl rfl 1 rfl (q := vwCl[12]) rfl) rfl rfl hl.1 rfl (lv_room (Nat.le_of_ble_eq_true rfl)) dX7_doubt_36 ⟨Nat.le_of_ble_eq_true rfl, Nat.le_of_ble_eq_true rfl⟩) hA hw [1, 0] [] rfl rfl rfl (by decide) (fun u_14 r_13 H locs hp hw => ?_)
      obtain ⟨q1, rfl, rfl⟩ := hp
      have hw : rc_W E A s [(h0, .inr (12, [.int 0, .ref h1, .ref h2, .ref h3, .ref h4, .ref h5, .int 1, .int 3, .int 50, .int (-1), .int (-1), .int (-1), .int (-1), .int 0, .int 100, .int 1000, .long 0])), (h3, .inr (4, [.int 0, .ref (E.2.2 0), .int 0])), (q1, .inl (E.2.1 0, 0, .inl (va_cpy (fun _ => 0) (fun _ => 0) 6 0 0)))] H locs := hw
      refine lv_aload_n hx hb dX7_doubt_39 rfl (lv_at hl 0 rfl) ?_
      refine lv_iload_n hx hb dX7_doubt_40 rfl (lv_at hl 2 rfl) ?_
      refine rc_callr (wr := [(q1, .inl (E.2.1 0, 0, .inl (va_cpy (fun _ => 0) (fun _ => 0) 6 0 0)))]) (va_runV (As := [.int 0]) (rest := [.ref q1]) (Ts := []) ⟨hx, hb, hml, hown, fun _ h9 => absurd h9 List.not_mem_nil⟩ (cw_X7_sample_ l E _ h0 h1 h2 h3 h4 h5) (rc_cwV hAm qw_967 qw_13 qw_970 qw_969 qs_54 rfl rfl hd_X7_sample_ ⟨Nat.le_of_ble_eq_true rfl, Nat.le_of_ble_eq_true rfl⟩) (rc_preV hAm hA hw [0, 1] rfl rfl 0 rfl (q := vwCl[12]) rfl) rfl rfl hl.1 rfl (lv_room (Nat.le_of_ble_eq_true rfl)) dX7_doubt_41 ⟨Nat.le_of_ble_eq_true rfl, Nat.le_of_ble_eq_true rfl⟩) hA hw [0, 1] [2] rfl rfl rfl (by decide) (fun u_16 r_15 H locs hp hw => ?_)
      obtain ⟨q2, rfl, rfl⟩ := hp
      have hw : rc_W E A s [(q1, .inl (E.2.1 0, 0, .inl (va_cpy (fun _ => 0) (fun _ => 0) 6 0 0))), (h0, .inr (12, [.int 0, .ref h1, .ref h2, .ref h3, .ref h4, .ref h5, .int 1, .int 3, .int 50, .int (-1), .int (-1), .int (-1), .int (-1), .int 0, .int 100, .int 1000, .long 0])), (h3, .inr (4, [.int 0, .ref (E.2.2 0), .int 0])), (q2, .inl (E.2.1 0, 0, .inl (va_cpy (fun _ => 0) (fun _ => 0) 6 0 0)))] H locs := hw
      refine rc_callr (wr := [(h0, .inr (12, [.int 0, .ref h1, .ref h2, .ref h3, .ref h4, .ref h5, .int 1, .int 3, .int 50, .int (-1), .int (-1), .int (-1), .int (-1), .int 0, .int 100, .int 1000, .long 0])), (h3, .inr (4, [.int 0, .ref (E.2.2 0), .int 0]))]) (va_runS (As := [.ref q1, .ref q2]) (rest := []) (Ts := []) ⟨hx, hb, hml, hown, fun _ h9 => absurd h9 List.not_mem_nil⟩ (cw_X7_reckoned l E _ q1 q2 (va_cpy (fun _ => 0) (fun _ => 0) 6 0 0)) (rc_cwS hAm qw_1231 qw_13 qw_1233 qw_1232 rfl rfl hd_X7_reckoned ⟨Nat.le_of_ble_eq_true rfl, Nat.le_of_ble_eq_true rfl⟩) (rc_preS hAm hA hw [0, 3] rfl rfl) rfl rfl hl.1 rfl (lv_room (Nat.le_of_ble_eq_true rfl)) dX7_doubt_44 ⟨Nat.le_of_ble_eq_true rfl, Nat.le_of_ble_eq_true rfl⟩) hA hw [0, 3] [1, 2] rfl rfl rfl (by decide) (fun u_18 r_17 H locs hp hw => ?_)
      obtain ⟨q3, rfl, rfl⟩ := hp
      have hw : rc_W E A s [(h0, .inr (12, [.int 0, .ref h1, .ref h2, .ref h3, .ref h4, .ref h5, .int 1, .int 3, .int 50, .int (-1), .int (-1), .int (-1), .int (-1), .int 0, .int 100, .int 1000, .long 0])), (h3, .inr (4, [.int 0, .ref (E.2.2 0), .int 0])), (q1, .inl (E.2.1 0, 0, .inl (va_cpy (fun _ => 0) (fun _ => 0) 6 0 0))), (q2, .inl (E.2.1 0, 0, .inl (va_cpy (fun _ => 0) (fun _ => 0) 6 0 0))), (q3, .inl (E.2.1 0, 4, .inl (upd (upd (upd (upd (upd (upd (upd (fun _ => 0) 0 0) 1 0) 2 0) 3 0) 1 1) 2 1) 3 1)))] H locs := hw
      refine lv_astore_n (lv' := [(3, .ref q3), (0, .ref h0), (1, .int 0), (2, .int 0)]) hx hb dX7_doubt_47 rfl hl (by decide) rfl (fun ls hl => ?_)
      refine lv_aload_n hx hb dX7_doubt_48 rfl (lv_at hl 0 rfl) ?_
      refine lv_iconst (v := 1) hx hb dX7_doubt_49 (by decide) ?_
      refine rc_iald hx hb hAm hw 4 rfl (vp_in_iff.mpr (by decide)) dX7_doubt_50 ?_
      refine rc_topi 1 rfl ?_
      refine lv_i2d hx hb dX7_doubt_51 ?_
      refine lv_aload_n hx hb dX7_doubt_52 rfl (lv_at hl 0 rfl) ?_
      refine lv_iconst (v := 3) hx hb dX7_doubt_53 (by decide) ?_
      refine rc_iald hx hb hAm hw 4 rfl (vp_in_iff.mpr (by decide)) dX7_doubt_54 ?_
      refine rc_topi 1 rfl ?_
      refine lv_i2d hx hb dX7_doubt_55 ?_
      refine lv_ddiv hx hb dX7_doubt_56 (by unfold vf_n64; decide +kernel) ?_
      exact rc_dret (v := FP.ddiv (FP.i2d 1) (FP.i2d 1)) hx hb hr hlocks hw [(h0, .inr (12, [.int 0, .ref h1, .ref h2, .ref h3, .ref h4, .ref h5, .int 1, .int 3, .int 50, .int (-1), .int (-1), .int (-1), .int (-1), .int 0, .int 100, .int 1000, .long 0])), (h3, .inr (4, [.int 0, .ref (E.2.2 0), .int 0]))] (Or.inr (Or.inr (Or.inr (Or.inr ⟨rfl, rfl, rfl, rfl⟩)))) [0, 1] rfl (by decide) (Nat.le_of_ble_eq_true rfl) (Nat.le_of_ble_eq_true rfl) dX7_doubt_57
set_option maxHeartbeats 4000000 in
set_option maxRecDepth 100000 in
theorem cw_X7_is_5 (l : Launch) (E : rc_E) (sz : Nat) (x0 : Int32) : rc_Mi l yX7_is [Cond.code yX7_is cX7_is 3 (some FieldType.boolean)] { frames := 0, cells := 0, slots := 0, locals := 0 } E [.int x0, .int 2, .int 6] [] sz (S := va_W) (fun (r : Int32) (u : va_W) => (x0 < 2 ∧ 0 = r ∧ u = []) ∨ (¬ x0 < 2 ∧ 6 < x0 ∧ 0 = r ∧ u = []) ∨ (¬ x0 < 2 ∧ ¬ 6 < x0 ∧ 1 = r ∧ u = [])) (fun u => u) 0 0 := by
  refine rc_ini (cc := cX7_is) (maxL := 3) (ret := (some FieldType.boolean)) (by decide) rfl (Nat.le_of_ble_eq_true rfl) ?_
  intro p e s m args below meth c ls A hx hb hr hml _ hown hlocks hin hA hAm hw hl
  have hown : s.vm.findClass RX7 = some m.cls := hown
  have hl : lv_has ls 3 [(0, .int x0), (1, .int 2), (2, .int 6)] := hl
  refine lv_iload_n hx hb dX7_is_0 rfl (lv_at hl 0 rfl) ?_
  refine lv_iload_n hx hb dX7_is_1 rfl (lv_at hl 1 rfl) ?_
  refine lv_icmp_lt (tgt := 14) hx hb dX7_is_2 (by decide) (fun c_1 => ?_) (fun c_1 => ?_)
  · refine lv_iconst (v := 0) hx hb dX7_is_14 (by decide) ?_
    exact rc_zret (v := 0) hx hb hr hlocks hw rfl [] (Or.inl ⟨c_1, rfl, rfl⟩) [] rfl (by decide) (Nat.le_of_ble_eq_true rfl) (Nat.le_of_ble_eq_true rfl) dX7_is_15
  · refine lv_iload_n hx hb dX7_is_5 rfl (lv_at hl 0 rfl) ?_
    refine lv_iload_n hx hb dX7_is_6 rfl (lv_at hl 2 rfl) ?_
    refine lv_icmp_gt (tgt := 14) hx hb dX7_is_7 (by decide) (fun c_2 => ?_) (fun c_2 => ?_)
    · refine lv_iconst (v := 0) hx hb dX7_is_14 (by decide) ?_
      exact rc_zret (v := 0) hx hb hr hlocks hw rfl [] (Or.inr (Or.inl ⟨c_1, c_2, rfl, rfl⟩)) [] rfl (by decide) (Nat.le_of_ble_eq_true rfl) (Nat.le_of_ble_eq_true rfl) dX7_is_15
    · refine lv_iconst (v := 1) hx hb dX7_is_10 (by decide) ?_
      refine lv_goto (tgt := 15) hx hb dX7_is_11 (by decide) ?_
      exact rc_zret (v := 1) hx hb hr hlocks hw rfl [] (Or.inr (Or.inr ⟨c_1, c_2, rfl, rfl⟩)) [] rfl (by decide) (Nat.le_of_ble_eq_true rfl) (Nat.le_of_ble_eq_true rfl) dX7_is_15
set_option maxHeartbeats 4000000 in
set_option maxRecDepth 100000 in
theorem cw_X7_is_6 (l : Launch) (E : rc_E) (sz : Nat) (x0 : Int32) : rc_Mi l yX7_is [Cond.code yX7_is cX7_is 3 (some FieldType.boolean)] { frames := 0, cells := 0, slots := 0, locals := 0 } E [.int x0, .int 1, .int 200] [] sz (S := va_W) (fun (r : Int32) (u : va_W) => (x0 < 1 ∧ 0 = r ∧ u = []) ∨ (¬ x0 < 1 ∧ 200 < x0 ∧ 0 = r ∧ u = []) ∨ (¬ x0 < 1 ∧ ¬ 200 < x0 ∧ 1 = r ∧ u = [])) (fun u => u) 0 0 := by
  refine rc_ini (cc := cX7_is) (maxL := 3) (ret := (some FieldType.boolean)) (by decide) rfl (Nat.le_of_ble_eq_true rfl) ?_
  intro p e s m args below meth c ls A hx hb hr hml _ hown hlocks hin hA hAm hw hl
  have hown : s.vm.findClass RX7 = some m.cls := hown
  have hl : lv_has ls 3 [(0, .int x0), (1, .int 1), (2, .int 200)] := hl
  refine lv_iload_n hx hb dX7_is_0 rfl (lv_at hl 0 rfl) ?_
  refine lv_iload_n hx hb dX7_is_1 rfl (lv_at hl 1 rfl) ?_
  refine lv_icmp_lt (tgt := 14) hx hb dX7_is_2 (by decide) (fun c_1 => ?_) (fun c_1 => ?_)
  · refine lv_iconst (v := 0) hx hb dX7_is_14 (by decide) ?_
    exact rc_zret (v := 0) hx hb hr hlocks hw rfl [] (Or.inl ⟨c_1, rfl, rfl⟩) [] rfl (by decide) (Nat.le_of_ble_eq_true rfl) (Nat.le_of_ble_eq_true rfl) dX7_is_15
  · refine lv_iload_n hx hb dX7_is_5 rfl (lv_at hl 0 rfl) ?_
    refine lv_iload_n hx hb dX7_is_6 rfl (lv_at hl 2 rfl) ?_
    refine lv_icmp_gt (tgt := 14) hx hb dX7_is_7 (by decide) (fun c_2 => ?_) (fun c_2 => ?_)
    · refine lv_iconst (v := 0) hx hb dX7_is_14 (by decide) ?_
      exact rc_zret (v := 0) hx hb hr hlocks hw rfl [] (Or.inr (Or.inl ⟨c_1, c_2, rfl, rfl⟩)) [] rfl (by decide) (Nat.le_of_ble_eq_true rfl) (Nat.le_of_ble_eq_true rfl) dX7_is_15
    · refine lv_iconst (v := 1) hx hb dX7_is_10 (by decide) ?_
      refine lv_goto (tgt := 15) hx hb dX7_is_11 (by decide) ?_
      exact rc_zret (v := 1) hx hb hr hlocks hw rfl [] (Or.inr (Or.inr ⟨c_1, c_2, rfl, rfl⟩)) [] rfl (by decide) (Nat.le_of_ble_eq_true rfl) (Nat.le_of_ble_eq_true rfl) dX7_is_15
set_option maxHeartbeats 4000000 in
set_option maxRecDepth 100000 in
theorem cw_X7_goOn (l : Launch) (E : rc_E) (sz : Nat) (h0 : Nat) (h1 : Nat) (h2 : Nat) (h3 : Nat) (h4 : Nat) (h5 : Nat) (x0 : Int32) (x1 : Int32) : rc_Mv l yX7_goOn [Cond.code yX7_goOn cX7_goOn 3 (none : Option FieldType)] { frames := 0, cells := 0, slots := 0, locals := 0 } E [.ref h0] [(h0, .inr (12, [.int 0, .ref h1, .ref h2, .ref h3, .ref h4, .ref h5, .int 1, .int x0, .int x1, .int (-1), .int (-1), .int (-1), .int (-1), .int 0, .int 100, .int 1000, .long 0]))] sz (S := va_W) (fun (u : va_W) => (u = [(h0, .inr (12, [.int 0, .ref h1, .ref h2, .ref h3, .ref h4, .ref h5, .int 1, .int x0, .int x1, .int (-1), .int (-1), .int (-1), .int (-1), .int 0, .int 100, .int 1000, .long 0]))])) (fun u => u) 0 0 := by
  refine rc_inv (cc := cX7_goOn) (maxL := 3) (ret := (none : Option FieldType)) (by decide) rfl (Nat.le_of_ble_eq_true rfl) ?_
  intro p e s m args below meth c ls A hx hb hr hml _ hown hlocks hin hA hAm hw hl
  have hown : s.vm.findClass RX7 = some m.cls := hown
  have hl : lv_has ls 3 [(0, .ref h0)] := hl
  refine lv_aload_n hx hb dX7_goOn_0 rfl (lv_at hl 0 rfl) ?_
  refine rc_get (v := .int (-1)) hx hb hown hAm hw lyX7 0 rfl rfl 9 (by decide) qw_869 (fun _ h9 => h9) rfl dX7_goOn_1 ?_
  refine lv_iconst (v := (-1)) hx hb dX7_goOn_4 (by decide) ?_
  refine lv_icmp_eq (tgt := 144) hx hb dX7_goOn_5 (by decide) (fun _ => ?_) (fun c9 => absurd (by decide) c9)
  exact rc_vret hx hb hr hlocks hw [(h0, .inr (12, [.int 0, .ref h1, .ref h2, .ref h3, .ref h4, .ref h5, .int 1, .int x0, .int x1, .int (-1), .int (-1), .int (-1), .int (-1), .int 0, .int 100, .int 1000, .long 0]))] (rfl) [0] rfl (by decide) (Nat.le_of_ble_eq_true rfl) (Nat.le_of_ble_eq_true rfl) dX7_goOn_144
theorem hd_X7_goOn : yX7_goOn.cls ≠ "java/lang/invoke/MethodHandle" ∧ yX7_goOn.cls ≠ "java/lang/invoke/VarHandle" ∧ (parseMethodDescriptor yX7_goOn.desc).map (fun d => d.parameters.length) = some 0 := by decide +kernel
set_option maxHeartbeats 4000000 in
set_option maxRecDepth 100000 in
theorem cw_X7_rule (l : Launch) (E : rc_E) (sz : Nat) (h0 : Nat) (x0 : Int32) (x1 : Int32) (h1 : Nat) (h2 : Nat) (h3 : Nat) (h4 : Nat) (h5 : Nat) : rc_Mi l yX7_rule [Cond.code yX7_rule cX7_rule 4 (some FieldType.int)] { frames := 1, cells := 0, slots := 0, locals := 22 } E [.ref h0, .int x0, .int x1] [(h0, .inr (12, [.int 0, .ref h1, .ref h2, .ref h3, .ref h4, .ref h5, .int 1, .int 3, .int 50, .int (-1), .int (-1), .int (-1), .int (-1), .int 0, .int 100, .int 1000, .long 0]))] sz (S := va_W) (fun (r : Int32) (u : va_W) => (x0 < 2 ∧ 0 = r ∧ u = [(h0, .inr (12, [.int 1, .ref h1, .ref h2, .ref h3, .ref h4, .ref h5, .int 1, .int 3, .int 50, .int (-1), .int (-1), .int (-1), .int (-1), .int 0, .int 100, .int 1000, .long 0]))]) ∨ (¬ x0 < 2 ∧ 6 < x0 ∧ 0 = r ∧ u = [(h0, .inr (12, [.int 1, .ref h1, .ref h2, .ref h3, .ref h4, .ref h5, .int 1, .int 3, .int 50, .int (-1), .int (-1), .int (-1), .int (-1), .int 0, .int 100, .int 1000, .long 0]))]) ∨ (¬ x0 < 2 ∧ ¬ 6 < x0 ∧ x1 < 1 ∧ 0 = r ∧ u = [(h0, .inr (12, [.int 1, .ref h1, .ref h2, .ref h3, .ref h4, .ref h5, .int 1, .int 3, .int 50, .int (-1), .int (-1), .int (-1), .int (-1), .int 0, .int 100, .int 1000, .long 0]))]) ∨ (¬ x0 < 2 ∧ ¬ 6 < x0 ∧ ¬ x1 < 1 ∧ 200 < x1 ∧ 0 = r ∧ u = [(h0, .inr (12, [.int 1, .ref h1, .ref h2, .ref h3, .ref h4, .ref h5, .int 1, .int 3, .int 50, .int (-1), .int (-1), .int (-1), .int (-1), .int 0, .int 100, .int 1000, .long 0]))]) ∨ (¬ x0 < 2 ∧ ¬ 6 < x0 ∧ ¬ x1 < 1 ∧ ¬ 200 < x1 ∧ 50 = r ∧ u = [(h0, .inr (12, [.int 0, .ref h1, .ref h2, .ref h3, .ref h4, .ref h5, .int 1, .int x0, .int x1, .int (-1), .int (-1), .int (-1), .int (-1), .int 0, .int 100, .int 1000, .long 0]))])) (fun u => u) 0 0 := by
  refine rc_ini (cc := cX7_rule) (maxL := 4) (ret := (some FieldType.int)) (by decide) rfl (Nat.le_of_ble_eq_true rfl) ?_
  intro p e s m args below meth c ls A hx hb hr hml _ hown hlocks hin hA hAm hw hl
  have hown : s.vm.findClass RX7 = some m.cls := hown
  have hl : lv_has ls 4 [(0, .ref h0), (1, .int x0), (2, .int x1)] := hl
  refine lv_aload_n hx hb dX7_rule_0 rfl (lv_at hl 0 rfl) ?_
  refine lv_iconst (v := 0) hx hb dX7_rule_1 (by decide) ?_
  refine rc_put hx hb hown hAm hw lyX7 tyX7 tyX7_ok nmX7 0 rfl rfl 0 (by decide) qw_860 (fun _ h9 => h9) rfl rfl (by decide +kernel) (Nat.le_of_ble_eq_true rfl) [(h0, .inr (12, [.int 0, .ref h1, .ref h2, .ref h3, .ref h4, .ref h5, .int 1, .int 3, .int 50, .int (-1), .int (-1), .int (-1), .int (-1), .int 0, .int 100, .int 1000, .long 0]))] rfl dX7_rule_2 (fun H locs hw => ?_)
  refine lv_iload_n hx hb dX7_rule_5 rfl (lv_at hl 1 rfl) ?_
  refine lv_iconst (v := 2) hx hb dX7_rule_6 (by decide) ?_
  refine lv_bipush (v := 6) hx hb dX7_rule_7 (by decide) ?_
  refine rc_calli (wr := [(h0, .inr (12, [.int 0, .ref h1, .ref h2, .ref h3, .ref h4, .ref h5, .int 1, .int 3, .int 50, .int (-1), .int (-1), .int (-1), .int (-1), .int 0, .int 100, .int 1000, .long 0]))]) (va_runS (As := [.int x0, .int 2, .int 6]) (rest := []) (Ts := []) ⟨hx, hb, hml, hown, fun _ h9 => absurd h9 List.not_mem_nil⟩ (cw_X7_is_5 l E _ x0) (rc_cwS hAm qw_921 qw_13 qw_923 qw_922 rfl rfl hd_X7_is ⟨Nat.le_of_ble_eq_true rfl, Nat.le_of_ble_eq_true rfl⟩) (rc_preS hAm hA hw [] rfl rfl) rfl rfl hl.1 rfl (lv_room (Nat.le_of_ble_eq_true rfl)) dX7_rule_9 ⟨Nat.le_of_ble_eq_true rfl, Nat.le_of_ble_eq_true rfl⟩) hA hw [] [0] rfl rfl rfl (by decide) (fun r_1 u_2 H locs hp hw => ?_)
  rcases hp with ⟨c_3, rfl, rfl⟩ | ⟨c_4, c_5, rfl, rfl⟩ | ⟨c_6, c_7, rfl, rfl⟩
  · have hw : rc_W E A s [(h0, .inr (12, [.int 0, .ref h1, .ref h2, .ref h3, .ref h4, .ref h5, .int 1, .int 3, .int 50, .int (-1), .int (-1), .int (-1), .int (-1), .int 0, .int 100, .int 1000, .long 0]))] H locs := hw
    refine lv_if_eq (tgt := 26) hx hb dX7_rule_12 (by decide) (fun _ => ?_) (fun c9 => absurd (by decide) c9)
    refine lv_aload_n hx hb dX7_rule_26 rfl (lv_at hl 0 rfl) ?_
    refine lv_iconst (v := 1) hx hb dX7_rule_27 (by decide) ?_
    refine rc_calli (wr := []) (va_runV (As := [.int 1]) (rest := []) (Ts := []) ⟨hx, hb, hml, hown, fun _ h9 => absurd h9 List.not_mem_nil⟩ (cw_X7_refuse l E _ h0 h1 h2 h3 h4 h5) (rc_cwV hAm qw_924 qw_13 qw_927 qw_926 qs_50 rfl rfl hd_X7_refuse ⟨Nat.le_of_ble_eq_true rfl, Nat.le_of_ble_eq_true rfl⟩) (rc_preV hAm hA hw [0] rfl rfl 0 rfl (q := vwCl[12]) rfl) rfl rfl hl.1 rfl (lv_room (Nat.le_of_ble_eq_true rfl)) dX7_rule_28 ⟨Nat.le_of_ble_eq_true rfl, Nat.le_of_ble_eq_true rfl⟩) hA hw [0] [] rfl rfl rfl (by decide) (fun r_8 u_9 H locs hp hw => ?_)
    obtain ⟨rfl, rfl⟩ := hp
    have hw : rc_W E A s [(h0, .inr (12, [.int 1, .ref h1, .ref h2, .ref h3, .ref h4, .ref h5, .int 1, .int 3, .int 50, .int (-1), .int (-1), .int (-1), .int (-1), .int 0, .int 100, .int 1000, .long 0]))] H locs := hw
    exact rc_iret (v := 0) hx hb hr hlocks hw [(h0, .inr (12, [.int 1, .ref h1, .ref h2, .ref h3, .ref h4, .ref h5, .int 1, .int 3, .int 50, .int (-1), .int (-1), .int (-1), .int (-1), .int 0, .int 100, .int 1000, .long 0]))] (Or.inl ⟨c_3, rfl, rfl⟩) [0] rfl (by decide) (Nat.le_of_ble_eq_true rfl) (Nat.le_of_ble_eq_true rfl) dX7_rule_31
  · have hw : rc_W E A s [(h0, .inr (12, [.int 0, .ref h1, .ref h2, .ref h3, .ref h4, .ref h5, .int 1, .int 3, .int 50, .int (-1), .int (-1), .int (-1), .int (-1), .int 0, .int 100, .int 1000, .long 0]))] H locs := hw
    refine lv_if_eq (tgt := 26) hx hb dX7_rule_12 (by decide) (fun _ => ?_) (fun c9 => absurd (by decide) c9)
    refine lv_aload_n hx hb dX7_rule_26 rfl (lv_at hl 0 rfl) ?_
    refine lv_iconst (v := 1) hx hb dX7_rule_27 (by decide) ?_
    refine rc_calli (wr := []) (va_runV (As := [.int 1]) (rest := []) (Ts := []) ⟨hx, hb, hml, hown, fun _ h9 => absurd h9 List.not_mem_nil⟩ (cw_X7_refuse l E _ h0 h1 h2 h3 h4 h5) (rc_cwV hAm qw_924 qw_13 qw_927 qw_926 qs_50 rfl rfl hd_X7_refuse ⟨Nat.le_of_ble_eq_true rfl, Nat.le_of_ble_eq_true rfl⟩) (rc_preV hAm hA hw [0] rfl rfl 0 rfl (q := vwCl[12]) rfl) rfl rfl hl.1 rfl (lv_room (Nat.le_of_ble_eq_true rfl)) dX7_rule_28 ⟨Nat.le_of_ble_eq_true rfl, Nat.le_of_ble_eq_true rfl⟩) hA hw [0] [] rfl rfl rfl (by decide) (fun r_10 u_11 H locs hp hw => ?_)
    obtain ⟨rfl, rfl⟩ := hp
    have hw : rc_W E A s [(h0, .inr (12, [.int 1, .ref h1, .ref h2, .ref h3, .ref h4, .ref h5, .int 1, .int 3, .int 50, .int (-1), .int (-1), .int (-1), .int (-1), .int 0, .int 100, .int 1000, .long 0]))] H locs := hw
    exact rc_iret (v := 0) hx hb hr hlocks hw [(h0, .inr (12, [.int 1, .ref h1, .ref h2, .ref h3, .ref h4, .ref h5, .int 1, .int 3, .int 50, .int (-1), .int (-1), .int (-1), .int (-1), .int 0, .int 100, .int 1000, .long 0]))] (Or.inr (Or.inl ⟨c_4, c_5, rfl, rfl⟩)) [0] rfl (by decide) (Nat.le_of_ble_eq_true rfl) (Nat.le_of_ble_eq_true rfl) dX7_rule_31
  · have hw : rc_W E A s [(h0, .inr (12, [.int 0, .ref h1, .ref h2, .ref h3, .ref h4, .ref h5, .int 1, .int 3, .int 50, .int (-1), .int (-1), .int (-1), .int (-1), .int 0, .int 100, .int 1000, .long 0]))] H locs := hw
    refine lv_if_eq (tgt := 26) hx hb dX7_rule_12 (by decide) (fun c9 => absurd c9 (by decide)) (fun _ => ?_)
    refine lv_iload_n hx hb dX7_rule_15 rfl (lv_at hl 2 rfl) ?_
    refine lv_iconst (v := 1) hx hb dX7_rule_16 (by decide) ?_
    refine lv_sipush (v := 200) hx hb dX7_rule_17 (by decide) ?_
    refine rc_calli (wr := [(h0, .inr (12, [.int 0, .ref h1, .ref h2, .ref h3, .ref h4, .ref h5, .int 1, .int 3, .int 50, .int (-1), .int (-1), .int (-1), .int (-1), .int 0, .int 100, .int 1000, .long 0]))]) (va_runS (As := [.int x1, .int 1, .int 200]) (rest := []) (Ts := []) ⟨hx, hb, hml, hown, fun _ h9 => absurd h9 List.not_mem_nil⟩ (cw_X7_is_6 l E _ x1) (rc_cwS hAm qw_921 qw_13 qw_923 qw_922 rfl rfl hd_X7_is ⟨Nat.le_of_ble_eq_true rfl, Nat.le_of_ble_eq_true rfl⟩) (rc_preS hAm hA hw [] rfl rfl) rfl rfl hl.1 rfl (lv_room (Nat.le_of_ble_eq_true rfl)) dX7_rule_20 ⟨Nat.le_of_ble_eq_true rfl, Nat.le_of_ble_eq_true rfl⟩) hA hw [] [0] rfl rfl rfl (by decide) (fun r_12 u_13 H locs hp hw => ?_)
    rcases hp with ⟨c_14, rfl, rfl⟩ | ⟨c_15, c_16, rfl, rfl⟩ | ⟨c_17, c_18, rfl, rfl⟩
    · have hw : rc_W E A s [(h0, .inr (12, [.int 0, .ref h1, .ref h2, .ref h3, .ref h4, .ref h5, .int 1, .int 3, .int 50, .int (-1), .int (-1), .int (-1), .int (-1), .int 0, .int 100, .int 1000, .long 0]))] H locs := hw
      refine lv_if_ne (tgt := 32) hx hb dX7_rule_23 (by decide) (fun c9 => absurd (by decide) c9) (fun _ => ?_)
      refine lv_aload_n hx hb dX7_rule_26 rfl (lv_at hl 0 rfl) ?_
      refine lv_iconst (v := 1) hx hb dX7_rule_27 (by decide) ?_
      refine rc_calli (wr := []) (va_runV (As := [.int 1]) (rest := []) (Ts := []) ⟨hx, hb, hml, hown, fun _ h9 => absurd h9 List.not_mem_nil⟩ (cw_X7_refuse l E _ h0 h1 h2 h3 h4 h5) (rc_cwV hAm qw_924 qw_13 qw_927 qw_926 qs_50 rfl rfl hd_X7_refuse ⟨Nat.le_of_ble_eq_true rfl, Nat.le_of_ble_eq_true rfl⟩) (rc_preV hAm hA hw [0] rfl rfl 0 rfl (q := vwCl[12]) rfl) rfl rfl hl.1 rfl (lv_room (Nat.le_of_ble_eq_true rfl)) dX7_rule_28 ⟨Nat.le_of_ble_eq_true rfl, Nat.le_of_ble_eq_true rfl⟩) hA hw [0] [] rfl rfl rfl (by decide) (fun r_19 u_20 H locs hp hw => ?_)
      obtain ⟨rfl, rfl⟩ := hp
      have hw : rc_W E A s [(h0, .inr (12, [.int 1, .ref h1, .ref h2, .ref h3, .ref h4, .ref h5, .int 1, .int 3, .int 50, .int (-1), .int (-1), .int (-1), .int (-1), .int 0, .int 100, .int 1000, .long 0]))] H locs := hw
      exact rc_iret (v := 0) hx hb hr hlocks hw [(h0, .inr (12, [.int 1, .ref h1, .ref h2, .ref h3, .ref h4, .ref h5, .int 1, .int 3, .int 50, .int (-1), .int (-1), .int (-1), .int (-1), .int 0, .int 100, .int 1000, .long 0]))] (Or.inr (Or.inr (Or.inl ⟨c_6, c_7, c_14, rfl, rfl⟩))) [0] rfl (by decide) (Nat.le_of_ble_eq_true rfl) (Nat.le_of_ble_eq_true rfl) dX7_rule_31
    · have hw : rc_W E A s [(h0, .inr (12, [.int 0, .ref h1, .ref h2, .ref h3, .ref h4, .ref h5, .int 1, .int 3, .int 50, .int (-1), .int (-1), .int (-1), .int (-1), .int 0, .int 100, .int 1000, .long 0]))] H locs := hw
      refine lv_if_ne (tgt := 32) hx hb dX7_rule_23 (by decide) (fun c9 => absurd (by decide) c9) (fun _ => ?_)
      refine lv_aload_n hx hb dX7_rule_26 rfl (lv_at hl 0 rfl) ?_
      refine lv_iconst (v := 1) hx hb dX7_rule_27 (by decide) ?_
      refine rc_calli (wr := []) (va_runV (As := [.int 1]) (rest := []) (Ts := []) ⟨hx, hb, hml, hown, fun _ h9 => absurd h9 List.not_mem_nil⟩ (cw_X7_refuse l E _ h0 h1 h2 h3 h4 h5) (rc_cwV hAm qw_924 qw_13 qw_927 qw_926 qs_50 rfl rfl hd_X7_refuse ⟨Nat.le_of_ble_eq_true rfl, Nat.le_of_ble_eq_true rfl⟩) (rc_preV hAm hA hw [0] rfl rfl 0 rfl (q := vwCl[12]) rfl) rfl rfl hl.1 rfl (lv_room (Nat.le_of_ble_eq_true rfl)) dX7_rule_28 ⟨Nat.le_of_ble_eq_true rfl, Nat.le_of_ble_eq_true rfl⟩) hA hw [0] [] rfl rfl rfl (by decide) (fun r_21 u_22 H locs hp hw => ?_)
      obtain ⟨rfl, rfl⟩ := hp
      have hw : rc_W E A s [(h0, .inr (12, [.int 1, .ref h1, .ref h2, .ref h3, .ref h4, .ref h5, .int 1, .int 3, .int 50, .int (-1), .int (-1), .int (-1), .int (-1), .int 0, .int 100, .int 1000, .long 0]))] H locs := hw
      exact rc_iret (v := 0) hx hb hr hlocks hw [(h0, .inr (12, [.int 1, .ref h1, .ref h2, .ref h3, .ref h4, .ref h5, .int 1, .int 3, .int 50, .int (-1), .int (-1), .int (-1), .int (-1), .int 0, .int 100, .int 1000, .long 0]))] (Or.inr (Or.inr (Or.inr (Or.inl ⟨c_6, c_7, c_15, c_16, rfl, rfl⟩)))) [0] rfl (by decide) (Nat.le_of_ble_eq_true rfl) (Nat.le_of_ble_eq_true rfl) dX7_rule_31
    · have hw : rc_W E A s [(h0, .inr (12, [.int 0, .ref h1, .ref h2, .ref h3, .ref h4, .ref h5, .int 1, .int 3, .int 50, .int (-1), .int (-1), .int (-1), .int (-1), .int 0, .int 100, .int 1000, .long 0]))] H locs := hw
      refine lv_if_ne (tgt := 32) hx hb dX7_rule_23 (by decide) (fun _ => ?_) (fun c9 => absurd c9 (by decide))
      refine lv_aload_n hx hb dX7_rule_32 rfl (lv_at hl 0 rfl) ?_
      refine rc_get (v := .int 50) hx hb hown hAm hw lyX7 0 rfl rfl 8 (by decide) qw_868 (fun _ h9 => h9) rfl dX7_rule_33 ?_
      refine lv_istore_n (lv' := [(3, .int 50), (0, .ref h0), (1, .int x0), (2, .int x1)]) hx hb dX7_rule_36 rfl hl (by decide) rfl (fun ls hl => ?_)
      refine lv_aload_n hx hb dX7_rule_37 rfl (lv_at hl 1 rfl) ?_
      refine lv_iload_n hx hb dX7_rule_38 rfl (lv_at hl 2 rfl) ?_
      refine rc_put hx hb hown hAm hw lyX7 tyX7 tyX7_ok nmX7 0 rfl rfl 7 (by decide) qw_867 (fun _ h9 => h9) rfl rfl rfl (Nat.le_of_ble_eq_true rfl) [(h0, .inr (12, [.int 0, .ref h1, .ref h2, .ref h3, .ref h4, .ref h5, .int 1, .int x0, .int 50, .int (-1), .int (-1), .int (-1), .int (-1), .int 0, .int 100, .int 1000, .long 0]))] rfl dX7_rule_39 (fun H locs hw => ?_)
      refine lv_aload_n hx hb dX7_rule_42 rfl (lv_at hl 1 rfl) ?_
      refine lv_iload_n hx hb dX7_rule_43 rfl (lv_at hl 3 rfl) ?_
      refine rc_put hx hb hown hAm hw lyX7 tyX7 tyX7_ok nmX7 0 rfl rfl 8 (by decide) qw_868 (fun _ h9 => h9) rfl rfl rfl (Nat.le_of_ble_eq_true rfl) [(h0, .inr (12, [.int 0, .ref h1, .ref h2, .ref h3, .ref h4, .ref h5, .int 1, .int x0, .int x1, .int (-1), .int (-1), .int (-1), .int (-1), .int 0, .int 100, .int 1000, .long 0]))] rfl dX7_rule_44 (fun H locs hw => ?_)
      refine lv_aload_n hx hb dX7_rule_47 rfl (lv_at hl 1 rfl) ?_
      refine rc_callv (wr := []) (va_runV (As := []) (rest := []) (Ts := []) ⟨hx, hb, hml, hown, fun _ h9 => absurd h9 List.not_mem_nil⟩ (cw_X7_goOn l E _ h0 h1 h2 h3 h4 h5 x0 x1) (rc_cwV hAm qw_959 qw_13 qw_962 qw_961 qs_52 rfl rfl hd_X7_goOn ⟨Nat.le_of_ble_eq_true rfl, Nat.le_of_ble_eq_true rfl⟩) (rc_preV hAm hA hw [0] rfl rfl 0 rfl (q := vwCl[12]) rfl) rfl rfl hl.1 rfl (lv_room (Nat.le_of_ble_eq_true rfl)) dX7_rule_48 ⟨Nat.le_of_ble_eq_true rfl, Nat.le_of_ble_eq_true rfl⟩) hA hw [0] [] rfl rfl rfl (by decide) (fun u_24 H locs hp hw => ?_)
      obtain ⟨rfl⟩ := hp
      have hw : rc_W E A s [(h0, .inr (12, [.int 0, .ref h1, .ref h2, .ref h3, .ref h4, .ref h5, .int 1, .int x0, .int x1, .int (-1), .int (-1), .int (-1), .int (-1), .int 0, .int 100, .int 1000, .long 0]))] H locs := hw
      refine lv_iload_n hx hb dX7_rule_51 rfl (lv_at hl 0 rfl) ?_
      exact rc_iret (v := 50) hx hb hr hlocks hw [(h0, .inr (12, [.int 0, .ref h1, .ref h2, .ref h3, .ref h4, .ref h5, .int 1, .int x0, .int x1, .int (-1), .int (-1), .int (-1), .int (-1), .int 0, .int 100, .int 1000, .long 0]))] (Or.inr (Or.inr (Or.inr (Or.inr ⟨c_6, c_7, c_17, c_18, rfl, rfl⟩)))) [0] rfl (by decide) (Nat.le_of_ble_eq_true rfl) (Nat.le_of_ble_eq_true rfl) dX7_rule_52
set_option maxHeartbeats 4000000 in
set_option maxRecDepth 100000 in
theorem cw_X7_begin (l : Launch) (E : rc_E) (sz : Nat) (h0 : Nat) (x0 : Int32) (x1 : Int32) (h1 : Nat) (h2 : Nat) (h3 : Nat) (h4 : Nat) (h5 : Nat) : rc_Mi l yX7_begin [Cond.code yX7_begin cX7_begin 3 (some FieldType.int)] { frames := 2, cells := 0, slots := 0, locals := 43 } E [.ref h0, .int x0, .int x1] [(h0, .inr (12, [.int 0, .ref h1, .ref h2, .ref h3, .ref h4, .ref h5, .int 1, .int 3, .int 50, .int (-1), .int (-1), .int (-1), .int (-1), .int 0, .int 100, .int 1000, .long 0]))] sz (S := va_W) (fun (r : Int32) (u : va_W) => (x0 < 0 ∧ 0 = r ∧ u = [(h0, .inr (12, [.int 1, .ref h1, .ref h2, .ref h3, .ref h4, .ref h5, .int 1, .int 3, .int 50, .int (-1), .int (-1), .int (-1), .int (-1), .int 0, .int 100, .int 1000, .long 0]))]) ∨ (¬ x0 < 0 ∧ 0 < x0 ∧ 0 = r ∧ u = [(h0, .inr (12, [.int 1, .ref h1, .ref h2, .ref h3, .ref h4, .ref h5, .int 1, .int 3, .int 50, .int (-1), .int (-1), .int (-1), .int (-1), .int 0, .int 100, .int 1000, .long 0]))]) ∨ (x1 < 0 ∧ x0 = 0 ∧ 0 = r ∧ u = [(h0, .inr (12, [.int 1, .ref h1, .ref h2, .ref h3, .ref h4, .ref h5, .int 1, .int 3, .int 50, .int (-1), .int (-1), .int (-1), .int (-1), .int 0, .int 100, .int 1000, .long 0]))]) ∨ (¬ x1 < 0 ∧ 0 < x1 ∧ x0 = 0 ∧ 0 = r ∧ u = [(h0, .inr (12, [.int 1, .ref h1, .ref h2, .ref h3, .ref h4, .ref h5, .int 1, .int 3, .int 50, .int (-1), .int (-1), .int (-1), .int (-1), .int 0, .int 100, .int 1000, .long 0]))]) ∨ (x0 = 0 ∧ x1 = 0 ∧ 0 = r ∧ u = [(h0, .inr (12, [.int 2, .ref h1, .ref h2, .ref h3, .ref h4, .ref h5, .int 1, .int 3, .int 50, .int (-1), .int (-1), .int (-1), .int (-1), .int 0, .int 100, .int 1000, .long 0]))])) (fun u => u) 0 0 := by
  refine rc_ini (cc := cX7_begin) (maxL := 3) (ret := (some FieldType.int)) (by decide) rfl (Nat.le_of_ble_eq_true rfl) ?_
  intro p e s m args below meth c ls A hx hb hr hml _ hown hlocks hin hA hAm hw hl
  have hown : s.vm.findClass RX7 = some m.cls := hown
  have hl : lv_has ls 3 [(0, .ref h0), (1, .int x0), (2, .int x1)] := hl
  refine lv_aload_n hx hb dX7_begin_0 rfl (lv_at hl 0 rfl) ?_
  refine lv_iconst (v := 0) hx hb dX7_begin_1 (by decide) ?_
  refine rc_put hx hb hown hAm hw lyX7 tyX7 tyX7_ok nmX7 0 rfl rfl 0 (by decide) qw_860 (fun _ h9 => h9) rfl rfl (by decide +kernel) (Nat.le_of_ble_eq_true rfl) [(h0, .inr (12, [.int 0, .ref h1, .ref h2, .ref h3, .ref h4, .ref h5, .int 1, .int 3, .int 50, .int (-1), .int (-1), .int (-1), .int (-1), .int 0, .int 100, .int 1000, .long 0]))] rfl dX7_begin_2 (fun H locs hw => ?_)
  refine lv_aload_n hx hb dX7_begin_5 rfl (lv_at hl 0 rfl) ?_
  refine lv_iload_n hx hb dX7_begin_6 rfl (lv_at hl 1 rfl) ?_
  refine rc_calli (wr := []) (va_runV (As := [.int x0]) (rest := []) (Ts := []) ⟨hx, hb, hml, hown, fun _ h9 => absurd h9 List.not_mem_nil⟩ (cw_X7_isChange l E _ h0 x0 h1 h2 h3 h4 h5) (rc_cwV hAm qw_1353 qw_13 qw_1356 qw_1355 qs_62 rfl rfl hd_X7_isChange ⟨Nat.le_of_ble_eq_true rfl, Nat.le_of_ble_eq_true rfl⟩) (rc_preV hAm hA hw [0] rfl rfl 0 rfl (q := vwCl[12]) rfl) rfl rfl hl.1 rfl (lv_room (Nat.le_of_ble_eq_true rfl)) dX7_begin_7 ⟨Nat.le_of_ble_eq_true rfl, Nat.le_of_ble_eq_true rfl⟩) hA hw [0] [] rfl rfl rfl (by decide) (fun r_1 u_2 H locs hp hw => ?_)
  rcases hp with ⟨c_3, rfl, rfl⟩ | ⟨c_4, c_5, rfl, rfl⟩ | ⟨c_6, rfl, rfl⟩
  · have hw : rc_W E A s [(h0, .inr (12, [.int 0, .ref h1, .ref h2, .ref h3, .ref h4, .ref h5, .int 1, .int 3, .int 50, .int (-1), .int (-1), .int (-1), .int (-1), .int 0, .int 100, .int 1000, .long 0]))] H locs := hw
    refine lv_if_eq (tgt := 21) hx hb dX7_begin_10 (by decide) (fun _ => ?_) (fun c9 => absurd (by decide) c9)
    refine lv_aload_n hx hb dX7_begin_21 rfl (lv_at hl 0 rfl) ?_
    refine lv_iconst (v := 1) hx hb dX7_begin_22 (by decide) ?_
    refine rc_calli (wr := []) (va_runV (As := [.int 1]) (rest := []) (Ts := []) ⟨hx, hb, hml, hown, fun _ h9 => absurd h9 List.not_mem_nil⟩ (cw_X7_refuse l E _ h0 h1 h2 h3 h4 h5) (rc_cwV hAm qw_924 qw_13 qw_927 qw_926 qs_50 rfl rfl hd_X7_refuse ⟨Nat.le_of_ble_eq_true rfl, Nat.le_of_ble_eq_true rfl⟩) (rc_preV hAm hA hw [0] rfl rfl 0 rfl (q := vwCl[12]) rfl) rfl rfl hl.1 rfl (lv_room (Nat.le_of_ble_eq_true rfl)) dX7_begin_23 ⟨Nat.le_of_ble_eq_true rfl, Nat.le_of_ble_eq_true rfl⟩) hA hw [0] [] rfl rfl rfl (by decide) (fun r_7 u_8 H locs hp hw => ?_)
    obtain ⟨rfl, rfl⟩ := hp
    have hw : rc_W E A s [(h0, .inr (12, [.int 1, .ref h1, .ref h2, .ref h3, .ref h4, .ref h5, .int 1, .int 3, .int 50, .int (-1), .int (-1), .int (-1), .int (-1), .int 0, .int 100, .int 1000, .long 0]))] H locs := hw
    exact rc_iret (v := 0) hx hb hr hlocks hw [(h0, .inr (12, [.int 1, .ref h1, .ref h2, .ref h3, .ref h4, .ref h5, .int 1, .int 3, .int 50, .int (-1), .int (-1), .int (-1), .int (-1), .int 0, .int 100, .int 1000, .long 0]))] (Or.inl ⟨c_3, rfl, rfl⟩) [0] rfl (by decide) (Nat.le_of_ble_eq_true rfl) (Nat.le_of_ble_eq_true rfl) dX7_begin_26
  · have hw : rc_W E A s [(h0, .inr (12, [.int 0, .ref h1, .ref h2, .ref h3, .ref h4, .ref h5, .int 1, .int 3, .int 50, .int (-1), .int (-1), .int (-1), .int (-1), .int 0, .int 100, .int 1000, .long 0]))] H locs := hw
    refine lv_if_eq (tgt := 21) hx hb dX7_begin_10 (by decide) (fun _ => ?_) (fun c9 => absurd (by decide) c9)
    refine lv_aload_n hx hb dX7_begin_21 rfl (lv_at hl 0 rfl) ?_
    refine lv_iconst (v := 1) hx hb dX7_begin_22 (by decide) ?_
    refine rc_calli (wr := []) (va_runV (As := [.int 1]) (rest := []) (Ts := []) ⟨hx, hb, hml, hown, fun _ h9 => absurd h9 List.not_mem_nil⟩ (cw_X7_refuse l E _ h0 h1 h2 h3 h4 h5) (rc_cwV hAm qw_924 qw_13 qw_927 qw_926 qs_50 rfl rfl hd_X7_refuse ⟨Nat.le_of_ble_eq_true rfl, Nat.le_of_ble_eq_true rfl⟩) (rc_preV hAm hA hw [0] rfl rfl 0 rfl (q := vwCl[12]) rfl) rfl rfl hl.1 rfl (lv_room (Nat.le_of_ble_eq_true rfl)) dX7_begin_23 ⟨Nat.le_of_ble_eq_true rfl, Nat.le_of_ble_eq_true rfl⟩) hA hw [0] [] rfl rfl rfl (by decide) (fun r_9 u_10 H locs hp hw => ?_)
    obtain ⟨rfl, rfl⟩ := hp
    have hw : rc_W E A s [(h0, .inr (12, [.int 1, .ref h1, .ref h2, .ref h3, .ref h4, .ref h5, .int 1, .int 3, .int 50, .int (-1), .int (-1), .int (-1), .int (-1), .int 0, .int 100, .int 1000, .long 0]))] H locs := hw
    exact rc_iret (v := 0) hx hb hr hlocks hw [(h0, .inr (12, [.int 1, .ref h1, .ref h2, .ref h3, .ref h4, .ref h5, .int 1, .int 3, .int 50, .int (-1), .int (-1), .int (-1), .int (-1), .int 0, .int 100, .int 1000, .long 0]))] (Or.inr (Or.inl ⟨c_4, c_5, rfl, rfl⟩)) [0] rfl (by decide) (Nat.le_of_ble_eq_true rfl) (Nat.le_of_ble_eq_true rfl) dX7_begin_26
  · obtain rfl : x0 = 0 := rc_eqc (b := 0) rfl (by have g_c_6 := rc_g5 (b := 0) c_6 rfl; omega)
    have hw : rc_W E A s [(h0, .inr (12, [.int 0, .ref h1, .ref h2, .ref h3, .ref h4, .ref h5, .int 1, .int 3, .int 50, .int (-1), .int (-1), .int (-1), .int (-1), .int 0, .int 100, .int 1000, .long 0]))] H locs := hw
    refine lv_if_eq (tgt := 21) hx hb dX7_begin_10 (by decide) (fun c9 => absurd c9 (by decide)) (fun _ => ?_)
    refine lv_aload_n hx hb dX7_begin_13 rfl (lv_at hl 0 rfl) ?_
    refine lv_iload_n hx hb dX7_begin_14 rfl (lv_at hl 2 rfl) ?_
    refine rc_calli (wr := []) (va_runV (As := [.int x1]) (rest := []) (Ts := []) ⟨hx, hb, hml, hown, fun _ h9 => absurd h9 List.not_mem_nil⟩ (cw_X7_isChange l E _ h0 x1 h1 h2 h3 h4 h5) (rc_cwV hAm qw_1353 qw_13 qw_1356 qw_1355 qs_62 rfl rfl hd_X7_isChange ⟨Nat.le_of_ble_eq_true rfl, Nat.le_of_ble_eq_true rfl⟩) (rc_preV hAm hA hw [0] rfl rfl 0 rfl (q := vwCl[12]) rfl) rfl rfl hl.1 rfl (lv_room (Nat.le_of_ble_eq_true rfl)) dX7_begin_15 ⟨Nat.le_of_ble_eq_true rfl, Nat.le_of_ble_eq_true rfl⟩) hA hw [0] [] rfl rfl rfl (by decide) (fun r_11 u_12 H locs hp hw => ?_)
    rcases hp with ⟨c_13, rfl, rfl⟩ | ⟨c_14, c_15, rfl, rfl⟩ | ⟨c_16, rfl, rfl⟩
    · have hw : rc_W E A s [(h0, .inr (12, [.int 0, .ref h1, .ref h2, .ref h3, .ref h4, .ref h5, .int 1, .int 3, .int 50, .int (-1), .int (-1), .int (-1), .int (-1), .int 0, .int 100, .int 1000, .long 0]))] H locs := hw
      refine lv_if_ne (tgt := 27) hx hb dX7_begin_18 (by decide) (fun c9 => absurd (by decide) c9) (fun _ => ?_)
      refine lv_aload_n hx hb dX7_begin_21 rfl (lv_at hl 0 rfl) ?_
      refine lv_iconst (v := 1) hx hb dX7_begin_22 (by decide) ?_
      refine rc_calli (wr := []) (va_runV (As := [.int 1]) (rest := []) (Ts := []) ⟨hx, hb, hml, hown, fun _ h9 => absurd h9 List.not_mem_nil⟩ (cw_X7_refuse l E _ h0 h1 h2 h3 h4 h5) (rc_cwV hAm qw_924 qw_13 qw_927 qw_926 qs_50 rfl rfl hd_X7_refuse ⟨Nat.le_of_ble_eq_true rfl, Nat.le_of_ble_eq_true rfl⟩) (rc_preV hAm hA hw [0] rfl rfl 0 rfl (q := vwCl[12]) rfl) rfl rfl hl.1 rfl (lv_room (Nat.le_of_ble_eq_true rfl)) dX7_begin_23 ⟨Nat.le_of_ble_eq_true rfl, Nat.le_of_ble_eq_true rfl⟩) hA hw [0] [] rfl rfl rfl (by decide) (fun r_17 u_18 H locs hp hw => ?_)
      obtain ⟨rfl, rfl⟩ := hp
      have hw : rc_W E A s [(h0, .inr (12, [.int 1, .ref h1, .ref h2, .ref h3, .ref h4, .ref h5, .int 1, .int 3, .int 50, .int (-1), .int (-1), .int (-1), .int (-1), .int 0, .int 100, .int 1000, .long 0]))] H locs := hw
      exact rc_iret (v := 0) hx hb hr hlocks hw [(h0, .inr (12, [.int 1, .ref h1, .ref h2, .ref h3, .ref h4, .ref h5, .int 1, .int 3, .int 50, .int (-1), .int (-1), .int (-1), .int (-1), .int 0, .int 100, .int 1000, .long 0]))] (Or.inr (Or.inr (Or.inl ⟨c_13, rfl, rfl, rfl⟩))) [0] rfl (by decide) (Nat.le_of_ble_eq_true rfl) (Nat.le_of_ble_eq_true rfl) dX7_begin_26
    · have hw : rc_W E A s [(h0, .inr (12, [.int 0, .ref h1, .ref h2, .ref h3, .ref h4, .ref h5, .int 1, .int 3, .int 50, .int (-1), .int (-1), .int (-1), .int (-1), .int 0, .int 100, .int 1000, .long 0]))] H locs := hw
      refine lv_if_ne (tgt := 27) hx hb dX7_begin_18 (by decide) (fun c9 => absurd (by decide) c9) (fun _ => ?_)
      refine lv_aload_n hx hb dX7_begin_21 rfl (lv_at hl 0 rfl) ?_
      refine lv_iconst (v := 1) hx hb dX7_begin_22 (by decide) ?_
      refine rc_calli (wr := []) (va_runV (As := [.int 1]) (rest := []) (Ts := []) ⟨hx, hb, hml, hown, fun _ h9 => absurd h9 List.not_mem_nil⟩ (cw_X7_refuse l E _ h0 h1 h2 h3 h4 h5) (rc_cwV hAm qw_924 qw_13 qw_927 qw_926 qs_50 rfl rfl hd_X7_refuse ⟨Nat.le_of_ble_eq_true rfl, Nat.le_of_ble_eq_true rfl⟩) (rc_preV hAm hA hw [0] rfl rfl 0 rfl (q := vwCl[12]) rfl) rfl rfl hl.1 rfl (lv_room (Nat.le_of_ble_eq_true rfl)) dX7_begin_23 ⟨Nat.le_of_ble_eq_true rfl, Nat.le_of_ble_eq_true rfl⟩) hA hw [0] [] rfl rfl rfl (by decide) (fun r_19 u_20 H locs hp hw => ?_)
      obtain ⟨rfl, rfl⟩ := hp
      have hw : rc_W E A s [(h0, .inr (12, [.int 1, .ref h1, .ref h2, .ref h3, .ref h4, .ref h5, .int 1, .int 3, .int 50, .int (-1), .int (-1), .int (-1), .int (-1), .int 0, .int 100, .int 1000, .long 0]))] H locs := hw
      exact rc_iret (v := 0) hx hb hr hlocks hw [(h0, .inr (12, [.int 1, .ref h1, .ref h2, .ref h3, .ref h4, .ref h5, .int 1, .int 3, .int 50, .int (-1), .int (-1), .int (-1), .int (-1), .int 0, .int 100, .int 1000, .long 0]))] (Or.inr (Or.inr (Or.inr (Or.inl ⟨c_14, c_15, rfl, rfl, rfl⟩)))) [0] rfl (by decide) (Nat.le_of_ble_eq_true rfl) (Nat.le_of_ble_eq_true rfl) dX7_begin_26
    · obtain rfl : x1 = 0 := rc_eqc (b := 0) rfl (by have g_c_16 := rc_g5 (b := 0) c_16 rfl; omega)
      have hw : rc_W E A s [(h0, .inr (12, [.int 0, .ref h1, .ref h2, .ref h3, .ref h4, .ref h5, .int 1, .int 3, .int 50, .int (-1), .int (-1), .int (-1), .int (-1), .int 0, .int 100, .int 1000, .long 0]))] H locs := hw
      refine lv_if_ne (tgt := 27) hx hb dX7_begin_18 (by decide) (fun _ => ?_) (fun c9 => absurd c9 (by decide))
      refine lv_iload_n hx hb dX7_begin_27 rfl (lv_at hl 2 rfl) ?_
      refine lv_iload_n hx hb dX7_begin_28 rfl (lv_at hl 1 rfl) ?_
      refine lv_icmp_gt (tgt := 38) hx hb dX7_begin_29 (by decide) (fun c9 => absurd c9 (by decide)) (fun _ => ?_)
      refine lv_aload_n hx hb dX7_begin_32 rfl (lv_at hl 0 rfl) ?_
      refine lv_iconst (v := 2) hx hb dX7_begin_33 (by decide) ?_
      refine rc_calli (wr := []) (va_runV (As := [.int 2]) (rest := []) (Ts := []) ⟨hx, hb, hml, hown, fun _ h9 => absurd h9 List.not_mem_nil⟩ (cw_X7_refuse_2 l E _ h0 h1 h2 h3 h4 h5) (rc_cwV hAm qw_924 qw_13 qw_927 qw_926 qs_50 rfl rfl hd_X7_refuse ⟨Nat.le_of_ble_eq_true rfl, Nat.le_of_ble_eq_true rfl⟩) (rc_preV hAm hA hw [0] rfl rfl 0 rfl (q := vwCl[12]) rfl) rfl rfl hl.1 rfl (lv_room (Nat.le_of_ble_eq_true rfl)) dX7_begin_34 ⟨Nat.le_of_ble_eq_true rfl, Nat.le_of_ble_eq_true rfl⟩) hA hw [0] [] rfl rfl rfl (by decide) (fun r_21 u_22 H locs hp hw => ?_)
      obtain ⟨rfl, rfl⟩ := hp
      have hw : rc_W E A s [(h0, .inr (12, [.int 2, .ref h1, .ref h2, .ref h3, .ref h4, .ref h5, .int 1, .int 3, .int 50, .int (-1), .int (-1), .int (-1), .int (-1), .int 0, .int 100, .int 1000, .long 0]))] H locs := hw
      exact rc_iret (v := 0) hx hb hr hlocks hw [(h0, .inr (12, [.int 2, .ref h1, .ref h2, .ref h3, .ref h4, .ref h5, .int 1, .int 3, .int 50, .int (-1), .int (-1), .int (-1), .int (-1), .int 0, .int 100, .int 1000, .long 0]))] (Or.inr (Or.inr (Or.inr (Or.inr ⟨rfl, rfl, rfl, rfl⟩)))) [0] rfl (by decide) (Nat.le_of_ble_eq_true rfl) (Nat.le_of_ble_eq_true rfl) dX7_begin_37
