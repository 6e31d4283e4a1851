set_option maxHeartbeats 4000000 in
set_option maxRecDepth 100000 in
theorem cw_X7_thrown_28 (l : Launch) (E : rc_E) (sz : Nat) (h0 : Nat) (h1 : Nat) (h2 : Nat) (h3 : Nat) (h4 : Nat) (h5 : Nat) : rc_Mi l yX7_thrown [Cond.code yX7_thrown cX7_thrown 1 (some FieldType.int)] { frames := 0, cells := 0, slots := 0, locals := 0 } E [.ref h0] [(h0, .inr (12, [.int 0, .ref h1, .ref h2, .ref h3, .ref h4, .ref h5, .int 26, .int 3, .int 50, .int (-1), .int (-1), .int (-1), .int (-1), .int 0, .int 100, .int 1000, .long 0]))] sz (S := va_W) (fun (r : Int32) (u : va_W) => (0 = r ∧ u = [(h0, .inr (12, [.int 0, .ref h1, .ref h2, .ref h3, .ref h4, .ref h5, .int 26, .int 3, .int 50, .int (-1), .int (-1), .int (-1), .int (-1), .int 0, .int 100, .int 1000, .long 0]))])) (fun u => u) 0 0 := by
  refine rc_ini (cc := cX7_thrown) (maxL := 1) (ret := (some FieldType.int)) (by decide) rfl (Nat.le_of_ble_eq_true rfl) ?_
  intro p e s m args below meth c ls A hx hb hr hml _ hown hlocks hin hA hAm hw hl
  have hown : s.vm.findClass RX7 = some m.cls := hown
  have hl : lv_has ls 1 [(0, .ref h0)] := hl
  refine lv_aload_n hx hb dX7_thrown_0 rfl (lv_at hl 0 rfl) ?_
  refine rc_get (v := .int 0) hx hb hown hAm hw lyX7 0 rfl rfl 0 (by decide) qw_860 (fun _ h9 => h9) rfl dX7_thrown_1 ?_
  exact rc_iret (v := 0) hx hb hr hlocks hw [(h0, .inr (12, [.int 0, .ref h1, .ref h2, .ref h3, .ref h4, .ref h5, .int 26, .int 3, .int 50, .int (-1), .int (-1), .int (-1), .int (-1), .int 0, .int 100, .int 1000, .long 0]))] (⟨rfl, rfl⟩) [0] rfl (by decide) (Nat.le_of_ble_eq_true rfl) (Nat.le_of_ble_eq_true rfl) dX7_thrown_4
set_option maxHeartbeats 4000000 in
set_option maxRecDepth 100000 in
theorem cw_X7_is_40 (l : Launch) (E : rc_E) (sz : Nat) : rc_Mi l yX7_is [Cond.code yX7_is cX7_is 3 (some FieldType.boolean)] { frames := 0, cells := 0, slots := 0, locals := 0 } E [.int 26, .int 1, .int 39] [] sz (S := va_W) (fun (r : Int32) (u : va_W) => (1 = r ∧ u = [])) (fun u => u) 0 0 := by
  refine rc_ini (cc := cX7_is) (maxL := 3) (ret := (some FieldType.boolean)) (by decide) rfl (Nat.le_of_ble_eq_true rfl) ?_
  intro p e s m args below meth c ls A hx hb hr hml _ hown hlocks hin hA hAm hw hl
  have hown : s.vm.findClass RX7 = some m.cls := hown
  have hl : lv_has ls 3 [(0, .int 26), (1, .int 1), (2, .int 39)] := hl
  refine lv_iload_n hx hb dX7_is_0 rfl (lv_at hl 0 rfl) ?_
  refine lv_iload_n hx hb dX7_is_1 rfl (lv_at hl 1 rfl) ?_
  refine lv_icmp_lt (tgt := 14) hx hb dX7_is_2 (by decide) (fun c9 => absurd c9 (by decide)) (fun _ => ?_)
  refine lv_iload_n hx hb dX7_is_5 rfl (lv_at hl 0 rfl) ?_
  refine lv_iload_n hx hb dX7_is_6 rfl (lv_at hl 2 rfl) ?_
  refine lv_icmp_gt (tgt := 14) hx hb dX7_is_7 (by decide) (fun c9 => absurd c9 (by decide)) (fun _ => ?_)
  refine lv_iconst (v := 1) hx hb dX7_is_10 (by decide) ?_
  refine lv_goto (tgt := 15) hx hb dX7_is_11 (by decide) ?_
  exact rc_zret (v := 1) hx hb hr hlocks hw rfl [] (⟨rfl, rfl⟩) [] rfl (by decide) (Nat.le_of_ble_eq_true rfl) (Nat.le_of_ble_eq_true rfl) dX7_is_15
set_option maxHeartbeats 4000000 in
set_option maxRecDepth 100000 in
theorem cw_X7_changes_27 (l : Launch) (E : rc_E) (sz : Nat) (h0 : Nat) (h1 : Nat) (h2 : Nat) (h3 : Nat) (h4 : Nat) (h5 : Nat) : rc_Mi l yX7_changes [Cond.code yX7_changes cX7_changes 2 (some FieldType.int)] { frames := 1, cells := 0, slots := 0, locals := 22 } E [.ref h0, .int 26] [(h0, .inr (12, [.int 0, .ref h1, .ref h2, .ref h3, .ref h4, .ref h5, .int 1, .int 3, .int 50, .int (-1), .int (-1), .int (-1), .int (-1), .int 0, .int 100, .int 1000, .long 0]))] sz (S := va_W) (fun (r : Int32) (u : va_W) => (27 = r ∧ u = [(h0, .inr (12, [.int 0, .ref h1, .ref h2, .ref h3, .ref h4, .ref h5, .int 27, .int 3, .int 50, .int (-1), .int (-1), .int (-1), .int (-1), .int 0, .int 100, .int 1000, .long 0]))])) (fun u => u) 0 0 := by
  refine rc_ini (cc := cX7_changes) (maxL := 2) (ret := (some FieldType.int)) (by decide) rfl (Nat.le_of_ble_eq_true rfl) ?_
  intro p e s m args below meth c ls A hx hb hr hml _ hown hlocks hin hA hAm hw hl
  have hown : s.vm.findClass RX7 = some m.cls := hown
  have hl : lv_has ls 2 [(0, .ref h0), (1, .int 26)] := hl
  refine lv_aload_n hx hb dX7_changes_0 rfl (lv_at hl 0 rfl) ?_
  refine lv_iconst (v := 0) hx hb dX7_changes_1 (by decide) ?_
  refine rc_put hx hb hown hAm hw lyX7 tyX7 tyX7_ok nmX7 0 rfl rfl 0 (by decide) qw_860 (fun _ h9 => h9) rfl rfl (by decide +kernel) (Nat.le_of_ble_eq_true rfl) [(h0, .inr (12, [.int 0, .ref h1, .ref h2, .ref h3, .ref h4, .ref h5, .int 1, .int 3, .int 50, .int (-1), .int (-1), .int (-1), .int (-1), .int 0, .int 100, .int 1000, .long 0]))] rfl dX7_changes_2 (fun H locs hw => ?_)
  refine lv_iload_n hx hb dX7_changes_5 rfl (lv_at hl 1 rfl) ?_
  refine lv_iconst (v := 1) hx hb dX7_changes_6 (by decide) ?_
  refine lv_bipush (v := 39) hx hb dX7_changes_7 (by decide) ?_
  refine rc_calli (wr := [(h0, .inr (12, [.int 0, .ref h1, .ref h2, .ref h3, .ref h4, .ref h5, .int 1, .int 3, .int 50, .int (-1), .int (-1), .int (-1), .int (-1), .int 0, .int 100, .int 1000, .long 0]))]) (va_runS (As := [.int 26, .int 1, .int 39]) (rest := []) (Ts := []) ⟨hx, hb, hml, hown, fun _ h9 => absurd h9 List.not_mem_nil⟩ (cw_X7_is_40 l E _) (rc_cwS hAm qw_921 qw_13 qw_923 qw_922 rfl rfl hd_X7_is ⟨Nat.le_of_ble_eq_true rfl, Nat.le_of_ble_eq_true rfl⟩) (rc_preS hAm hA hw [] rfl rfl) rfl rfl hl.1 rfl (lv_room (Nat.le_of_ble_eq_true rfl)) dX7_changes_9 ⟨Nat.le_of_ble_eq_true rfl, Nat.le_of_ble_eq_true rfl⟩) hA hw [] [0] rfl rfl rfl (by decide) (fun r_1 u_2 H locs hp hw => ?_)
  obtain ⟨rfl, rfl⟩ := hp
  have hw : rc_W E A s [(h0, .inr (12, [.int 0, .ref h1, .ref h2, .ref h3, .ref h4, .ref h5, .int 1, .int 3, .int 50, .int (-1), .int (-1), .int (-1), .int (-1), .int 0, .int 100, .int 1000, .long 0]))] H locs := hw
  refine lv_if_ne (tgt := 21) hx hb dX7_changes_12 (by decide) (fun _ => ?_) (fun c9 => absurd c9 (by decide))
  refine lv_aload_n hx hb dX7_changes_21 rfl (lv_at hl 0 rfl) ?_
  refine rc_get (v := .int 1) hx hb hown hAm hw lyX7 0 rfl rfl 6 (by decide) qw_866 (fun _ h9 => h9) rfl dX7_changes_22 ?_
  refine lv_iload_n hx hb dX7_changes_25 rfl (lv_at hl 1 rfl) ?_
  refine lv_iadd hx hb dX7_changes_26 ?_
  refine rc_topi 27 (by decide) ?_
  refine lv_bipush (v := 40) hx hb dX7_changes_27 (by decide) ?_
  refine lv_icmp_le (tgt := 38) hx hb dX7_changes_29 (by decide) (fun _ => ?_) (fun c9 => absurd (by decide) c9)
  refine lv_aload_n hx hb dX7_changes_38 rfl (lv_at hl 0 rfl) ?_
  refine lv_dup hx hb dX7_changes_39 rfl ?_
  refine rc_get (v := .int 1) hx hb hown hAm hw lyX7 0 rfl rfl 6 (by decide) qw_866 (fun _ h9 => h9) rfl dX7_changes_40 ?_
  refine lv_iload_n hx hb dX7_changes_43 rfl (lv_at hl 1 rfl) ?_
  refine lv_iadd hx hb dX7_changes_44 ?_
  refine rc_topi 27 (by decide) ?_
  refine rc_put hx hb hown hAm hw lyX7 tyX7 tyX7_ok nmX7 0 rfl rfl 6 (by decide) qw_866 (fun _ h9 => h9) rfl rfl (by decide +kernel) (Nat.le_of_ble_eq_true rfl) [(h0, .inr (12, [.int 0, .ref h1, .ref h2, .ref h3, .ref h4, .ref h5, .int 27, .int 3, .int 50, .int (-1), .int (-1), .int (-1), .int (-1), .int 0, .int 100, .int 1000, .long 0]))] rfl dX7_changes_45 (fun H locs hw => ?_)
  refine lv_aload_n hx hb dX7_changes_48 rfl (lv_at hl 0 rfl) ?_
  refine rc_get (v := .int 27) hx hb hown hAm hw lyX7 0 rfl rfl 6 (by decide) qw_866 (fun _ h9 => h9) rfl dX7_changes_49 ?_
  exact rc_iret (v := 27) hx hb hr hlocks hw [(h0, .inr (12, [.int 0, .ref h1, .ref h2, .ref h3, .ref h4, .ref h5, .int 27, .int 3, .int 50, .int (-1), .int (-1), .int (-1), .int (-1), .int 0, .int 100, .int 1000, .long 0]))] (⟨rfl, rfl⟩) [0] rfl (by decide) (Nat.le_of_ble_eq_true rfl) (Nat.le_of_ble_eq_true rfl) dX7_changes_52
set_option maxHeartbeats 4000000 in
set_option maxRecDepth 100000 in
theorem cw_X7_thrown_29 (l : Launch) (E : rc_E) (sz : Nat) (h0 : Nat) (h1 : Nat) (h2 : Nat) (h3 : Nat) (h4 : Nat) (h5 : Nat) : rc_Mi l yX7_thrown [Cond.code yX7_thrown cX7_thrown 1 (some FieldType.int)] { frames := 0, cells := 0, slots := 0, locals := 0 } E [.ref h0] [(h0, .inr (12, [.int 0, .ref h1, .ref h2, .ref h3, .ref h4, .ref h5, .int 27, .int 3, .int 50, .int (-1), .int (-1), .int (-1), .int (-1), .int 0, .int 100, .int 1000, .long 0]))] sz (S := va_W) (fun (r : Int32) (u : va_W) => (0 = r ∧ u = [(h0, .inr (12, [.int 0, .ref h1, .ref h2, .ref h3, .ref h4, .ref h5, .int 27, .int 3, .int 50, .int (-1), .int (-1), .int (-1), .int (-1), .int 0, .int 100, .int 1000, .long 0]))])) (fun u => u) 0 0 := by
  refine rc_ini (cc := cX7_thrown) (maxL := 1) (ret := (some FieldType.int)) (by decide) rfl (Nat.le_of_ble_eq_true rfl) ?_
  intro p e s m args below meth c ls A hx hb hr hml _ hown hlocks hin hA hAm hw hl
  have hown : s.vm.findClass RX7 = some m.cls := hown
  have hl : lv_has ls 1 [(0, .ref h0)] := hl
  refine lv_aload_n hx hb dX7_thrown_0 rfl (lv_at hl 0 rfl) ?_
  refine rc_get (v := .int 0) hx hb hown hAm hw lyX7 0 rfl rfl 0 (by decide) qw_860 (fun _ h9 => h9) rfl dX7_thrown_1 ?_
  exact rc_iret (v := 0) hx hb hr hlocks hw [(h0, .inr (12, [.int 0, .ref h1, .ref h2, .ref h3, .ref h4, .ref h5, .int 27, .int 3, .int 50, .int (-1), .int (-1), .int (-1), .int (-1), .int 0, .int 100, .int 1000, .long 0]))] (⟨rfl, rfl⟩) [0] rfl (by decide) (Nat.le_of_ble_eq_true rfl) (Nat.le_of_ble_eq_true rfl) dX7_thrown_4
set_option maxHeartbeats 4000000 in
set_option maxRecDepth 100000 in
theorem cw_X7_is_41 (l : Launch) (E : rc_E) (sz : Nat) : rc_Mi l yX7_is [Cond.code yX7_is cX7_is 3 (some FieldType.boolean)] { frames := 0, cells := 0, slots := 0, locals := 0 } E [.int 27, .int 1, .int 39] [] sz (S := va_W) (fun (r : Int32) (u : va_W) => (1 = r ∧ u = [])) (fun u => u) 0 0 := by
  refine rc_ini (cc := cX7_is) (maxL := 3) (ret := (some FieldType.boolean)) (by decide) rfl (Nat.le_of_ble_eq_true rfl) ?_
  intro p e s m args below meth c ls A hx hb hr hml _ hown hlocks hin hA hAm hw hl
  have hown : s.vm.findClass RX7 = some m.cls := hown
  have hl : lv_has ls 3 [(0, .int 27), (1, .int 1), (2, .int 39)] := hl
  refine lv_iload_n hx hb dX7_is_0 rfl (lv_at hl 0 rfl) ?_
  refine lv_iload_n hx hb dX7_is_1 rfl (lv_at hl 1 rfl) ?_
  refine lv_icmp_lt (tgt := 14) hx hb dX7_is_2 (by decide) (fun c9 => absurd c9 (by decide)) (fun _ => ?_)
  refine lv_iload_n hx hb dX7_is_5 rfl (lv_at hl 0 rfl) ?_
  refine lv_iload_n hx hb dX7_is_6 rfl (lv_at hl 2 rfl) ?_
  refine lv_icmp_gt (tgt := 14) hx hb dX7_is_7 (by decide) (fun c9 => absurd c9 (by decide)) (fun _ => ?_)
  refine lv_iconst (v := 1) hx hb dX7_is_10 (by decide) ?_
  refine lv_goto (tgt := 15) hx hb dX7_is_11 (by decide) ?_
  exact rc_zret (v := 1) hx hb hr hlocks hw rfl [] (⟨rfl, rfl⟩) [] rfl (by decide) (Nat.le_of_ble_eq_true rfl) (Nat.le_of_ble_eq_true rfl) dX7_is_15
set_option maxHeartbeats 4000000 in
set_option maxRecDepth 100000 in
theorem cw_X7_changes_28 (l : Launch) (E : rc_E) (sz : Nat) (h0 : Nat) (h1 : Nat) (h2 : Nat) (h3 : Nat) (h4 : Nat) (h5 : Nat) : rc_Mi l yX7_changes [Cond.code yX7_changes cX7_changes 2 (some FieldType.int)] { frames := 1, cells := 0, slots := 0, locals := 22 } E [.ref h0, .int 27] [(h0, .inr (12, [.int 0, .ref h1, .ref h2, .ref h3, .ref h4, .ref h5, .int 1, .int 3, .int 50, .int (-1), .int (-1), .int (-1), .int (-1), .int 0, .int 100, .int 1000, .long 0]))] sz (S := va_W) (fun (r : Int32) (u : va_W) => (28 = r ∧ u = [(h0, .inr (12, [.int 0, .ref h1, .ref h2, .ref h3, .ref h4, .ref h5, .int 28, .int 3, .int 50, .int (-1), .int (-1), .int (-1), .int (-1), .int 0, .int 100, .int 1000, .long 0]))])) (fun u => u) 0 0 := by
  refine rc_ini (cc := cX7_changes) (maxL := 2) (ret := (some FieldType.int)) (by decide) rfl (Nat.le_of_ble_eq_true rfl) ?_
  intro p e s m args below meth c ls A hx hb hr hml _ hown hlocks hin hA hAm hw hl
  have hown : s.vm.findClass RX7 = some m.cls := hown
  have hl : lv_has ls 2 [(0, .ref h0), (1, .int 27)] := hl
  refine lv_aload_n hx hb dX7_changes_0 rfl (lv_at hl 0 rfl) ?_
  refine lv_iconst (v := 0) hx hb dX7_changes_1 (by decide) ?_
  refine rc_put hx hb hown hAm hw lyX7 tyX7 tyX7_ok nmX7 0 rfl rfl 0 (by decide) qw_860 (fun _ h9 => h9) rfl rfl (by decide +kernel) (Nat.le_of_ble_eq_true rfl) [(h0, .inr (12, [.int 0, .ref h1, .ref h2, .ref h3, .ref h4, .ref h5, .int 1, .int 3, .int 50, .int (-1), .int (-1), .int (-1), .int (-1), .int 0, .int 100, .int 1000, .long 0]))] rfl dX7_changes_2 (fun H locs hw => ?_)
  refine lv_iload_n hx hb dX7_changes_5 rfl (lv_at hl 1 rfl) ?_
  refine lv_iconst (v := 1) hx hb dX7_changes_6 (by decide) ?_
  refine lv_bipush (v := 39) hx hb dX7_changes_7 (by decide) ?_
  refine rc_calli (wr := [(h0, .inr (12, [.int 0, .ref h1, .ref h2, .ref h3, .ref h4, .ref h5, .int 1, .int 3, .int 50, .int (-1), .int (-1), .int (-1), .int (-1), .int 0, .int 100, .int 1000, .long 0]))]) (va_runS (As := [.int 27, .int 1, .int 39]) (rest := []) (Ts := []) ⟨hx, hb, hml, hown, fun _ h9 => absurd h9 List.not_mem_nil⟩ (cw_X7_is_41 l E _) (rc_cwS hAm qw_921 qw_13 qw_923 qw_922 rfl rfl hd_X7_is ⟨Nat.le_of_ble_eq_true rfl, Nat.le_of_ble_eq_true rfl⟩) (rc_preS hAm hA hw [] rfl rfl) rfl rfl hl.1 rfl (lv_room (Nat.le_of_ble_eq_true rfl)) dX7_changes_9 ⟨Nat.le_of_ble_eq_true rfl, Nat.le_of_ble_eq_true rfl⟩) hA hw [] [0] rfl rfl rfl (by decide) (fun r_1 u_2 H locs hp hw => ?_)
  obtain ⟨rfl, rfl⟩ := hp
  have hw : rc_W E A s [(h0, .inr (12, [.int 0, .ref h1, .ref h2, .ref h3, .ref h4, .ref h5, .int 1, .int 3, .int 50, .int (-1), .int (-1), .int (-1), .int (-1), .int 0, .int 100, .int 1000, .long 0]))] H locs := hw
  refine lv_if_ne (tgt := 21) hx hb dX7_changes_12 (by decide) (fun _ => ?_) (fun c9 => absurd c9 (by decide))
  refine lv_aload_n hx hb dX7_changes_21 rfl (lv_at hl 0 rfl) ?_
  refine rc_get (v := .int 1) hx hb hown hAm hw lyX7 0 rfl rfl 6 (by decide) qw_866 (fun _ h9 => h9) rfl dX7_changes_22 ?_
  refine lv_iload_n hx hb dX7_changes_25 rfl (lv_at hl 1 rfl) ?_
  refine lv_iadd hx hb dX7_changes_26 ?_
  refine rc_topi 28 (by decide) ?_
  refine lv_bipush (v := 40) hx hb dX7_changes_27 (by decide) ?_
  refine lv_icmp_le (tgt := 38) hx hb dX7_changes_29 (by decide) (fun _ => ?_) (fun c9 => absurd (by decide) c9)
  refine lv_aload_n hx hb dX7_changes_38 rfl (lv_at hl 0 rfl) ?_
  refine lv_dup hx hb dX7_changes_39 rfl ?_
  refine rc_get (v := .int 1) hx hb hown hAm hw lyX7 0 rfl rfl 6 (by decide) qw_866 (fun _ h9 => h9) rfl dX7_changes_40 ?_
  refine lv_iload_n hx hb dX7_changes_43 rfl (lv_at hl 1 rfl) ?_
  refine lv_iadd hx hb dX7_changes_44 ?_
  refine rc_topi 28 (by decide) ?_
  refine rc_put hx hb hown hAm hw lyX7 tyX7 tyX7_ok nmX7 0 rfl rfl 6 (by decide) qw_866 (fun _ h9 => h9) rfl rfl (by decide +kernel) (Nat.le_of_ble_eq_true rfl) [(h0, .inr (12, [.int 0, .ref h1, .ref h2, .ref h3, .ref h4, .ref h5, .int 28, .int 3, .int 50, .int (-1), .int (-1), .int (-1), .int (-1), .int 0, .int 100, .int 1000, .long 0]))] rfl dX7_changes_45 (fun H locs hw => ?_)
  refine lv_aload_n hx hb dX7_changes_48 rfl (lv_at hl 0 rfl) ?_
  refine rc_get (v := .int 28) hx hb hown hAm hw lyX7 0 rfl rfl 6 (by decide) qw_866 (fun _ h9 => h9) rfl dX7_changes_49 ?_
  exact rc_iret (v := 28) hx hb hr hlocks hw [(h0, .inr (12, [.int 0, .ref h1, .ref h2, .ref h3, .ref h4, .ref h5, .int 28, .int 3, .int 50, .int (-1), .int (-1), .int (-1), .int (-1), .int 0, .int 100, .int 1000, .long 0]))] (⟨rfl, rfl⟩) [0] rfl (by decide) (Nat.le_of_ble_eq_true rfl) (Nat.le_of_ble_eq_true rfl) dX7_changes_52
set_option maxHeartbeats 4000000 in
set_option maxRecDepth 100000 in
theorem cw_X7_thrown_30 (l : Launch) (E : rc_E) (sz : Nat) (h0 : Nat) (h1 : Nat) (h2 : Nat) (h3 : Nat) (h4 : Nat) (h5 : Nat) : rc_Mi l yX7_thrown [Cond.code yX7_thrown cX7_thrown 1 (some FieldType.int)] { frames := 0, cells := 0, slots := 0, locals := 0 } E [.ref h0] [(h0, .inr (12, [.int 0, .ref h1, .ref h2, .ref h3, .ref h4, .ref h5, .int 28, .int 3, .int 50, .int (-1), .int (-1), .int (-1), .int (-1), .int 0, .int 100, .int 1000, .long 0]))] sz (S := va_W) (fun (r : Int32) (u : va_W) => (0 = r ∧ u = [(h0, .inr (12, [.int 0, .ref h1, .ref h2, .ref h3, .ref h4, .ref h5, .int 28, .int 3, .int 50, .int (-1), .int (-1), .int (-1), .int (-1), .int 0, .int 100, .int 1000, .long 0]))])) (fun u => u) 0 0 := by
  refine rc_ini (cc := cX7_thrown) (maxL := 1) (ret := (some FieldType.int)) (by decide) rfl (Nat.le_of_ble_eq_true rfl) ?_
  intro p e s m args below meth c ls A hx hb hr hml _ hown hlocks hin hA hAm hw hl
  have hown : s.vm.findClass RX7 = some m.cls := hown
  have hl : lv_has ls 1 [(0, .ref h0)] := hl
  refine lv_aload_n hx hb dX7_thrown_0 rfl (lv_at hl 0 rfl) ?_
  refine rc_get (v := .int 0) hx hb hown hAm hw lyX7 0 rfl rfl 0 (by decide) qw_860 (fun _ h9 => h9) rfl dX7_thrown_1 ?_
  exact rc_iret (v := 0) hx hb hr hlocks hw [(h0, .inr (12, [.int 0, .ref h1, .ref h2, .ref h3, .ref h4, .ref h5, .int 28, .int 3, .int 50, .int (-1), .int (-1), .int (-1), .int (-1), .int 0, .int 100, .int 1000, .long 0]))] (⟨rfl, rfl⟩) [0] rfl (by decide) (Nat.le_of_ble_eq_true rfl) (Nat.le_of_ble_eq_true rfl) dX7_thrown_4
set_option maxHeartbeats 4000000 in
set_option maxRecDepth 100000 in
theorem cw_X7_is_42 (l : Launch) (E : rc_E) (sz : Nat) : rc_Mi l yX7_is [Cond.code yX7_is cX7_is 3 (some FieldType.boolean)] { frames := 0, cells := 0, slots := 0, locals := 0 } E [.int 28, .int 1, .int 39] [] sz (S := va_W) (fun (r : Int32) (u : va_W) => (1 = r ∧ u = [])) (fun u => u) 0 0 := by
  refine rc_ini (cc := cX7_is) (maxL := 3) (ret := (some FieldType.boolean)) (by decide) rfl (Nat.le_of_ble_eq_true rfl) ?_
  intro p e s m args below meth c ls A hx hb hr hml _ hown hlocks hin hA hAm hw hl
  have hown : s.vm.findClass RX7 = some m.cls := hown
  have hl : lv_has ls 3 [(0, .int 28), (1, .int 1), (2, .int 39)] := hl
  refine lv_iload_n hx hb dX7_is_0 rfl (lv_at hl 0 rfl) ?_
  refine lv_iload_n hx hb dX7_is_1 rfl (lv_at hl 1 rfl) ?_
  refine lv_icmp_lt (tgt := 14) hx hb dX7_is_2 (by decide) (fun c9 => absurd c9 (by decide)) (fun _ => ?_)
  refine lv_iload_n hx hb dX7_is_5 rfl (lv_at hl 0 rfl) ?_
  refine lv_iload_n hx hb dX7_is_6 rfl (lv_at hl 2 rfl) ?_
  refine lv_icmp_gt (tgt := 14) hx hb dX7_is_7 (by decide) (fun c9 => absurd c9 (by decide)) (fun _ => ?_)
  refine lv_iconst (v := 1) hx hb dX7_is_10 (by decide) ?_
  refine lv_goto (tgt := 15) hx hb dX7_is_11 (by decide) ?_
  exact rc_zret (v := 1) hx hb hr hlocks hw rfl [] (⟨rfl, rfl⟩) [] rfl (by decide) (Nat.le_of_ble_eq_true rfl) (Nat.le_of_ble_eq_true rfl) dX7_is_15
set_option maxHeartbeats 4000000 in
set_option maxRecDepth 100000 in
theorem cw_X7_changes_29 (l : Launch) (E : rc_E) (sz : Nat) (h0 : Nat) (h1 : Nat) (h2 : Nat) (h3 : Nat) (h4 : Nat) (h5 : Nat) : rc_Mi l yX7_changes [Cond.code yX7_changes cX7_changes 2 (some FieldType.int)] { frames := 1, cells := 0, slots := 0, locals := 22 } E [.ref h0, .int 28] [(h0, .inr (12, [.int 0, .ref h1, .ref h2, .ref h3, .ref h4, .ref h5, .int 1, .int 3, .int 50, .int (-1), .int (-1), .int (-1), .int (-1), .int 0, .int 100, .int 1000, .long 0]))] sz (S := va_W) (fun (r : Int32) (u : va_W) => (29 = r ∧ u = [(h0, .inr (12, [.int 0, .ref h1, .ref h2, .ref h3, .ref h4, .ref h5, .int 29, .int 3, .int 50, .int (-1), .int (-1), .int (-1), .int (-1), .int 0, .int 100, .int 1000, .long 0]))])) (fun u => u) 0 0 := by
  refine rc_ini (cc := cX7_changes) (maxL := 2) (ret := (some FieldType.int)) (by decide) rfl (Nat.le_of_ble_eq_true rfl) ?_
  intro p e s m args below meth c ls A hx hb hr hml _ hown hlocks hin hA hAm hw hl
  have hown : s.vm.findClass RX7 = some m.cls := hown
  have hl : lv_has ls 2 [(0, .ref h0), (1, .int 28)] := hl
  refine lv_aload_n hx hb dX7_changes_0 rfl (lv_at hl 0 rfl) ?_
  refine lv_iconst (v := 0) hx hb dX7_changes_1 (by decide) ?_
  refine rc_put hx hb hown hAm hw lyX7 tyX7 tyX7_ok nmX7 0 rfl rfl 0 (by decide) qw_860 (fun _ h9 => h9) rfl rfl (by decide +kernel) (Nat.le_of_ble_eq_true rfl) [(h0, .inr (12, [.int 0, .ref h1, .ref h2, .ref h3, .ref h4, .ref h5, .int 1, .int 3, .int 50, .int (-1), .int (-1), .int (-1), .int (-1), .int 0, .int 100, .int 1000, .long 0]))] rfl dX7_changes_2 (fun H locs hw => ?_)
  refine lv_iload_n hx hb dX7_changes_5 rfl (lv_at hl 1 rfl) ?_
  refine lv_iconst (v := 1) hx hb dX7_changes_6 (by decide) ?_
  refine lv_bipush (v := 39) hx hb dX7_changes_7 (by decide) ?_
  refine rc_calli (wr := [(h0, .inr (12, [.int 0, .ref h1, .ref h2, .ref h3, .ref h4, .ref h5, .int 1, .int 3, .int 50, .int (-1), .int (-1), .int (-1), .int (-1), .int 0, .int 100, .int 1000, .long 0]))]) (va_runS (As := [.int 28, .int 1, .int 39]) (rest := []) (Ts := []) ⟨hx, hb, hml, hown, fun _ h9 => absurd h9 List.not_mem_nil⟩ (cw_X7_is_42 l E _) (rc_cwS hAm qw_921 qw_13 qw_923 qw_922 rfl rfl hd_X7_is ⟨Nat.le_of_ble_eq_true rfl, Nat.le_of_ble_eq_true rfl⟩) (rc_preS hAm hA hw [] rfl rfl) rfl rfl hl.1 rfl (lv_room (Nat.le_of_ble_eq_true rfl)) dX7_changes_9 ⟨Nat.le_of_ble_eq_true rfl, Nat.le_of_ble_eq_true rfl⟩) hA hw [] [0] rfl rfl rfl (by decide) (fun r_1 u_2 H locs hp hw => ?_)
  obtain ⟨rfl, rfl⟩ := hp
  have hw : rc_W E A s [(h0, .inr (12, [.int 0, .ref h1, .ref h2, .ref h3, .ref h4, .ref h5, .int 1, .int 3, .int 50, .int (-1), .int (-1), .int (-1), .int (-1), .int 0, .int 100, .int 1000, .long 0]))] H locs := hw
  refine lv_if_ne (tgt := 21) hx hb dX7_changes_12 (by decide) (fun _ => ?_) (fun c9 => absurd c9 (by decide))
  refine lv_aload_n hx hb dX7_changes_21 rfl (lv_at hl 0 rfl) ?_
  refine rc_get (v := .int 1) hx hb hown hAm hw lyX7 0 rfl rfl 6 (by decide) qw_866 (fun _ h9 => h9) rfl dX7_changes_22 ?_
  refine lv_iload_n hx hb dX7_changes_25 rfl (lv_at hl 1 rfl) ?_
  refine lv_iadd hx hb dX7_changes_26 ?_
  refine rc_topi 29 (by decide) ?_
  refine lv_bipush (v := 40) hx hb dX7_changes_27 (by decide) ?_
  refine lv_icmp_le (tgt := 38) hx hb dX7_changes_29 (by decide) (fun _ => ?_) (fun c9 => absurd (by decide) c9)
  refine lv_aload_n hx hb dX7_changes_38 rfl (lv_at hl 0 rfl) ?_
  refine lv_dup hx hb dX7_changes_39 rfl ?_
  refine rc_get (v := .int 1) hx hb hown hAm hw lyX7 0 rfl rfl 6 (by decide) qw_866 (fun _ h9 => h9) rfl dX7_changes_40 ?_
  refine lv_iload_n hx hb dX7_changes_43 rfl (lv_at hl 1 rfl) ?_
  refine lv_iadd hx hb dX7_changes_44 ?_
  refine rc_topi 29 (by decide) ?_
  refine rc_put hx hb hown hAm hw lyX7 tyX7 tyX7_ok nmX7 0 rfl rfl 6 (by decide) qw_866 (fun _ h9 => h9) rfl rfl (by decide +kernel) (Nat.le_of_ble_eq_true rfl) [(h0, .inr (12, [.int 0, .ref h1, .ref h2, .ref h3, .ref h4, .ref h5, .int 29, .int 3, .int 50, .int (-1), .int (-1), .int (-1), .int (-1), .int 0, .int 100, .int 1000, .long 0]))] rfl dX7_changes_45 (fun H locs hw => ?_)
  refine lv_aload_n hx hb dX7_changes_48 rfl (lv_at hl 0 rfl) ?_
  refine rc_get (v := .int 29) hx hb hown hAm hw lyX7 0 rfl rfl 6 (by decide) qw_866 (fun _ h9 => h9) rfl dX7_changes_49 ?_
  exact rc_iret (v := 29) hx hb hr hlocks hw [(h0, .inr (12, [.int 0, .ref h1, .ref h2, .ref h3, .ref h4, .ref h5, .int 29, .int 3, .int 50, .int (-1), .int (-1), .int (-1), .int (-1), .int 0, .int 100, .int 1000, .long 0]))] (⟨rfl, rfl⟩) [0] rfl (by decide) (Nat.le_of_ble_eq_true rfl) (Nat.le_of_ble_eq_true rfl) dX7_changes_52
set_option maxHeartbeats 4000000 in
set_option maxRecDepth 100000 in
theorem cw_X7_thrown_31 (l : Launch) (E : rc_E) (sz : Nat) (h0 : Nat) (h1 : Nat) (h2 : Nat) (h3 : Nat) (h4 : Nat) (h5 : Nat) : rc_Mi l yX7_thrown [Cond.code yX7_thrown cX7_thrown 1 (some FieldType.int)] { frames := 0, cells := 0, slots := 0, locals := 0 } E [.ref h0] [(h0, .inr (12, [.int 0, .ref h1, .ref h2, .ref h3, .ref h4, .ref h5, .int 29, .int 3, .int 50, .int (-1), .int (-1), .int (-1), .int (-1), .int 0, .int 100, .int 1000, .long 0]))] sz (S := va_W) (fun (r : Int32) (u : va_W) => (0 = r ∧ u = [(h0, .inr (12, [.int 0, .ref h1, .ref h2, .ref h3, .ref h4, .ref h5, .int 29, .int 3, .int 50, .int (-1), .int (-1), .int (-1), .int (-1), .int 0, .int 100, .int 1000, .long 0]))])) (fun u => u) 0 0 := by
  refine rc_ini (cc := cX7_thrown) (maxL := 1) (ret := (some FieldType.int)) (by decide) rfl (Nat.le_of_ble_eq_true rfl) ?_
  intro p e s m args below meth c ls A hx hb hr hml _ hown hlocks hin hA hAm hw hl
  have hown : s.vm.findClass RX7 = some m.cls := hown
  have hl : lv_has ls 1 [(0, .ref h0)] := hl
  refine lv_aload_n hx hb dX7_thrown_0 rfl (lv_at hl 0 rfl) ?_
  refine rc_get (v := .int 0) hx hb hown hAm hw lyX7 0 rfl rfl 0 (by decide) qw_860 (fun _ h9 => h9) rfl dX7_thrown_1 ?_
  exact rc_iret (v := 0) hx hb hr hlocks hw [(h0, .inr (12, [.int 0, .ref h1, .ref h2, .ref h3, .ref h4, .ref h5, .int 29, .int 3, .int 50, .int (-1), .int (-1), .int (-1), .int (-1), .int 0, .int 100, .int 1000, .long 0]))] (⟨rfl, rfl⟩) [0] rfl (by decide) (Nat.le_of_ble_eq_true rfl) (Nat.le_of_ble_eq_true rfl) dX7_thrown_4
set_option maxHeartbeats 4000000 in
set_option maxRecDepth 100000 in
theorem cw_X7_is_43 (l : Launch) (E : rc_E) (sz : Nat) : rc_Mi l yX7_is [Cond.code yX7_is cX7_is 3 (some FieldType.boolean)] { frames := 0, cells := 0, slots := 0, locals := 0 } E [.int 29, .int 1, .int 39] [] sz (S := va_W) (fun (r : Int32) (u : va_W) => (1 = r ∧ u = [])) (fun u => u) 0 0 := by
  refine rc_ini (cc := cX7_is) (maxL := 3) (ret := (some FieldType.boolean)) (by decide) rfl (Nat.le_of_ble_eq_true rfl) ?_
  intro p e s m args below meth c ls A hx hb hr hml _ hown hlocks hin hA hAm hw hl
  have hown : s.vm.findClass RX7 = some m.cls := hown
  have hl : lv_has ls 3 [(0, .int 29), (1, .int 1), (2, .int 39)] := hl
  refine lv_iload_n hx hb dX7_is_0 rfl (lv_at hl 0 rfl) ?_
  refine lv_iload_n hx hb dX7_is_1 rfl (lv_at hl 1 rfl) ?_
  refine lv_icmp_lt (tgt := 14) hx hb dX7_is_2 (by decide) (fun c9 => absurd c9 (by decide)) (fun _ => ?_)
  refine lv_iload_n hx hb dX7_is_5 rfl (lv_at hl 0 rfl) ?_
  refine lv_iload_n hx hb dX7_is_6 rfl (lv_at hl 2 rfl) ?_
  refine lv_icmp_gt (tgt := 14) hx hb dX7_is_7 (by decide) (fun c9 => absurd c9 (by decide)) (fun _ => ?_)
  refine lv_iconst (v := 1) hx hb dX7_is_10 (by decide) ?_
  refine lv_goto (tgt := 15) hx hb dX7_is_11 (by decide) ?_
  exact rc_zret (v := 1) hx hb hr hlocks hw rfl [] (⟨rfl, rfl⟩) [] rfl (by decide) (Nat.le_of_ble_eq_true rfl) (Nat.le_of_ble_eq_true rfl) dX7_is_15
set_option maxHeartbeats 4000000 in
set_option maxRecDepth 100000 in
theorem cw_X7_changes_30 (l : Launch) (E : rc_E) (sz : Nat) (h0 : Nat) (h1 : Nat) (h2 : Nat) (h3 : Nat) (h4 : Nat) (h5 : Nat) : rc_Mi l yX7_changes [Cond.code yX7_changes cX7_changes 2 (some FieldType.int)] { frames := 1, cells := 0, slots := 0, locals := 22 } E [.ref h0, .int 29] [(h0, .inr (12, [.int 0, .ref h1, .ref h2, .ref h3, .ref h4, .ref h5, .int 1, .int 3, .int 50, .int (-1), .int (-1), .int (-1), .int (-1), .int 0, .int 100, .int 1000, .long 0]))] sz (S := va_W) (fun (r : Int32) (u : va_W) => (30 = r ∧ u = [(h0, .inr (12, [.int 0, .ref h1, .ref h2, .ref h3, .ref h4, .ref h5, .int 30, .int 3, .int 50, .int (-1), .int (-1), .int (-1), .int (-1), .int 0, .int 100, .int 1000, .long 0]))])) (fun u => u) 0 0 := by
  refine rc_ini (cc := cX7_changes) (maxL := 2) (ret := (some FieldType.int)) (by decide) rfl (Nat.le_of_ble_eq_true rfl) ?_
  intro p e s m args below meth c ls A hx hb hr hml _ hown hlocks hin hA hAm hw hl
  have hown : s.vm.findClass RX7 = some m.cls := hown
  have hl : lv_has ls 2 [(0, .ref h0), (1, .int 29)] := hl
  refine lv_aload_n hx hb dX7_changes_0 rfl (lv_at hl 0 rfl) ?_
  refine lv_iconst (v := 0) hx hb dX7_changes_1 (by decide) ?_
  refine rc_put hx hb hown hAm hw lyX7 tyX7 tyX7_ok nmX7 0 rfl rfl 0 (by decide) qw_860 (fun _ h9 => h9) rfl rfl (by decide +kernel) (Nat.le_of_ble_eq_true rfl) [(h0, .inr (12, [.int 0, .ref h1, .ref h2, .ref h3, .ref h4, .ref h5, .int 1, .int 3, .int 50, .int (-1), .int (-1), .int (-1), .int (-1), .int 0, .int 100, .int 1000, .long 0]))] rfl dX7_changes_2 (fun H locs hw => ?_)
  refine lv_iload_n hx hb dX7_changes_5 rfl (lv_at hl 1 rfl) ?_
  refine lv_iconst (v := 1) hx hb dX7_changes_6 (by decide) ?_
  refine lv_bipush (v := 39) hx hb dX7_changes_7 (by decide) ?_
  refine rc_calli (wr := [(h0, .inr (12, [.int 0, .ref h1, .ref h2, .ref h3, .ref h4, .ref h5, .int 1, .int 3, .int 50, .int (-1), .int (-1), .int (-1), .int (-1), .int 0, .int 100, .int 1000, .long 0]))]) (va_runS (As := [.int 29, .int 1, .int 39]) (rest := []) (Ts := []) ⟨hx, hb, hml, hown, fun _ h9 => absurd h9 List.not_mem_nil⟩ (cw_X7_is_43 l E _) (rc_cwS hAm qw_921 qw_13 qw_923 qw_922 rfl rfl hd_X7_is ⟨Nat.le_of_ble_eq_true rfl, Nat.le_of_ble_eq_true rfl⟩) (rc_preS hAm hA hw [] rfl rfl) rfl rfl hl.1 rfl (lv_room (Nat.le_of_ble_eq_true rfl)) dX7_changes_9 ⟨Nat.le_of_ble_eq_true rfl, Nat.le_of_ble_eq_true rfl⟩) hA hw [] [0] rfl rfl rfl (by decide) (fun r_1 u_2 H locs hp hw => ?_)
  obtain ⟨rfl, rfl⟩ := hp
  have hw : rc_W E A s [(h0, .inr (12, [.int 0, .ref h1, .ref h2, .ref h3, .ref h4, .ref h5, .int 1, .int 3, .int 50, .int (-1), .int (-1), .int (-1), .int (-1), .int 0, .int 100, .int 1000, .long 0]))] H locs := hw
  refine lv_if_ne (tgt := 21) hx hb dX7_changes_12 (by decide) (fun _ => ?_) (fun c9 => absurd c9 (by decide))
  refine lv_aload_n hx hb dX7_changes_21 rfl (lv_at hl 0 rfl) ?_
  refine rc_get (v := .int 1) hx hb hown hAm hw lyX7 0 rfl rfl 6 (by decide) qw_866 (fun _ h9 => h9) rfl dX7_changes_22 ?_
  refine lv_iload_n hx hb dX7_changes_25 rfl (lv_at hl 1 rfl) ?_
  refine lv_iadd hx hb dX7_changes_26 ?_
  refine rc_topi 30 (by decide) ?_
  refine lv_bipush (v := 40) hx hb dX7_changes_27 (by decide) ?_
  refine lv_icmp_le (tgt := 38) hx hb dX7_changes_29 (by decide) (fun _ => ?_) (fun c9 => absurd (by decide) c9)
  refine lv_aload_n hx hb dX7_changes_38 rfl (lv_at hl 0 rfl) ?_
  refine lv_dup hx hb dX7_changes_39 rfl ?_
  refine rc_get (v := .int 1) hx hb hown hAm hw lyX7 0 rfl rfl 6 (by decide) qw_866 (fun _ h9 => h9) rfl dX7_changes_40 ?_
  refine lv_iload_n hx hb dX7_changes_43 rfl (lv_at hl 1 rfl) ?_
  refine lv_iadd hx hb dX7_changes_44 ?_
  refine rc_topi 30 (by decide) ?_
  refine rc_put hx hb hown hAm hw lyX7 tyX7 tyX7_ok nmX7 0 rfl rfl 6 (by decide) qw_866 (fun _ h9 => h9) rfl rfl (by decide +kernel) (Nat.le_of_ble_eq_true rfl) [(h0, .inr (12, [.int 0, .ref h1, .ref h2, .ref h3, .ref h4, .ref h5, .int 30, .int 3, .int 50, .int (-1), .int (-1), .int (-1), .int (-1), .int 0, .int 100, .int 1000, .long 0]))] rfl dX7_changes_45 (fun H locs hw => ?_)
  refine lv_aload_n hx hb dX7_changes_48 rfl (lv_at hl 0 rfl) ?_
  refine rc_get (v := .int 30) hx hb hown hAm hw lyX7 0 rfl rfl 6 (by decide) qw_866 (fun _ h9 => h9) rfl dX7_changes_49 ?_
  exact rc_iret (v := 30) hx hb hr hlocks hw [(h0, .inr (12, [.int 0, .ref h1, .ref h2, .ref h3, .ref h4, .ref h5, .int 30, .int 3, .int 50, .int (-1), .int (-1), .int (-1), .int (-1), .int 0, .int 100, .int 1000, .long 0]))] (⟨rfl, rfl⟩) [0] rfl (by decide) (Nat.le_of_ble_eq_true rfl) (Nat.le_of_ble_eq_true rfl) dX7_changes_52
set_option maxHeartbeats 4000000 in
set_option maxRecDepth 100000 in
theorem cw_X7_thrown_32 (l : Launch) (E : rc_E) (sz : Nat) (h0 : Nat) (h1 : Nat) (h2 : Nat) (h3 : Nat) (h4 : Nat) (h5 : Nat) : rc_Mi l yX7_thrown [Cond.code yX7_thrown cX7_thrown 1 (some FieldType.int)] { frames := 0, cells := 0, slots := 0, locals := 0 } E [.ref h0] [(h0, .inr (12, [.int 0, .ref h1, .ref h2, .ref h3, .ref h4, .ref h5, .int 30, .int 3, .int 50, .int (-1), .int (-1), .int (-1), .int (-1), .int 0, .int 100, .int 1000, .long 0]))] sz (S := va_W) (fun (r : Int32) (u : va_W) => (0 = r ∧ u = [(h0, .inr (12, [.int 0, .ref h1, .ref h2, .ref h3, .ref h4, .ref h5, .int 30, .int 3, .int 50, .int (-1), .int (-1), .int (-1), .int (-1), .int 0, .int 100, .int 1000, .long 0]))])) (fun u => u) 0 0 := by
  refine rc_ini (cc := cX7_thrown) (maxL := 1) (ret := (some FieldType.int)) (by decide) rfl (Nat.le_of_ble_eq_true rfl) ?_
  intro p e s m args below meth c ls A hx hb hr hml _ hown hlocks hin hA hAm hw hl
  have hown : s.vm.findClass RX7 = some m.cls := hown
  have hl : lv_has ls 1 [(0, .ref h0)] := hl
  refine lv_aload_n hx hb dX7_thrown_0 rfl (lv_at hl 0 rfl) ?_
  refine rc_get (v := .int 0) hx hb hown hAm hw lyX7 0 rfl rfl 0 (by decide) qw_860 (fun _ h9 => h9) rfl dX7_thrown_1 ?_
  exact rc_iret (v := 0) hx hb hr hlocks hw [(h0, .inr (12, [.int 0, .ref h1, .ref h2, .ref h3, .ref h4, .ref h5, .int 30, .int 3, .int 50, .int (-1), .int (-1), .int (-1), .int (-1), .int 0, .int 100, .int 1000, .long 0]))] (⟨rfl, rfl⟩) [0] rfl (by decide) (Nat.le_of_ble_eq_true rfl) (Nat.le_of_ble_eq_true rfl) dX7_thrown_4
set_option maxHeartbeats 4000000 in
set_option maxRecDepth 100000 in
theorem cw_X7_is_44 (l : Launch) (E : rc_E) (sz : Nat) : rc_Mi l yX7_is [Cond.code yX7_is cX7_is 3 (some FieldType.boolean)] { frames := 0, cells := 0, slots := 0, locals := 0 } E [.int 30, .int 1, .int 39] [] sz (S := va_W) (fun (r : Int32) (u : va_W) => (1 = r ∧ u = [])) (fun u => u) 0 0 := by
  refine rc_ini (cc := cX7_is) (maxL := 3) (ret := (some FieldType.boolean)) (by decide) rfl (Nat.le_of_ble_eq_true rfl) ?_
  intro p e s m args below meth c ls A hx hb hr hml _ hown hlocks hin hA hAm hw hl
  have hown : s.vm.findClass RX7 = some m.cls := hown
  have hl : lv_has ls 3 [(0, .int 30), (1, .int 1), (2, .int 39)] := hl
  refine lv_iload_n hx hb dX7_is_0 rfl (lv_at hl 0 rfl) ?_
  refine lv_iload_n hx hb dX7_is_1 rfl (lv_at hl 1 rfl) ?_
  refine lv_icmp_lt (tgt := 14) hx hb dX7_is_2 (by decide) (fun c9 => absurd c9 (by decide)) (fun _ => ?_)
  refine lv_iload_n hx hb dX7_is_5 rfl (lv_at hl 0 rfl) ?_
  refine lv_iload_n hx hb dX7_is_6 rfl (lv_at hl 2 rfl) ?_
  refine lv_icmp_gt (tgt := 14) hx hb dX7_is_7 (by decide) (fun c9 => absurd c9 (by decide)) (fun _ => ?_)
  refine lv_iconst (v := 1) hx hb dX7_is_10 (by decide) ?_
  refine lv_goto (tgt := 15) hx hb dX7_is_11 (by decide) ?_
  exact rc_zret (v := 1) hx hb hr hlocks hw rfl [] (⟨rfl, rfl⟩) [] rfl (by decide) (Nat.le_of_ble_eq_true rfl) (Nat.le_of_ble_eq_true rfl) dX7_is_15
set_option maxHeartbeats 4000000 in
set_option maxRecDepth 100000 in
theorem cw_X7_changes_31 (l : Launch) (E : rc_E) (sz : Nat) (h0 : Nat) (h1 : Nat) (h2 : Nat) (h3 : Nat) (h4 : Nat) (h5 : Nat) : rc_Mi l yX7_changes [Cond.code yX7_changes cX7_changes 2 (some FieldType.int)] { frames := 1, cells := 0, slots := 0, locals := 22 } E [.ref h0, .int 30] [(h0, .inr (12, [.int 0, .ref h1, .ref h2, .ref h3, .ref h4, .ref h5, .int 1, .int 3, .int 50, .int (-1), .int (-1), .int (-1), .int (-1), .int 0, .int 100, .int 1000, .long 0]))] sz (S := va_W) (fun (r : Int32) (u : va_W) => (31 = r ∧ u = [(h0, .inr (12, [.int 0, .ref h1, .ref h2, .ref h3, .ref h4, .ref h5, .int 31, .int 3, .int 50, .int (-1), .int (-1), .int (-1), .int (-1), .int 0, .int 100, .int 1000, .long 0]))])) (fun u => u) 0 0 := by
  refine rc_ini (cc := cX7_changes) (maxL := 2) (ret := (some FieldType.int)) (by decide) rfl (Nat.le_of_ble_eq_true rfl) ?_
  intro p e s m args below meth c ls A hx hb hr hml _ hown hlocks hin hA hAm hw hl
  have hown : s.vm.findClass RX7 = some m.cls := hown
  have hl : lv_has ls 2 [(0, .ref h0), (1, .int 30)] := hl
  refine lv_aload_n hx hb dX7_changes_0 rfl (lv_at hl 0 rfl) ?_
  refine lv_iconst (v := 0) hx hb dX7_changes_1 (by decide) ?_
  refine rc_put hx hb hown hAm hw lyX7 tyX7 tyX7_ok nmX7 0 rfl rfl 0 (by decide) qw_860 (fun _ h9 => h9) rfl rfl (by decide +kernel) (Nat.le_of_ble_eq_true rfl) [(h0, .inr (12, [.int 0, .ref h1, .ref h2, .ref h3, .ref h4, .ref h5, .int 1, .int 3, .int 50, .int (-1), .int (-1), .int (-1), .int (-1), .int 0, .int 100, .int 1000, .long 0]))] rfl dX7_changes_2 (fun H locs hw => ?_)
  refine lv_iload_n hx hb dX7_changes_5 rfl (lv_at hl 1 rfl) ?_
  refine lv_iconst (v := 1) hx hb dX7_changes_6 (by decide) ?_
  refine lv_bipush (v := 39) hx hb dX7_changes_7 (by decide) ?_
  refine rc_calli (wr := [(h0, .inr (12, [.int 0, .ref h1, .ref h2, .ref h3, .ref h4, .ref h5, .int 1, .int 3, .int 50, .int (-1), .int (-1), .int (-1), .int (-1), .int 0, .int 100, .int 1000, .long 0]))]) (va_runS (As := [.int 30, .int 1, .int 39]) (rest := []) (Ts := []) ⟨hx, hb, hml, hown, fun _ h9 => absurd h9 List.not_mem_nil⟩ (cw_X7_is_44 l E _) (rc_cwS hAm qw_921 qw_13 qw_923 qw_922 rfl rfl hd_X7_is ⟨Nat.le_of_ble_eq_true rfl, Nat.le_of_ble_eq_true rfl⟩) (rc_preS hAm hA hw [] rfl rfl) rfl rfl hl.1 rfl (lv_room (Nat.le_of_ble_eq_true rfl)) dX7_changes_9 ⟨Nat.le_of_ble_eq_true rfl, Nat.le_of_ble_eq_true rfl⟩) hA hw [] [0] rfl rfl rfl (by decide) (fun r_1 u_2 H locs hp hw => ?_)
  obtain ⟨rfl, rfl⟩ := hp
  have hw : rc_W E A s [(h0, .inr (12, [.int 0, .ref h1, .ref h2, .ref h3, .ref h4, .ref h5, .int 1, .int 3, .int 50, .int (-1), .int (-1), .int (-1), .int (-1), .int 0, .int 100, .int 1000, .long 0]))] H locs := hw
  refine lv_if_ne (tgt := 21) hx hb dX7_changes_12 (by decide) (fun _ => ?_) (fun c9 => absurd c9 (by decide))
  refine lv_aload_n hx hb dX7_changes_21 rfl (lv_at hl 0 rfl) ?_
  refine rc_get (v := .int 1) hx hb hown hAm hw lyX7 0 rfl rfl 6 (by decide) qw_866 (fun _ h9 => h9) rfl dX7_changes_22 ?_
  refine lv_iload_n hx hb dX7_changes_25 rfl (lv_at hl 1 rfl) ?_
  refine lv_iadd hx hb dX7_changes_26 ?_
  refine rc_topi 31 (by decide) ?_
  refine lv_bipush (v := 40) hx hb dX7_changes_27 (by decide) ?_
  refine lv_icmp_le (tgt := 38) hx hb dX7_changes_29 (by decide) (fun _ => ?_) (fun c9 => absurd (by decide) c9)
  refine lv_aload_n hx hb dX7_changes_38 rfl (lv_at hl 0 rfl) ?_
  refine lv_dup hx hb dX7_changes_39 rfl ?_
  refine rc_get (v := .int 1) hx hb hown hAm hw lyX7 0 rfl rfl 6 (by decide) qw_866 (fun _ h9 => h9) rfl dX7_changes_40 ?_
  refine lv_iload_n hx hb dX7_changes_43 rfl (lv_at hl 1 rfl) ?_
  refine lv_iadd hx hb dX7_changes_44 ?_
  refine rc_topi 31 (by decide) ?_
  refine rc_put hx hb hown hAm hw lyX7 tyX7 tyX7_ok nmX7 0 rfl rfl 6 (by decide) qw_866 (fun _ h9 => h9) rfl rfl (by decide +kernel) (Nat.le_of_ble_eq_true rfl) [(h0, .inr (12, [.int 0, .ref h1, .ref h2, .ref h3, .ref h4, .ref h5, .int 31, .int 3, .int 50, .int (-1), .int (-1), .int (-1), .int (-1), .int 0, .int 100, .int 1000, .long 0]))] rfl dX7_changes_45 (fun H locs hw => ?_)
  refine lv_aload_n hx hb dX7_changes_48 rfl (lv_at hl 0 rfl) ?_
  refine rc_get (v := .int 31) hx hb hown hAm hw lyX7 0 rfl rfl 6 (by decide) qw_866 (fun _ h9 => h9) rfl dX7_changes_49 ?_
  exact rc_iret (v := 31) hx hb hr hlocks hw [(h0, .inr (12, [.int 0, .ref h1, .ref h2, .ref h3, .ref h4, .ref h5, .int 31, .int 3, .int 50, .int (-1), .int (-1), .int (-1), .int (-1), .int 0, .int 100, .int 1000, .long 0]))] (⟨rfl, rfl⟩) [0] rfl (by decide) (Nat.le_of_ble_eq_true rfl) (Nat.le_of_ble_eq_true rfl) dX7_changes_52
set_option maxHeartbeats 4000000 in
set_option maxRecDepth 100000 in
theorem cw_X7_thrown_33 (l : Launch) (E : rc_E) (sz : Nat) (h0 : Nat) (h1 : Nat) (h2 : Nat) (h3 : Nat) (h4 : Nat) (h5 : Nat) : rc_Mi l yX7_thrown [Cond.code yX7_thrown cX7_thrown 1 (some FieldType.int)] { frames := 0, cells := 0, slots := 0, locals := 0 } E [.ref h0] [(h0, .inr (12, [.int 0, .ref h1, .ref h2, .ref h3, .ref h4, .ref h5, .int 31, .int 3, .int 50, .int (-1), .int (-1), .int (-1), .int (-1), .int 0, .int 100, .int 1000, .long 0]))] sz (S := va_W) (fun (r : Int32) (u : va_W) => (0 = r ∧ u = [(h0, .inr (12, [.int 0, .ref h1, .ref h2, .ref h3, .ref h4, .ref h5, .int 31, .int 3, .int 50, .int (-1), .int (-1), .int (-1), .int (-1), .int 0, .int 100, .int 1000, .long 0]))])) (fun u => u) 0 0 := by
  refine rc_ini (cc := cX7_thrown) (maxL := 1) (ret := (some FieldType.int)) (by decide) rfl (Nat.le_of_ble_eq_true rfl) ?_
  intro p e s m args below meth c ls A hx hb hr hml _ hown hlocks hin hA hAm hw hl
  have hown : s.vm.findClass RX7 = some m.cls := hown
  have hl : lv_has ls 1 [(0, .ref h0)] := hl
  refine lv_aload_n hx hb dX7_thrown_0 rfl (lv_at hl 0 rfl) ?_
  refine rc_get (v := .int 0) hx hb hown hAm hw lyX7 0 rfl rfl 0 (by decide) qw_860 (fun _ h9 => h9) rfl dX7_thrown_1 ?_
  exact rc_iret (v := 0) hx hb hr hlocks hw [(h0, .inr (12, [.int 0, .ref h1, .ref h2, .ref h3, .ref h4, .ref h5, .int 31, .int 3, .int 50, .int (-1), .int (-1), .int (-1), .int (-1), .int 0, .int 100, .int 1000, .long 0]))] (⟨rfl, rfl⟩) [0] rfl (by decide) (Nat.le_of_ble_eq_true rfl) (Nat.le_of_ble_eq_true rfl) dX7_thrown_4
set_option maxHeartbeats 4000000 in
set_option maxRecDepth 100000 in
theorem cw_X7_is_45 (l : Launch) (E : rc_E) (sz : Nat) : rc_Mi l yX7_is [Cond.code yX7_is cX7_is 3 (some FieldType.boolean)] { frames := 0, cells := 0, slots := 0, locals := 0 } E [.int 31, .int 1, .int 39] [] sz (S := va_W) (fun (r : Int32) (u : va_W) => (1 = r ∧ u = [])) (fun u => u) 0 0 := by
  refine rc_ini (cc := cX7_is) (maxL := 3) (ret := (some FieldType.boolean)) (by decide) rfl (Nat.le_of_ble_eq_true rfl) ?_
  intro p e s m args below meth c ls A hx hb hr hml _ hown hlocks hin hA hAm hw hl
  have hown : s.vm.findClass RX7 = some m.cls := hown
  have hl : lv_has ls 3 [(0, .int 31), (1, .int 1), (2, .int 39)] := hl
  refine lv_iload_n hx hb dX7_is_0 rfl (lv_at hl 0 rfl) ?_
  refine lv_iload_n hx hb dX7_is_1 rfl (lv_at hl 1 rfl) ?_
  refine lv_icmp_lt (tgt := 14) hx hb dX7_is_2 (by decide) (fun c9 => absurd c9 (by decide)) (fun _ => ?_)
  refine lv_iload_n hx hb dX7_is_5 rfl (lv_at hl 0 rfl) ?_
  refine lv_iload_n hx hb dX7_is_6 rfl (lv_at hl 2 rfl) ?_
  refine lv_icmp_gt (tgt := 14) hx hb dX7_is_7 (by decide) (fun c9 => absurd c9 (by decide)) (fun _ => ?_)
  refine lv_iconst (v := 1) hx hb dX7_is_10 (by decide) ?_
  refine lv_goto (tgt := 15) hx hb dX7_is_11 (by decide) ?_
  exact rc_zret (v := 1) hx hb hr hlocks hw rfl [] (⟨rfl, rfl⟩) [] rfl (by decide) (Nat.le_of_ble_eq_true rfl) (Nat.le_of_ble_eq_true rfl) dX7_is_15
set_option maxHeartbeats 4000000 in
set_option maxRecDepth 100000 in
theorem cw_X7_changes_32 (l : Launch) (E : rc_E) (sz : Nat) (h0 : Nat) (h1 : Nat) (h2 : Nat) (h3 : Nat) (h4 : Nat) (h5 : Nat) : rc_Mi l yX7_changes [Cond.code yX7_changes cX7_changes 2 (some FieldType.int)] { frames := 1, cells := 0, slots := 0, locals := 22 } E [.ref h0, .int 31] [(h0, .inr (12, [.int 0, .ref h1, .ref h2, .ref h3, .ref h4, .ref h5, .int 1, .int 3, .int 50, .int (-1), .int (-1), .int (-1), .int (-1), .int 0, .int 100, .int 1000, .long 0]))] sz (S := va_W) (fun (r : Int32) (u : va_W) => (32 = r ∧ u = [(h0, .inr (12, [.int 0, .ref h1, .ref h2, .ref h3, .ref h4, .ref h5, .int 32, .int 3, .int 50, .int (-1), .int (-1), .int (-1), .int (-1), .int 0, .int 100, .int 1000, .long 0]))])) (fun u => u) 0 0 := by
  refine rc_ini (cc := cX7_changes) (maxL := 2) (ret := (some FieldType.int)) (by decide) rfl (Nat.le_of_ble_eq_true rfl) ?_
  intro p e s m args below meth c ls A hx hb hr hml _ hown hlocks hin hA hAm hw hl
  have hown : s.vm.findClass RX7 = some m.cls := hown
  have hl : lv_has ls 2 [(0, .ref h0), (1, .int 31)] := hl
  refine lv_aload_n hx hb dX7_changes_0 rfl (lv_at hl 0 rfl) ?_
  refine lv_iconst (v := 0) hx hb dX7_changes_1 (by decide) ?_
  refine rc_put hx hb hown hAm hw lyX7 tyX7 tyX7_ok nmX7 0 rfl rfl 0 (by decide) qw_860 (fun _ h9 => h9) rfl rfl (by decide +kernel) (Nat.le_of_ble_eq_true rfl) [(h0, .inr (12, [.int 0, .ref h1, .ref h2, .ref h3, .ref h4, .ref h5, .int 1, .int 3, .int 50, .int (-1), .int (-1), .int (-1), .int (-1), .int 0, .int 100, .int 1000, .long 0]))] rfl dX7_changes_2 (fun H locs hw => ?_)
  refine lv_iload_n hx hb dX7_changes_5 rfl (lv_at hl 1 rfl) ?_
  refine lv_iconst (v := 1) hx hb dX7_changes_6 (by decide) ?_
  refine lv_bipush (v := 39) hx hb dX7_changes_7 (by decide) ?_
  refine rc_calli (wr := [(h0, .inr (12, [.int 0, .ref h1, .ref h2, .ref h3, .ref h4, .ref h5, .int 1, .int 3, .int 50, .int (-1), .int (-1), .int (-1), .int (-1), .int 0, .int 100, .int 1000, .long 0]))]) (va_runS (As := [.int 31, .int 1, .int 39]) (rest := []) (Ts := []) ⟨hx, hb, hml, hown, fun _ h9 => absurd h9 List.not_mem_nil⟩ (cw_X7_is_45 l E _) (rc_cwS hAm qw_921 qw_13 qw_923 qw_922 rfl rfl hd_X7_is ⟨Nat.le_of_ble_eq_true rfl, Nat.le_of_ble_eq_true rfl⟩) (rc_preS hAm hA hw [] rfl rfl) rfl rfl hl.1 rfl (lv_room (Nat.le_of_ble_eq_true rfl)) dX7_changes_9 ⟨Nat.le_of_ble_eq_true rfl, Nat.le_of_ble_eq_true rfl⟩) hA hw [] [0] rfl rfl rfl (by decide) (fun r_1 u_2 H locs hp hw => ?_)
  obtain ⟨rfl, rfl⟩ := hp
  have hw : rc_W E A s [(h0, .inr (12, [.int 0, .ref h1, .ref h2, .ref h3, .ref h4, .ref h5, .int 1, .int 3, .int 50, .int (-1), .int (-1), .int (-1), .int (-1), .int 0, .int 100, .int 1000, .long 0]))] H locs := hw
  refine lv_if_ne (tgt := 21) hx hb dX7_changes_12 (by decide) (fun _ => ?_) (fun c9 => absurd c9 (by decide))
  refine lv_aload_n hx hb dX7_changes_21 rfl (lv_at hl 0 rfl) ?_
  refine rc_get (v := .int 1) hx hb hown hAm hw lyX7 0 rfl rfl 6 (by decide) qw_866 (fun _ h9 => h9) rfl dX7_changes_22 ?_
  refine lv_iload_n hx hb dX7_changes_25 rfl (lv_at hl 1 rfl) ?_
  refine lv_iadd hx hb dX7_changes_26 ?_
  refine rc_topi 32 (by decide) ?_
  refine lv_bipush (v := 40) hx hb dX7_changes_27 (by decide) ?_
  refine lv_icmp_le (tgt := 38) hx hb dX7_changes_29 (by decide) (fun _ => ?_) (fun c9 => absurd (by decide) c9)
  refine lv_aload_n hx hb dX7_changes_38 rfl (lv_at hl 0 rfl) ?_
  refine lv_dup hx hb dX7_changes_39 rfl ?_
  refine rc_get (v := .int 1) hx hb hown hAm hw lyX7 0 rfl rfl 6 (by decide) qw_866 (fun _ h9 => h9) rfl dX7_changes_40 ?_
  refine lv_iload_n hx hb dX7_changes_43 rfl (lv_at hl 1 rfl) ?_
  refine lv_iadd hx hb dX7_changes_44 ?_
  refine rc_topi 32 (by decide) ?_
  refine rc_put hx hb hown hAm hw lyX7 tyX7 tyX7_ok nmX7 0 rfl rfl 6 (by decide) qw_866 (fun _ h9 => h9) rfl rfl (by decide +kernel) (Nat.le_of_ble_eq_true rfl) [(h0, .inr (12, [.int 0, .ref h1, .ref h2, .ref h3, .ref h4, .ref h5, .int 32, .int 3, .int 50, .int (-1), .int (-1), .int (-1), .int (-1), .int 0, .int 100, .int 1000, .long 0]))] rfl dX7_changes_45 (fun H locs hw => ?_)
  refine lv_aload_n hx hb dX7_changes_48 rfl (lv_at hl 0 rfl) ?_
  refine rc_get (v := .int 32) hx hb hown hAm hw lyX7 0 rfl rfl 6 (by decide) qw_866 (fun _ h9 => h9) rfl dX7_changes_49 ?_
  exact rc_iret (v := 32) hx hb hr hlocks hw [(h0, .inr (12, [.int 0, .ref h1, .ref h2, .ref h3, .ref h4, .ref h5, .int 32, .int 3, .int 50, .int (-1), .int (-1), .int (-1), .int (-1), .int 0, .int 100, .int 1000, .long 0]))] (⟨rfl, rfl⟩) [0] rfl (by decide) (Nat.le_of_ble_eq_true rfl) (Nat.le_of_ble_eq_true rfl) dX7_changes_52
set_option maxHeartbeats 4000000 in
set_option maxRecDepth 100000 in
theorem cw_X7_thrown_34 (l : Launch) (E : rc_E) (sz : Nat) (h0 : Nat) (h1 : Nat) (h2 : Nat) (h3 : Nat) (h4 : Nat) (h5 : Nat) : rc_Mi l yX7_thrown [Cond.code yX7_thrown cX7_thrown 1 (some FieldType.int)] { frames := 0, cells := 0, slots := 0, locals := 0 } E [.ref h0] [(h0, .inr (12, [.int 0, .ref h1, .ref h2, .ref h3, .ref h4, .ref h5, .int 32, .int 3, .int 50, .int (-1), .int (-1), .int (-1), .int (-1), .int 0, .int 100, .int 1000, .long 0]))] sz (S := va_W) (fun (r : Int32) (u : va_W) => (0 = r ∧ u = [(h0, .inr (12, [.int 0, .ref h1, .ref h2, .ref h3, .ref h4, .ref h5, .int 32, .int 3, .int 50, .int (-1), .int (-1), .int (-1), .int (-1), .int 0, .int 100, .int 1000, .long 0]))])) (fun u => u) 0 0 := by
  refine rc_ini (cc := cX7_thrown) (maxL := 1) (ret := (some FieldType.int)) (by decide) rfl (Nat.le_of_ble_eq_true rfl) ?_
  intro p e s m args below meth c ls A hx hb hr hml _ hown hlocks hin hA hAm hw hl
  have hown : s.vm.findClass RX7 = some m.cls := hown
  have hl : lv_has ls 1 [(0, .ref h0)] := hl
  refine lv_aload_n hx hb dX7_thrown_0 rfl (lv_at hl 0 rfl) ?_
  refine rc_get (v := .int 0) hx hb hown hAm hw lyX7 0 rfl rfl 0 (by decide) qw_860 (fun _ h9 => h9) rfl dX7_thrown_1 ?_
  exact rc_iret (v := 0) hx hb hr hlocks hw [(h0, .inr (12, [.int 0, .ref h1, .ref h2, .ref h3, .ref h4, .ref h5, .int 32, .int 3, .int 50, .int (-1), .int (-1), .int (-1), .int (-1), .int 0, .int 100, .int 1000, .long 0]))] (⟨rfl, rfl⟩) [0] rfl (by decide) (Nat.le_of_ble_eq_true rfl) (Nat.le_of_ble_eq_true rfl) dX7_thrown_4
set_option maxHeartbeats 4000000 in
set_option maxRecDepth 100000 in
theorem cw_X7_is_46 (l : Launch) (E : rc_E) (sz : Nat) : rc_Mi l yX7_is [Cond.code yX7_is cX7_is 3 (some FieldType.boolean)] { frames := 0, cells := 0, slots := 0, locals := 0 } E [.int 32, .int 1, .int 39] [] sz (S := va_W) (fun (r : Int32) (u : va_W) => (1 = r ∧ u = [])) (fun u => u) 0 0 := by
  refine rc_ini (cc := cX7_is) (maxL := 3) (ret := (some FieldType.boolean)) (by decide) rfl (Nat.le_of_ble_eq_true rfl) ?_
  intro p e s m args below meth c ls A hx hb hr hml _ hown hlocks hin hA hAm hw hl
  have hown : s.vm.findClass RX7 = some m.cls := hown
  have hl : lv_has ls 3 [(0, .int 32), (1, .int 1), (2, .int 39)] := hl
  refine lv_iload_n hx hb dX7_is_0 rfl (lv_at hl 0 rfl) ?_
  refine lv_iload_n hx hb dX7_is_1 rfl (lv_at hl 1 rfl) ?_
  refine lv_icmp_lt (tgt := 14) hx hb dX7_is_2 (by decide) (fun c9 => absurd c9 (by decide)) (fun _ => ?_)
  refine lv_iload_n hx hb dX7_is_5 rfl (lv_at hl 0 rfl) ?_
  refine lv_iload_n hx hb dX7_is_6 rfl (lv_at hl 2 rfl) ?_
  refine lv_icmp_gt (tgt := 14) hx hb dX7_is_7 (by decide) (fun c9 => absurd c9 (by decide)) (fun _ => ?_)
  refine lv_iconst (v := 1) hx hb dX7_is_10 (by decide) ?_
  refine lv_goto (tgt := 15) hx hb dX7_is_11 (by decide) ?_
  exact rc_zret (v := 1) hx hb hr hlocks hw rfl [] (⟨rfl, rfl⟩) [] rfl (by decide) (Nat.le_of_ble_eq_true rfl) (Nat.le_of_ble_eq_true rfl) dX7_is_15
set_option maxHeartbeats 4000000 in
set_option maxRecDepth 100000 in
theorem cw_X7_changes_33 (l : Launch) (E : rc_E) (sz : Nat) (h0 : Nat) (h1 : Nat) (h2 : Nat) (h3 : Nat) (h4 : Nat) (h5 : Nat) : rc_Mi l yX7_changes [Cond.code yX7_changes cX7_changes 2 (some FieldType.int)] { frames := 1, cells := 0, slots := 0, locals := 22 } E [.ref h0, .int 32] [(h0, .inr (12, [.int 0, .ref h1, .ref h2, .ref h3, .ref h4, .ref h5, .int 1, .int 3, .int 50, .int (-1), .int (-1), .int (-1), .int (-1), .int 0, .int 100, .int 1000, .long 0]))] sz (S := va_W) (fun (r : Int32) (u : va_W) => (33 = r ∧ u = [(h0, .inr (12, [.int 0, .ref h1, .ref h2, .ref h3, .ref h4, .ref h5, .int 33, .int 3, .int 50, .int (-1), .int (-1), .int (-1), .int (-1), .int 0, .int 100, .int 1000, .long 0]))])) (fun u => u) 0 0 := by
  refine rc_ini (cc := cX7_changes) (maxL := 2) (ret := (some FieldType.int)) (by decide) rfl (Nat.le_of_ble_eq_true rfl) ?_
  intro p e s m args below meth c ls A hx hb hr hml _ hown hlocks hin hA hAm hw hl
  have hown : s.vm.findClass RX7 = some m.cls := hown
  have hl : lv_has ls 2 [(0, .ref h0), (1, .int 32)] := hl
  refine lv_aload_n hx hb dX7_changes_0 rfl (lv_at hl 0 rfl) ?_
  refine lv_iconst (v := 0) hx hb dX7_changes_1 (by decide) ?_
  refine rc_put hx hb hown hAm hw lyX7 tyX7 tyX7_ok nmX7 0 rfl rfl 0 (by decide) qw_860 (fun _ h9 => h9) rfl rfl (by decide +kernel) (Nat.le_of_ble_eq_true rfl) [(h0, .inr (12, [.int 0, .ref h1, .ref h2, .ref h3, .ref h4, .ref h5, .int 1, .int 3, .int 50, .int (-1), .int (-1), .int (-1), .int (-1), .int 0, .int 100, .int 1000, .long 0]))] rfl dX7_changes_2 (fun H locs hw => ?_)
  refine lv_iload_n hx hb dX7_changes_5 rfl (lv_at hl 1 rfl) ?_
  refine lv_iconst (v := 1) hx hb dX7_changes_6 (by decide) ?_
  refine lv_bipush (v := 39) hx hb dX7_changes_7 (by decide) ?_
  refine rc_calli (wr := [(h0, .inr (12, [.int 0, .ref h1, .ref h2, .ref h3, .ref h4, .ref h5, .int 1, .int 3, .int 50, .int (-1), .int (-1), .int (-1), .int (-1), .int 0, .int 100, .int 1000, .long 0]))]) (va_runS (As := [.int 32, .int 1, .int 39]) (rest := []) (Ts := []) ⟨hx, hb, hml, hown, fun _ h9 => absurd h9 List.not_mem_nil⟩ (cw_X7_is_46 l E _) (rc_cwS hAm qw_921 qw_13 qw_923 qw_922 rfl rfl hd_X7_is ⟨Nat.le_of_ble_eq_true rfl, Nat.le_of_ble_eq_true rfl⟩) (rc_preS hAm hA hw [] rfl rfl) rfl rfl hl.1 rfl (lv_room (Nat.le_of_ble_eq_true rfl)) dX7_changes_9 ⟨Nat.le_of_ble_eq_true rfl, Nat.le_of_ble_eq_true rfl⟩) hA hw [] [0] rfl rfl rfl (by decide) (fun r_1 u_2 H locs hp hw => ?_)
  obtain ⟨rfl, rfl⟩ := hp
  have hw : rc_W E A s [(h0, .inr (12, [.int 0, .ref h1, .ref h2, .ref h3, .ref h4, .ref h5, .int 1, .int 3, .int 50, .int (-1), .int (-1), .int (-1), .int (-1), .int 0, .int 100, .int 1000, .long 0]))] H locs := hw
  refine lv_if_ne (tgt := 21) hx hb dX7_changes_12 (by decide) (fun _ => ?_) (fun c9 => absurd c9 (by decide))
  refine lv_aload_n hx hb dX7_changes_21 rfl (lv_at hl 0 rfl) ?_
  refine rc_get (v := .int 1) hx hb hown hAm hw lyX7 0 rfl rfl 6 (by decide) qw_866 (fun _ h9 => h9) rfl dX7_changes_22 ?_
  refine lv_iload_n hx hb dX7_changes_25 rfl (lv_at hl 1 rfl) ?_
  refine lv_iadd hx hb dX7_changes_26 ?_
  refine rc_topi 33 (by decide) ?_
  refine lv_bipush (v := 40) hx hb dX7_changes_27 (by decide) ?_
  refine lv_icmp_le (tgt := 38) hx hb dX7_changes_29 (by decide) (fun _ => ?_) (fun c9 => absurd (by decide) c9)
  refine lv_aload_n hx hb dX7_changes_38 rfl (lv_at hl 0 rfl) ?_
  refine lv_dup hx hb dX7_changes_39 rfl ?_
  refine rc_get (v := .int 1) hx hb hown hAm hw lyX7 0 rfl rfl 6 (by decide) qw_866 (fun _ h9 => h9) rfl dX7_changes_40 ?_
  refine lv_iload_n hx hb dX7_changes_43 rfl (lv_at hl 1 rfl) ?_
  refine lv_iadd hx hb dX7_changes_44 ?_
  refine rc_topi 33 (by decide) ?_
  refine rc_put hx hb hown hAm hw lyX7 tyX7 tyX7_ok nmX7 0 rfl rfl 6 (by decide) qw_866 (fun _ h9 => h9) rfl rfl (by decide +kernel) (Nat.le_of_ble_eq_true rfl) [(h0, .inr (12, [.int 0, .ref h1, .ref h2, .ref h3, .ref h4, .ref h5, .int 33, .int 3, .int 50, .int (-1), .int (-1), .int (-1), .int (-1), .int 0, .int 100, .int 1000, .long 0]))] rfl dX7_changes_45 (fun H locs hw => ?_)
  refine lv_aload_n hx hb dX7_changes_48 rfl (lv_at hl 0 rfl) ?_
  refine rc_get (v := .int 33) hx hb hown hAm hw lyX7 0 rfl rfl 6 (by decide) qw_866 (fun _ h9 => h9) rfl dX7_changes_49 ?_
  exact rc_iret (v := 33) hx hb hr hlocks hw [(h0, .inr (12, [.int 0, .ref h1, .ref h2, .ref h3, .ref h4, .ref h5, .int 33, .int 3, .int 50, .int (-1), .int (-1), .int (-1), .int (-1), .int 0, .int 100, .int 1000, .long 0]))] (⟨rfl, rfl⟩) [0] rfl (by decide) (Nat.le_of_ble_eq_true rfl) (Nat.le_of_ble_eq_true rfl) dX7_changes_52
set_option maxHeartbeats 4000000 in
set_option maxRecDepth 100000 in
theorem cw_X7_thrown_35 (l : Launch) (E : rc_E) (sz : Nat) (h0 : Nat) (h1 : Nat) (h2 : Nat) (h3 : Nat) (h4 : Nat) (h5 : Nat) : rc_Mi l yX7_thrown [Cond.code yX7_thrown cX7_thrown 1 (some FieldType.int)] { frames := 0, cells := 0, slots := 0, locals := 0 } E [.ref h0] [(h0, .inr (12, [.int 0, .ref h1, .ref h2, .ref h3, .ref h4, .ref h5, .int 33, .int 3, .int 50, .int (-1), .int (-1), .int (-1), .int (-1), .int 0, .int 100, .int 1000, .long 0]))] sz (S := va_W) (fun (r : Int32) (u : va_W) => (0 = r ∧ u = [(h0, .inr (12, [.int 0, .ref h1, .ref h2, .ref h3, .ref h4, .ref h5, .int 33, .int 3, .int 50, .int (-1), .int (-1), .int (-1), .int (-1), .int 0, .int 100, .int 1000, .long 0]))])) (fun u => u) 0 0 := by
  refine rc_ini (cc := cX7_thrown) (maxL := 1) (ret := (some FieldType.int)) (by decide) rfl (Nat.le_of_ble_eq_true rfl) ?_
  intro p e s m args below meth c ls A hx hb hr hml _ hown hlocks hin hA hAm hw hl
  have hown : s.vm.findClass RX7 = some m.cls := hown
  have hl : lv_has ls 1 [(0, .ref h0)] := hl
  refine lv_aload_n hx hb dX7_thrown_0 rfl (lv_at hl 0 rfl) ?_
  refine rc_get (v := .int 0) hx hb hown hAm hw lyX7 0 rfl rfl 0 (by decide) qw_860 (fun _ h9 => h9) rfl dX7_thrown_1 ?_
  exact rc_iret (v := 0) hx hb hr hlocks hw [(h0, .inr (12, [.int 0, .ref h1, .ref h2, .ref h3, .ref h4, .ref h5, .int 33, .int 3, .int 50, .int (-1), .int (-1), .int (-1), .int (-1), .int 0, .int 100, .int 1000, .long 0]))] (⟨rfl, rfl⟩) [0] rfl (by decide) (Nat.le_of_ble_eq_true rfl) (Nat.le_of_ble_eq_true rfl) dX7_thrown_4
set_option maxHeartbeats 4000000 in
set_option maxRecDepth 100000 in
theorem cw_X7_is_47 (l : Launch) (E : rc_E) (sz : Nat) : rc_Mi l yX7_is [Cond.code yX7_is cX7_is 3 (some FieldType.boolean)] { frames := 0, cells := 0, slots := 0, locals := 0 } E [.int 33, .int 1, .int 39] [] sz (S := va_W) (fun (r : Int32) (u : va_W) => (1 = r ∧ u = [])) (fun u => u) 0 0 := by
  refine rc_ini (cc := cX7_is) (maxL := 3) (ret := (some FieldType.boolean)) (by decide) rfl (Nat.le_of_ble_eq_true rfl) ?_
  intro p e s m args below meth c ls A hx hb hr hml _ hown hlocks hin hA hAm hw hl
  have hown : s.vm.findClass RX7 = some m.cls := hown
  have hl : lv_has ls 3 [(0, .int 33), (1, .int 1), (2, .int 39)] := hl
  refine lv_iload_n hx hb dX7_is_0 rfl (lv_at hl 0 rfl) ?_
  refine lv_iload_n hx hb dX7_is_1 rfl (lv_at hl 1 rfl) ?_
  refine lv_icmp_lt (tgt := 14) hx hb dX7_is_2 (by decide) (fun c9 => absurd c9 (by decide)) (fun _ => ?_)
  refine lv_iload_n hx hb dX7_is_5 rfl (lv_at hl 0 rfl) ?_
  refine lv_iload_n hx hb dX7_is_6 rfl (lv_at hl 2 rfl) ?_
  refine lv_icmp_gt (tgt := 14) hx hb dX7_is_7 (by decide) (fun c9 => absurd c9 (by decide)) (fun _ => ?_)
  refine lv_iconst (v := 1) hx hb dX7_is_10 (by decide) ?_
  refine lv_goto (tgt := 15) hx hb dX7_is_11 (by decide) ?_
  exact rc_zret (v := 1) hx hb hr hlocks hw rfl [] (⟨rfl, rfl⟩) [] rfl (by decide) (Nat.le_of_ble_eq_true rfl) (Nat.le_of_ble_eq_true rfl) dX7_is_15
set_option maxHeartbeats 4000000 in
set_option maxRecDepth 100000 in
theorem cw_X7_changes_34 (l : Launch) (E : rc_E) (sz : Nat) (h0 : Nat) (h1 : Nat) (h2 : Nat) (h3 : Nat) (h4 : Nat) (h5 : Nat) : rc_Mi l yX7_changes [Cond.code yX7_changes cX7_changes 2 (some FieldType.int)] { frames := 1, cells := 0, slots := 0, locals := 22 } E [.ref h0, .int 33] [(h0, .inr (12, [.int 0, .ref h1, .ref h2, .ref h3, .ref h4, .ref h5, .int 1, .int 3, .int 50, .int (-1), .int (-1), .int (-1), .int (-1), .int 0, .int 100, .int 1000, .long 0]))] sz (S := va_W) (fun (r : Int32) (u : va_W) => (34 = r ∧ u = [(h0, .inr (12, [.int 0, .ref h1, .ref h2, .ref h3, .ref h4, .ref h5, .int 34, .int 3, .int 50, .int (-1), .int (-1), .int (-1), .int (-1), .int 0, .int 100, .int 1000, .long 0]))])) (fun u => u) 0 0 := by
  refine rc_ini (cc := cX7_changes) (maxL := 2) (ret := (some FieldType.int)) (by decide) rfl (Nat.le_of_ble_eq_true rfl) ?_
  intro p e s m args below meth c ls A hx hb hr hml _ hown hlocks hin hA hAm hw hl
  have hown : s.vm.findClass RX7 = some m.cls := hown
  have hl : lv_has ls 2 [(0, .ref h0), (1, .int 33)] := hl
  refine lv_aload_n hx hb dX7_changes_0 rfl (lv_at hl 0 rfl) ?_
  refine lv_iconst (v := 0) hx hb dX7_changes_1 (by decide) ?_
  refine rc_put hx hb hown hAm hw lyX7 tyX7 tyX7_ok nmX7 0 rfl rfl 0 (by decide) qw_860 (fun _ h9 => h9) rfl rfl (by decide +kernel) (Nat.le_of_ble_eq_true rfl) [(h0, .inr (12, [.int 0, .ref h1, .ref h2, .ref h3, .ref h4, .ref h5, .int 1, .int 3, .int 50, .int (-1), .int (-1), .int (-1), .int (-1), .int 0, .int 100, .int 1000, .long 0]))] rfl dX7_changes_2 (fun H locs hw => ?_)
  refine lv_iload_n hx hb dX7_changes_5 rfl (lv_at hl 1 rfl) ?_
  refine lv_iconst (v := 1) hx hb dX7_changes_6 (by decide) ?_
  refine lv_bipush (v := 39) hx hb dX7_changes_7 (by decide) ?_
  refine rc_calli (wr := [(h0, .inr (12, [.int 0, .ref h1, .ref h2, .ref h3, .ref h4, .ref h5, .int 1, .int 3, .int 50, .int (-1), .int (-1), .int (-1), .int (-1), .int 0, .int 100, .int 1000, .long 0]))]) (va_runS (As := [.int 33, .int 1, .int 39]) (rest := []) (Ts := []) ⟨hx, hb, hml, hown, fun _ h9 => absurd h9 List.not_mem_nil⟩ (cw_X7_is_47 l E _) (rc_cwS hAm qw_921 qw_13 qw_923 qw_922 rfl rfl hd_X7_is ⟨Nat.le_of_ble_eq_true rfl, Nat.le_of_ble_eq_true rfl⟩) (rc_preS hAm hA hw [] rfl rfl) rfl rfl hl.1 rfl (lv_room (Nat.le_of_ble_eq_true rfl)) dX7_changes_9 ⟨Nat.le_of_ble_eq_true rfl, Nat.le_of_ble_eq_true rfl⟩) hA hw [] [0] rfl rfl rfl (by decide) (fun r_1 u_2 H locs hp hw => ?_)
  obtain ⟨rfl, rfl⟩ := hp
  have hw : rc_W E A s [(h0, .inr (12, [.int 0, .ref h1, .ref h2, .ref h3, .ref h4, .ref h5, .int 1, .int 3, .int 50, .int (-1), .int (-1), .int (-1), .int (-1), .int 0, .int 100, .int 1000, .long 0]))] H locs := hw
  refine lv_if_ne (tgt := 21) hx hb dX7_changes_12 (by decide) (fun _ => ?_) (fun c9 => absurd c9 (by decide))
  refine lv_aload_n hx hb dX7_changes_21 rfl (lv_at hl 0 rfl) ?_
  refine rc_get (v := .int 1) hx hb hown hAm hw lyX7 0 rfl rfl 6 (by decide) qw_866 (fun _ h9 => h9) rfl dX7_changes_22 ?_
  refine lv_iload_n hx hb dX7_changes_25 rfl (lv_at hl 1 rfl) ?_
  refine lv_iadd hx hb dX7_changes_26 ?_
  refine rc_topi 34 (by decide) ?_
  refine lv_bipush (v := 40) hx hb dX7_changes_27 (by decide) ?_
  refine lv_icmp_le (tgt := 38) hx hb dX7_changes_29 (by decide) (fun _ => ?_) (fun c9 => absurd (by decide) c9)
  refine lv_aload_n hx hb dX7_changes_38 rfl (lv_at hl 0 rfl) ?_
  refine lv_dup hx hb dX7_changes_39 rfl ?_
  refine rc_get (v := .int 1) hx hb hown hAm hw lyX7 0 rfl rfl 6 (by decide) qw_866 (fun _ h9 => h9) rfl dX7_changes_40 ?_
  refine lv_iload_n hx hb dX7_changes_43 rfl (lv_at hl 1 rfl) ?_
  refine lv_iadd hx hb dX7_changes_44 ?_
  refine rc_topi 34 (by decide) ?_
  refine rc_put hx hb hown hAm hw lyX7 tyX7 tyX7_ok nmX7 0 rfl rfl 6 (by decide) qw_866 (fun _ h9 => h9) rfl rfl (by decide +kernel) (Nat.le_of_ble_eq_true rfl) [(h0, .inr (12, [.int 0, .ref h1, .ref h2, .ref h3, .ref h4, .ref h5, .int 34, .int 3, .int 50, .int (-1), .int (-1), .int (-1), .int (-1), .int 0, .int 100, .int 1000, .long 0]))] rfl dX7_changes_45 (fun H locs hw => ?_)
  refine lv_aload_n hx hb dX7_changes_48 rfl (lv_at hl 0 rfl) ?_
  refine rc_get (v := .int 34) hx hb hown hAm hw lyX7 0 rfl rfl 6 (by decide) qw_866 (fun _ h9 => h9) rfl dX7_changes_49 ?_
  exact rc_iret (v := 34) hx hb hr hlocks hw [(h0, .inr (12, [.int 0, .ref h1, .ref h2, .ref h3, .ref h4, .ref h5, .int 34, .int 3, .int 50, .int (-1), .int (-1), .int (-1), .int (-1), .int 0, .int 100, .int 1000, .long 0]))] (⟨rfl, rfl⟩) [0] rfl (by decide) (Nat.le_of_ble_eq_true rfl) (Nat.le_of_ble_eq_true rfl) dX7_changes_52
set_option maxHeartbeats 4000000 in
set_option maxRecDepth 100000 in
theorem cw_X7_thrown_36 (l : Launch) (E : rc_E) (sz : Nat) (h0 : Nat) (h1 : Nat) (h2 : Nat) (h3 : Nat) (h4 : Nat) (h5 : Nat) : rc_Mi l yX7_thrown [Cond.code yX7_thrown cX7_thrown 1 (some FieldType.int)] { frames := 0, cells := 0, slots := 0, locals := 0 } E [.ref h0] [(h0, .inr (12, [.int 0, .ref h1, .ref h2, .ref h3, .ref h4, .ref h5, .int 34, .int 3, .int 50, .int (-1), .int (-1), .int (-1), .int (-1), .int 0, .int 100, .int 1000, .long 0]))] sz (S := va_W) (fun (r : Int32) (u : va_W) => (0 = r ∧ u = [(h0, .inr (12, [.int 0, .ref h1, .ref h2, .ref h3, .ref h4, .ref h5, .int 34, .int 3, .int 50, .int (-1), .int (-1), .int (-1), .int (-1), .int 0, .int 100, .int 1000, .long 0]))])) (fun u => u) 0 0 := by
  refine rc_ini (cc := cX7_thrown) (maxL := 1) (ret := (some FieldType.int)) (by decide) rfl (Nat.le_of_ble_eq_true rfl) ?_
  intro p e s m args below meth c ls A hx hb hr hml _ hown hlocks hin hA hAm hw hl
  have hown : s.vm.findClass RX7 = some m.cls := hown
  have hl : lv_has ls 1 [(0, .ref h0)] := hl
  refine lv_aload_n hx hb dX7_thrown_0 rfl (lv_at hl 0 rfl) ?_
  refine rc_get (v := .int 0) hx hb hown hAm hw lyX7 0 rfl rfl 0 (by decide) qw_860 (fun _ h9 => h9) rfl dX7_thrown_1 ?_
  exact rc_iret (v := 0) hx hb hr hlocks hw [(h0, .inr (12, [.int 0, .ref h1, .ref h2, .ref h3, .ref h4, .ref h5, .int 34, .int 3, .int 50, .int (-1), .int (-1), .int (-1), .int (-1), .int 0, .int 100, .int 1000, .long 0]))] (⟨rfl, rfl⟩) [0] rfl (by decide) (Nat.le_of_ble_eq_true rfl) (Nat.le_of_ble_eq_true rfl) dX7_thrown_4
set_option maxHeartbeats 4000000 in
set_option maxRecDepth 100000 in
theorem cw_X7_is_48 (l : Launch) (E : rc_E) (sz : Nat) : rc_Mi l yX7_is [Cond.code yX7_is cX7_is 3 (some FieldType.boolean)] { frames := 0, cells := 0, slots := 0, locals := 0 } E [.int 34, .int 1, .int 39] [] sz (S := va_W) (fun (r : Int32) (u : va_W) => (1 = r ∧ u = [])) (fun u => u) 0 0 := by
  refine rc_ini (cc := cX7_is) (maxL := 3) (ret := (some FieldType.boolean)) (by decide) rfl (Nat.le_of_ble_eq_true rfl) ?_
  intro p e s m args below meth c ls A hx hb hr hml _ hown hlocks hin hA hAm hw hl
  have hown : s.vm.findClass RX7 = some m.cls := hown
  have hl : lv_has ls 3 [(0, .int 34), (1, .int 1), (2, .int 39)] := hl
  refine lv_iload_n hx hb dX7_is_0 rfl (lv_at hl 0 rfl) ?_
  refine lv_iload_n hx hb dX7_is_1 rfl (lv_at hl 1 rfl) ?_
  refine lv_icmp_lt (tgt := 14) hx hb dX7_is_2 (by decide) (fun c9 => absurd c9 (by decide)) (fun _ => ?_)
  refine lv_iload_n hx hb dX7_is_5 rfl (lv_at hl 0 rfl) ?_
  refine lv_iload_n hx hb dX7_is_6 rfl (lv_at hl 2 rfl) ?_
  refine lv_icmp_gt (tgt := 14) hx hb dX7_is_7 (by decide) (fun c9 => absurd c9 (by decide)) (fun _ => ?_)
  refine lv_iconst (v := 1) hx hb dX7_is_10 (by decide) ?_
  refine lv_goto (tgt := 15) hx hb dX7_is_11 (by decide) ?_
  exact rc_zret (v := 1) hx hb hr hlocks hw rfl [] (⟨rfl, rfl⟩) [] rfl (by decide) (Nat.le_of_ble_eq_true rfl) (Nat.le_of_ble_eq_true rfl) dX7_is_15
set_option maxHeartbeats 4000000 in
set_option maxRecDepth 100000 in
theorem cw_X7_changes_35 (l : Launch) (E : rc_E) (sz : Nat) (h0 : Nat) (h1 : Nat) (h2 : Nat) (h3 : Nat) (h4 : Nat) (h5 : Nat) : rc_Mi l yX7_changes [Cond.code yX7_changes cX7_changes 2 (some FieldType.int)] { frames := 1, cells := 0, slots := 0, locals := 22 } E [.ref h0, .int 34] [(h0, .inr (12, [.int 0, .ref h1, .ref h2, .ref h3, .ref h4, .ref h5, .int 1, .int 3, .int 50, .int (-1), .int (-1), .int (-1), .int (-1), .int 0, .int 100, .int 1000, .long 0]))] sz (S := va_W) (fun (r : Int32) (u : va_W) => (35 = r ∧ u = [(h0, .inr (12, [.int 0, .ref h1, .ref h2, .ref h3, .ref h4, .ref h5, .int 35, .int 3, .int 50, .int (-1), .int (-1), .int (-1), .int (-1), .int 0, .int 100, .int 1000, .long 0]))])) (fun u => u) 0 0 := by
  refine rc_ini (cc := cX7_changes) (maxL := 2) (ret := (some FieldType.int)) (by decide) rfl (Nat.le_of_ble_eq_true rfl) ?_
  intro p e s m args below meth c ls A hx hb hr hml _ hown hlocks hin hA hAm hw hl
  have hown : s.vm.findClass RX7 = some m.cls := hown
  have hl : lv_has ls 2 [(0, .ref h0), (1, .int 34)] := hl
  refine lv_aload_n hx hb dX7_changes_0 rfl (lv_at hl 0 rfl) ?_
  refine lv_iconst (v := 0) hx hb dX7_changes_1 (by decide) ?_
  refine rc_put hx hb hown hAm hw lyX7 tyX7 tyX7_ok nmX7 0 rfl rfl 0 (by decide) qw_860 (fun _ h9 => h9) rfl rfl (by decide +kernel) (Nat.le_of_ble_eq_true rfl) [(h0, .inr (12, [.int 0, .ref h1, .ref h2, .ref h3, .ref h4, .ref h5, .int 1, .int 3, .int 50, .int (-1), .int (-1), .int (-1), .int (-1), .int 0, .int 100, .int 1000, .long 0]))] rfl dX7_changes_2 (fun H locs hw => ?_)
  refine lv_iload_n hx hb dX7_changes_5 rfl (lv_at hl 1 rfl) ?_
  refine lv_iconst (v := 1) hx hb dX7_changes_6 (by decide) ?_
  refine lv_bipush (v := 39) hx hb dX7_changes_7 (by decide) ?_
  refine rc_calli (wr := [(h0, .inr (12, [.int 0, .ref h1, .ref h2, .ref h3, .ref h4, .ref h5, .int 1, .int 3, .int 50, .int (-1), .int (-1), .int (-1), .int (-1), .int 0, .int 100, .int 1000, .long 0]))]) (va_runS (As := [.int 34, .int 1, .int 39]) (rest := []) (Ts := []) ⟨hx, hb, hml, hown, fun _ h9 => absurd h9 List.not_mem_nil⟩ (cw_X7_is_48 l E _) (rc_cwS hAm qw_921 qw_13 qw_923 qw_922 rfl rfl hd_X7_is ⟨Nat.le_of_ble_eq_true rfl, Nat.le_of_ble_eq_true rfl⟩) (rc_preS hAm hA hw [] rfl rfl) rfl rfl hl.1 rfl (lv_room (Nat.le_of_ble_eq_true rfl)) dX7_changes_9 ⟨Nat.le_of_ble_eq_true rfl, Nat.le_of_ble_eq_true rfl⟩) hA hw [] [0] rfl rfl rfl (by decide) (fun r_1 u_2 H locs hp hw => ?_)
  obtain ⟨rfl, rfl⟩ := hp
  have hw : rc_W E A s [(h0, .inr (12, [.int 0, .ref h1, .ref h2, .ref h3, .ref h4, .ref h5, .int 1, .int 3, .int 50, .int (-1), .int (-1), .int (-1), .int (-1), .int 0, .int 100, .int 1000, .long 0]))] H locs := hw
  refine lv_if_ne (tgt := 21) hx hb dX7_changes_12 (by decide) (fun _ => ?_) (fun c9 => absurd c9 (by decide))
  refine lv_aload_n hx hb dX7_changes_21 rfl (lv_at hl 0 rfl) ?_
  refine rc_get (v := .int 1) hx hb hown hAm hw lyX7 0 rfl rfl 6 (by decide) qw_866 (fun _ h9 => h9) rfl dX7_changes_22 ?_
  refine lv_iload_n hx hb dX7_changes_25 rfl (lv_at hl 1 rfl) ?_
  refine lv_iadd hx hb dX7_changes_26 ?_
  refine rc_topi 35 (by decide) ?_
  refine lv_bipush (v := 40) hx hb dX7_changes_27 (by decide) ?_
  refine lv_icmp_le (tgt := 38) hx hb dX7_changes_29 (by decide) (fun _ => ?_) (fun c9 => absurd (by decide) c9)
  refine lv_aload_n hx hb dX7_changes_38 rfl (lv_at hl 0 rfl) ?_
  refine lv_dup hx hb dX7_changes_39 rfl ?_
  refine rc_get (v := .int 1) hx hb hown hAm hw lyX7 0 rfl rfl 6 (by decide) qw_866 (fun _ h9 => h9) rfl dX7_changes_40 ?_
  refine lv_iload_n hx hb dX7_changes_43 rfl (lv_at hl 1 rfl) ?_
  refine lv_iadd hx hb dX7_changes_44 ?_
  refine rc_topi 35 (by decide) ?_
  refine rc_put hx hb hown hAm hw lyX7 tyX7 tyX7_ok nmX7 0 rfl rfl 6 (by decide) qw_866 (fun _ h9 => h9) rfl rfl (by decide +kernel) (Nat.le_of_ble_eq_true rfl) [(h0, .inr (12, [.int 0, .ref h1, .ref h2, .ref h3, .ref h4, .ref h5, .int 35, .int 3, .int 50, .int (-1), .int (-1), .int (-1), .int (-1), .int 0, .int 100, .int 1000, .long 0]))] rfl dX7_changes_45 (fun H locs hw => ?_)
  refine lv_aload_n hx hb dX7_changes_48 rfl (lv_at hl 0 rfl) ?_
  refine rc_get (v := .int 35) hx hb hown hAm hw lyX7 0 rfl rfl 6 (by decide) qw_866 (fun _ h9 => h9) rfl dX7_changes_49 ?_
  exact rc_iret (v := 35) hx hb hr hlocks hw [(h0, .inr (12, [.int 0, .ref h1, .ref h2, .ref h3, .ref h4, .ref h5, .int 35, .int 3, .int 50, .int (-1), .int (-1), .int (-1), .int (-1), .int 0, .int 100, .int 1000, .long 0]))] (⟨rfl, rfl⟩) [0] rfl (by decide) (Nat.le_of_ble_eq_true rfl) (Nat.le_of_ble_eq_true rfl) dX7_changes_52
set_option maxHeartbeats 4000000 in
set_option maxRecDepth 100000 in
theorem cw_X7_thrown_37 (l : Launch) (E : rc_E) (sz : Nat) (h0 : Nat) (h1 : Nat) (h2 : Nat) (h3 : Nat) (h4 : Nat) (h5 : Nat) : rc_Mi l yX7_thrown [Cond.code yX7_thrown cX7_thrown 1 (some FieldType.int)] { frames := 0, cells := 0, slots := 0, locals := 0 } E [.ref h0] [(h0, .inr (12, [.int 0, .ref h1, .ref h2, .ref h3, .ref h4, .ref h5, .int 35, .int 3, .int 50, .int (-1), .int (-1), .int (-1), .int (-1), .int 0, .int 100, .int 1000, .long 0]))] sz (S := va_W) (fun (r : Int32) (u : va_W) => (0 = r ∧ u = [(h0, .inr (12, [.int 0, .ref h1, .ref h2, .ref h3, .ref h4, .ref h5, .int 35, .int 3, .int 50, .int (-1), .int (-1), .int (-1), .int (-1), .int 0, .int 100, .int 1000, .long 0]))])) (fun u => u) 0 0 := by
  refine rc_ini (cc := cX7_thrown) (maxL := 1) (ret := (some FieldType.int)) (by decide) rfl (Nat.le_of_ble_eq_true rfl) ?_
  intro p e s m args below meth c ls A hx hb hr hml _ hown hlocks hin hA hAm hw hl
  have hown : s.vm.findClass RX7 = some m.cls := hown
  have hl : lv_has ls 1 [(0, .ref h0)] := hl
  refine lv_aload_n hx hb dX7_thrown_0 rfl (lv_at hl 0 rfl) ?_
  refine rc_get (v := .int 0) hx hb hown hAm hw lyX7 0 rfl rfl 0 (by decide) qw_860 (fun _ h9 => h9) rfl dX7_thrown_1 ?_
  exact rc_iret (v := 0) hx hb hr hlocks hw [(h0, .inr (12, [.int 0, .ref h1, .ref h2, .ref h3, .ref h4, .ref h5, .int 35, .int 3, .int 50, .int (-1), .int (-1), .int (-1), .int (-1), .int 0, .int 100, .int 1000, .long 0]))] (⟨rfl, rfl⟩) [0] rfl (by decide) (Nat.le_of_ble_eq_true rfl) (Nat.le_of_ble_eq_true rfl) dX7_thrown_4
set_option maxHeartbeats 4000000 in
set_option maxRecDepth 100000 in
theorem cw_X7_is_49 (l : Launch) (E : rc_E) (sz : Nat) : rc_Mi l yX7_is [Cond.code yX7_is cX7_is 3 (some FieldType.boolean)] { frames := 0, cells := 0, slots := 0, locals := 0 } E [.int 35, .int 1, .int 39] [] sz (S := va_W) (fun (r : Int32) (u : va_W) => (1 = r ∧ u = [])) (fun u => u) 0 0 := by
  refine rc_ini (cc := cX7_is) (maxL := 3) (ret := (some FieldType.boolean)) (by decide) rfl (Nat.le_of_ble_eq_true rfl) ?_
  intro p e s m args below meth c ls A hx hb hr hml _ hown hlocks hin hA hAm hw hl
  have hown : s.vm.findClass RX7 = some m.cls := hown
  have hl : lv_has ls 3 [(0, .int 35), (1, .int 1), (2, .int 39)] := hl
  refine lv_iload_n hx hb dX7_is_0 rfl (lv_at hl 0 rfl) ?_
  refine lv_iload_n hx hb dX7_is_1 rfl (lv_at hl 1 rfl) ?_
  refine lv_icmp_lt (tgt := 14) hx hb dX7_is_2 (by decide) (fun c9 => absurd c9 (by decide)) (fun _ => ?_)
  refine lv_iload_n hx hb dX7_is_5 rfl (lv_at hl 0 rfl) ?_
  refine lv_iload_n hx hb dX7_is_6 rfl (lv_at hl 2 rfl) ?_
  refine lv_icmp_gt (tgt := 14) hx hb dX7_is_7 (by decide) (fun c9 => absurd c9 (by decide)) (fun _ => ?_)
  refine lv_iconst (v := 1) hx hb dX7_is_10 (by decide) ?_
  refine lv_goto (tgt := 15) hx hb dX7_is_11 (by decide) ?_
  exact rc_zret (v := 1) hx hb hr hlocks hw rfl [] (⟨rfl, rfl⟩) [] rfl (by decide) (Nat.le_of_ble_eq_true rfl) (Nat.le_of_ble_eq_true rfl) dX7_is_15
set_option maxHeartbeats 4000000 in
set_option maxRecDepth 100000 in
theorem cw_X7_changes_36 (l : Launch) (E : rc_E) (sz : Nat) (h0 : Nat) (h1 : Nat) (h2 : Nat) (h3 : Nat) (h4 : Nat) (h5 : Nat) : rc_Mi l yX7_changes [Cond.code yX7_changes cX7_changes 2 (some FieldType.int)] { frames := 1, cells := 0, slots := 0, locals := 22 } E [.ref h0, .int 35] [(h0, .inr (12, [.int 0, .ref h1, .ref h2, .ref h3, .ref h4, .ref h5, .int 1, .int 3, .int 50, .int (-1), .int (-1), .int (-1), .int (-1), .int 0, .int 100, .int 1000, .long 0]))] sz (S := va_W) (fun (r : Int32) (u : va_W) => (36 = r ∧ u = [(h0, .inr (12, [.int 0, .ref h1, .ref h2, .ref h3, .ref h4, .ref h5, .int 36, .int 3, .int 50, .int (-1), .int (-1), .int (-1), .int (-1), .int 0, .int 100, .int 1000, .long 0]))])) (fun u => u) 0 0 := by
  refine rc_ini (cc := cX7_changes) (maxL := 2) (ret := (some FieldType.int)) (by decide) rfl (Nat.le_of_ble_eq_true rfl) ?_
  intro p e s m args below meth c ls A hx hb hr hml _ hown hlocks hin hA hAm hw hl
  have hown : s.vm.findClass RX7 = some m.cls := hown
  have hl : lv_has ls 2 [(0, .ref h0), (1, .int 35)] := hl
  refine lv_aload_n hx hb dX7_changes_0 rfl (lv_at hl 0 rfl) ?_
  refine lv_iconst (v := 0) hx hb dX7_changes_1 (by decide) ?_
  refine rc_put hx hb hown hAm hw lyX7 tyX7 tyX7_ok nmX7 0 rfl rfl 0 (by decide) qw_860 (fun _ h9 => h9) rfl rfl (by decide +kernel) (Nat.le_of_ble_eq_true rfl) [(h0, .inr (12, [.int 0, .ref h1, .ref h2, .ref h3, .ref h4, .ref h5, .int 1, .int 3, .int 50, .int (-1), .int (-1), .int (-1), .int (-1), .int 0, .int 100, .int 1000, .long 0]))] rfl dX7_changes_2 (fun H locs hw => ?_)
  refine lv_iload_n hx hb dX7_changes_5 rfl (lv_at hl 1 rfl) ?_
  refine lv_iconst (v := 1) hx hb dX7_changes_6 (by decide) ?_
  refine lv_bipush (v := 39) hx hb dX7_changes_7 (by decide) ?_
  refine rc_calli (wr := [(h0, .inr (12, [.int 0, .ref h1, .ref h2, .ref h3, .ref h4, .ref h5, .int 1, .int 3, .int 50, .int (-1), .int (-1), .int (-1), .int (-1), .int 0, .int 100, .int 1000, .long 0]))]) (va_runS (As := [.int 35, .int 1, .int 39]) (rest := []) (Ts := []) ⟨hx, hb, hml, hown, fun _ h9 => absurd h9 List.not_mem_nil⟩ (cw_X7_is_49 l E _) (rc_cwS hAm qw_921 qw_13 qw_923 qw_922 rfl rfl hd_X7_is ⟨Nat.le_of_ble_eq_true rfl, Nat.le_of_ble_eq_true rfl⟩) (rc_preS hAm hA hw [] rfl rfl) rfl rfl hl.1 rfl (lv_room (Nat.le_of_ble_eq_true rfl)) dX7_changes_9 ⟨Nat.le_of_ble_eq_true rfl, Nat.le_of_ble_eq_true rfl⟩) hA hw [] [0] rfl rfl rfl (by decide) (fun r_1 u_2 H locs hp hw => ?_)
  obtain ⟨rfl, rfl⟩ := hp
  have hw : rc_W E A s [(h0, .inr (12, [.int 0, .ref h1, .ref h2, .ref h3, .ref h4, .ref h5, .int 1, .int 3, .int 50, .int (-1), .int (-1), .int (-1), .int (-1), .int 0, .int 100, .int 1000, .long 0]))] H locs := hw
  refine lv_if_ne (tgt := 21) hx hb dX7_changes_12 (by decide) (fun _ => ?_) (fun c9 => absurd c9 (by decide))
  refine lv_aload_n hx hb dX7_changes_21 rfl (lv_at hl 0 rfl) ?_
  refine rc_get (v := .int 1) hx hb hown hAm hw lyX7 0 rfl rfl 6 (by decide) qw_866 (fun _ h9 => h9) rfl dX7_changes_22 ?_
  refine lv_iload_n hx hb dX7_changes_25 rfl (lv_at hl 1 rfl) ?_
  refine lv_iadd hx hb dX7_changes_26 ?_
  refine rc_topi 36 (by decide) ?_
  refine lv_bipush (v := 40) hx hb dX7_changes_27 (by decide) ?_
  refine lv_icmp_le (tgt := 38) hx hb dX7_changes_29 (by decide) (fun _ => ?_) (fun c9 => absurd (by decide) c9)
  refine lv_aload_n hx hb dX7_changes_38 rfl (lv_at hl 0 rfl) ?_
  refine lv_dup hx hb dX7_changes_39 rfl ?_
  refine rc_get (v := .int 1) hx hb hown hAm hw lyX7 0 rfl rfl 6 (by decide) qw_866 (fun _ h9 => h9) rfl dX7_changes_40 ?_
  refine lv_iload_n hx hb dX7_changes_43 rfl (lv_at hl 1 rfl) ?_
  refine lv_iadd hx hb dX7_changes_44 ?_
  refine rc_topi 36 (by decide) ?_
  refine rc_put hx hb hown hAm hw lyX7 tyX7 tyX7_ok nmX7 0 rfl rfl 6 (by decide) qw_866 (fun _ h9 => h9) rfl rfl (by decide +kernel) (Nat.le_of_ble_eq_true rfl) [(h0, .inr (12, [.int 0, .ref h1, .ref h2, .ref h3, .ref h4, .ref h5, .int 36, .int 3, .int 50, .int (-1), .int (-1), .int (-1), .int (-1), .int 0, .int 100, .int 1000, .long 0]))] rfl dX7_changes_45 (fun H locs hw => ?_)
  refine lv_aload_n hx hb dX7_changes_48 rfl (lv_at hl 0 rfl) ?_
  refine rc_get (v := .int 36) hx hb hown hAm hw lyX7 0 rfl rfl 6 (by decide) qw_866 (fun _ h9 => h9) rfl dX7_changes_49 ?_
  exact rc_iret (v := 36) hx hb hr hlocks hw [(h0, .inr (12, [.int 0, .ref h1, .ref h2, .ref h3, .ref h4, .ref h5, .int 36, .int 3, .int 50, .int (-1), .int (-1), .int (-1), .int (-1), .int 0, .int 100, .int 1000, .long 0]))] (⟨rfl, rfl⟩) [0] rfl (by decide) (Nat.le_of_ble_eq_true rfl) (Nat.le_of_ble_eq_true rfl) dX7_changes_52
set_option maxHeartbeats 4000000 in
set_option maxRecDepth 100000 in
theorem cw_X7_thrown_38 (l : Launch) (E : rc_E) (sz : Nat) (h0 : Nat) (h1 : Nat) (h2 : Nat) (h3 : Nat) (h4 : Nat) (h5 : Nat) : rc_Mi l yX7_thrown [Cond.code yX7_thrown cX7_thrown 1 (some FieldType.int)] { frames := 0, cells := 0, slots := 0, locals := 0 } E [.ref h0] [(h0, .inr (12, [.int 0, .ref h1, .ref h2, .ref h3, .ref h4, .ref h5, .int 36, .int 3, .int 50, .int (-1), .int (-1), .int (-1), .int (-1), .int 0, .int 100, .int 1000, .long 0]))] sz (S := va_W) (fun (r : Int32) (u : va_W) => (0 = r ∧ u = [(h0, .inr (12, [.int 0, .ref h1, .ref h2, .ref h3, .ref h4, .ref h5, .int 36, .int 3, .int 50, .int (-1), .int (-1), .int (-1), .int (-1), .int 0, .int 100, .int 1000, .long 0]))])) (fun u => u) 0 0 := by
  refine rc_ini (cc := cX7_thrown) (maxL := 1) (ret := (some FieldType.int)) (by decide) rfl (Nat.le_of_ble_eq_true rfl) ?_
  intro p e s m args below meth c ls A hx hb hr hml _ hown hlocks hin hA hAm hw hl
  have hown : s.vm.findClass RX7 = some m.cls := hown
  have hl : lv_has ls 1 [(0, .ref h0)] := hl
  refine lv_aload_n hx hb dX7_thrown_0 rfl (lv_at hl 0 rfl) ?_
  refine rc_get (v := .int 0) hx hb hown hAm hw lyX7 0 rfl rfl 0 (by decide) qw_860 (fun _ h9 => h9) rfl dX7_thrown_1 ?_
  exact rc_iret (v := 0) hx hb hr hlocks hw [(h0, .inr (12, [.int 0, .ref h1, .ref h2, .ref h3, .ref h4, .ref h5, .int 36, .int 3, .int 50, .int (-1), .int (-1), .int (-1), .int (-1), .int 0, .int 100, .int 1000, .long 0]))] (⟨rfl, rfl⟩) [0] rfl (by decide) (Nat.le_of_ble_eq_true rfl) (Nat.le_of_ble_eq_true rfl) dX7_thrown_4
set_option maxHeartbeats 4000000 in
set_option maxRecDepth 100000 in
theorem cw_X7_is_50 (l : Launch) (E : rc_E) (sz : Nat) : rc_Mi l yX7_is [Cond.code yX7_is cX7_is 3 (some FieldType.boolean)] { frames := 0, cells := 0, slots := 0, locals := 0 } E [.int 36, .int 1, .int 39] [] sz (S := va_W) (fun (r : Int32) (u : va_W) => (1 = r ∧ u = [])) (fun u => u) 0 0 := by
  refine rc_ini (cc := cX7_is) (maxL := 3) (ret := (some FieldType.boolean)) (by decide) rfl (Nat.le_of_ble_eq_true rfl) ?_
  intro p e s m args below meth c ls A hx hb hr hml _ hown hlocks hin hA hAm hw hl
  have hown : s.vm.findClass RX7 = some m.cls := hown
  have hl : lv_has ls 3 [(0, .int 36), (1, .int 1), (2, .int 39)] := hl
  refine lv_iload_n hx hb dX7_is_0 rfl (lv_at hl 0 rfl) ?_
  refine lv_iload_n hx hb dX7_is_1 rfl (lv_at hl 1 rfl) ?_
  refine lv_icmp_lt (tgt := 14) hx hb dX7_is_2 (by decide) (fun c9 => absurd c9 (by decide)) (fun _ => ?_)
  refine lv_iload_n hx hb dX7_is_5 rfl (lv_at hl 0 rfl) ?_
  refine lv_iload_n hx hb dX7_is_6 rfl (lv_at hl 2 rfl) ?_
  refine lv_icmp_gt (tgt := 14) hx hb dX7_is_7 (by decide) (fun c9 => absurd c9 (by decide)) (fun _ => ?_)
  refine lv_iconst (v := 1) hx hb dX7_is_10 (by decide) ?_
  refine lv_goto (tgt := 15) hx hb dX7_is_11 (by decide) ?_
  exact rc_zret (v := 1) hx hb hr hlocks hw rfl [] (⟨rfl, rfl⟩) [] rfl (by decide) (Nat.le_of_ble_eq_true rfl) (Nat.le_of_ble_eq_true rfl) dX7_is_15
set_option maxHeartbeats 4000000 in
set_option maxRecDepth 100000 in
theorem cw_X7_changes_37 (l : Launch) (E : rc_E) (sz : Nat) (h0 : Nat) (h1 : Nat) (h2 : Nat) (h3 : Nat) (h4 : Nat) (h5 : Nat) : rc_Mi l yX7_changes [Cond.code yX7_changes cX7_changes 2 (some FieldType.int)] { frames := 1, cells := 0, slots := 0, locals := 22 } E [.ref h0, .int 36] [(h0, .inr (12, [.int 0, .ref h1, .ref h2, .ref h3, .ref h4, .ref h5, .int 1, .int 3, .int 50, .int (-1), .int (-1), .int (-1), .int (-1), .int 0, .int 100, .int 1000, .long 0]))] sz (S := va_W) (fun (r : Int32) (u : va_W) => (37 = r ∧ u = [(h0, .inr (12, [.int 0, .ref h1, .ref h2, .ref h3, .ref h4, .ref h5, .int 37, .int 3, .int 50, .int (-1), .int (-1), .int (-1), .int (-1), .int 0, .int 100, .int 1000, .long 0]))])) (fun u => u) 0 0 := by
  refine rc_ini (cc := cX7_changes) (maxL := 2) (ret := (some FieldType.int)) (by decide) rfl (Nat.le_of_ble_eq_true rfl) ?_
  intro p e s m args below meth c ls A hx hb hr hml _ hown hlocks hin hA hAm hw hl
  have hown : s.vm.findClass RX7 = some m.cls := hown
  have hl : lv_has ls 2 [(0, .ref h0), (1, .int 36)] := hl
  refine lv_aload_n hx hb dX7_changes_0 rfl (lv_at hl 0 rfl) ?_
  refine lv_iconst (v := 0) hx hb dX7_changes_1 (by decide) ?_
  refine rc_put hx hb hown hAm hw lyX7 tyX7 tyX7_ok nmX7 0 rfl rfl 0 (by decide) qw_860 (fun _ h9 => h9) rfl rfl (by decide +kernel) (Nat.le_of_ble_eq_true rfl) [(h0, .inr (12, [.int 0, .ref h1, .ref h2, .ref h3, .ref h4, .ref h5, .int 1, .int 3, .int 50, .int (-1), .int (-1), .int (-1), .int (-1), .int 0, .int 100, .int 1000, .long 0]))] rfl dX7_changes_2 (fun H locs hw => ?_)
  refine lv_iload_n hx hb dX7_changes_5 rfl (lv_at hl 1 rfl) ?_
  refine lv_iconst (v := 1) hx hb dX7_changes_6 (by decide) ?_
  refine lv_bipush (v := 39) hx hb dX7_changes_7 (by decide) ?_
  refine rc_calli (wr := [(h0, .inr (12, [.int 0, .ref h1, .ref h2, .ref h3, .ref h4, .ref h5, .int 1, .int 3, .int 50, .int (-1), .int (-1), .int (-1), .int (-1), .int 0, .int 100, .int 1000, .long 0]))]) (va_runS (As := [.int 36, .int 1, .int 39]) (rest := []) (Ts := []) ⟨hx, hb, hml, hown, fun _ h9 => absurd h9 List.not_mem_nil⟩ (cw_X7_is_50 l E _) (rc_cwS hAm qw_921 qw_13 qw_923 qw_922 rfl rfl hd_X7_is ⟨Nat.le_of_ble_eq_true rfl, Nat.le_of_ble_eq_true rfl⟩) (rc_preS hAm hA hw [] rfl rfl) rfl rfl hl.1 rfl (lv_room (Nat.le_of_ble_eq_true rfl)) dX7_changes_9 ⟨Nat.le_of_ble_eq_true rfl, Nat.le_of_ble_eq_true rfl⟩) hA hw [] [0] rfl rfl rfl (by decide) (fun r_1 u_2 H locs hp hw => ?_)
  obtain ⟨rfl, rfl⟩ := hp
  have hw : rc_W E A s [(h0, .inr (12, [.int 0, .ref h1, .ref h2, .ref h3, .ref h4, .ref h5, .int 1, .int 3, .int 50, .int (-1), .int (-1), .int (-1), .int (-1), .int 0, .int 100, .int 1000, .long 0]))] H locs := hw
  refine lv_if_ne (tgt := 21) hx hb dX7_changes_12 (by decide) (fun _ => ?_) (fun c9 => absurd c9 (by decide))
  refine lv_aload_n hx hb dX7_changes_21 rfl (lv_at hl 0 rfl) ?_
  refine rc_get (v := .int 1) hx hb hown hAm hw lyX7 0 rfl rfl 6 (by decide) qw_866 (fun _ h9 => h9) rfl dX7_changes_22 ?_
  refine lv_iload_n hx hb dX7_changes_25 rfl (lv_at hl 1 rfl) ?_
  refine lv_iadd hx hb dX7_changes_26 ?_
  refine rc_topi 37 (by decide) ?_
  refine lv_bipush (v := 40) hx hb dX7_changes_27 (by decide) ?_
  refine lv_icmp_le (tgt := 38) hx hb dX7_changes_29 (by decide) (fun _ => ?_) (fun c9 => absurd (by decide) c9)
  refine lv_aload_n hx hb dX7_changes_38 rfl (lv_at hl 0 rfl) ?_
  refine lv_dup hx hb dX7_changes_39 rfl ?_
  refine rc_get (v := .int 1) hx hb hown hAm hw lyX7 0 rfl rfl 6 (by decide) qw_866 (fun _ h9 => h9) rfl dX7_changes_40 ?_
  refine lv_iload_n hx hb dX7_changes_43 rfl (lv_at hl 1 rfl) ?_
  refine lv_iadd hx hb dX7_changes_44 ?_
  refine rc_topi 37 (by decide) ?_
  refine rc_put hx hb hown hAm hw lyX7 tyX7 tyX7_ok nmX7 0 rfl rfl 6 (by decide) qw_866 (fun _ h9 => h9) rfl rfl (by decide +kernel) (Nat.le_of_ble_eq_true rfl) [(h0, .inr (12, [.int 0, .ref h1, .ref h2, .ref h3, .ref h4, .ref h5, .int 37, .int 3, .int 50, .int (-1), .int (-1), .int (-1), .int (-1), .int 0, .int 100, .int 1000, .long 0]))] rfl dX7_changes_45 (fun H locs hw => ?_)
  refine lv_aload_n hx hb dX7_changes_48 rfl (lv_at hl 0 rfl) ?_
  refine rc_get (v := .int 37) hx hb hown hAm hw lyX7 0 rfl rfl 6 (by decide) qw_866 (fun _ h9 => h9) rfl dX7_changes_49 ?_
  exact rc_iret (v := 37) hx hb hr hlocks hw [(h0, .inr (12, [.int 0, .ref h1, .ref h2, .ref h3, .ref h4, .ref h5, .int 37, .int 3, .int 50, .int (-1), .int (-1), .int (-1), .int (-1), .int 0, .int 100, .int 1000, .long 0]))] (⟨rfl, rfl⟩) [0] rfl (by decide) (Nat.le_of_ble_eq_true rfl) (Nat.le_of_ble_eq_true rfl) dX7_changes_52
set_option maxHeartbeats 4000000 in
set_option maxRecDepth 100000 in
theorem cw_X7_thrown_39 (l : Launch) (E : rc_E) (sz : Nat) (h0 : Nat) (h1 : Nat) (h2 : Nat) (h3 : Nat) (h4 : Nat) (h5 : Nat) : rc_Mi l yX7_thrown [Cond.code yX7_thrown cX7_thrown 1 (some FieldType.int)] { frames := 0, cells := 0, slots := 0, locals := 0 } E [.ref h0] [(h0, .inr (12, [.int 0, .ref h1, .ref h2, .ref h3, .ref h4, .ref h5, .int 37, .int 3, .int 50, .int (-1), .int (-1), .int (-1), .int (-1), .int 0, .int 100, .int 1000, .long 0]))] sz (S := va_W) (fun (r : Int32) (u : va_W) => (0 = r ∧ u = [(h0, .inr (12, [.int 0, .ref h1, .ref h2, .ref h3, .ref h4, .ref h5, .int 37, .int 3, .int 50, .int (-1), .int (-1), .int (-1), .int (-1), .int 0, .int 100, .int 1000, .long 0]))])) (fun u => u) 0 0 := by
  refine rc_ini (cc := cX7_thrown) (maxL := 1) (ret := (some FieldType.int)) (by decide) rfl (Nat.le_of_ble_eq_true rfl) ?_
  intro p e s m args below meth c ls A hx hb hr hml _ hown hlocks hin hA hAm hw hl
  have hown : s.vm.findClass RX7 = some m.cls := hown
  have hl : lv_has ls 1 [(0, .ref h0)] := hl
  refine lv_aload_n hx hb dX7_thrown_0 rfl (lv_at hl 0 rfl) ?_
  refine rc_get (v := .int 0) hx hb hown hAm hw lyX7 0 rfl rfl 0 (by decide) qw_860 (fun _ h9 => h9) rfl dX7_thrown_1 ?_
  exact rc_iret (v := 0) hx hb hr hlocks hw [(h0, .inr (12, [.int 0, .ref h1, .ref h2, .ref h3, .ref h4, .ref h5, .int 37, .int 3, .int 50, .int (-1), .int (-1), .int (-1), .int (-1), .int 0, .int 100, .int 1000, .long 0]))] (⟨rfl, rfl⟩) [0] rfl (by decide) (Nat.le_of_ble_eq_true rfl) (Nat.le_of_ble_eq_true rfl) dX7_thrown_4
set_option maxHeartbeats 4000000 in
set_option maxRecDepth 100000 in
theorem cw_X7_is_51 (l : Launch) (E : rc_E) (sz : Nat) : rc_Mi l yX7_is [Cond.code yX7_is cX7_is 3 (some FieldType.boolean)] { frames := 0, cells := 0, slots := 0, locals := 0 } E [.int 37, .int 1, .int 39] [] sz (S := va_W) (fun (r : Int32) (u : va_W) => (1 = r ∧ u = [])) (fun u => u) 0 0 := by
  refine rc_ini (cc := cX7_is) (maxL := 3) (ret := (some FieldType.boolean)) (by decide) rfl (Nat.le_of_ble_eq_true rfl) ?_
  intro p e s m args below meth c ls A hx hb hr hml _ hown hlocks hin hA hAm hw hl
  have hown : s.vm.findClass RX7 = some m.cls := hown
  have hl : lv_has ls 3 [(0, .int 37), (1, .int 1), (2, .int 39)] := hl
  refine lv_iload_n hx hb dX7_is_0 rfl (lv_at hl 0 rfl) ?_
  refine lv_iload_n hx hb dX7_is_1 rfl (lv_at hl 1 rfl) ?_
  refine lv_icmp_lt (tgt := 14) hx hb dX7_is_2 (by decide) (fun c9 => absurd c9 (by decide)) (fun _ => ?_)
  refine lv_iload_n hx hb dX7_is_5 rfl (lv_at hl 0 rfl) ?_
  refine lv_iload_n hx hb dX7_is_6 rfl (lv_at hl 2 rfl) ?_
  refine lv_icmp_gt (tgt := 14) hx hb dX7_is_7 (by decide) (fun c9 => absurd c9 (by decide)) (fun _ => ?_)
  refine lv_iconst (v := 1) hx hb dX7_is_10 (by decide) ?_
  refine lv_goto (tgt := 15) hx hb dX7_is_11 (by decide) ?_
  exact rc_zret (v := 1) hx hb hr hlocks hw rfl [] (⟨rfl, rfl⟩) [] rfl (by decide) (Nat.le_of_ble_eq_true rfl) (Nat.le_of_ble_eq_true rfl) dX7_is_15
set_option maxHeartbeats 4000000 in
set_option maxRecDepth 100000 in
theorem cw_X7_changes_38 (l : Launch) (E : rc_E) (sz : Nat) (h0 : Nat) (h1 : Nat) (h2 : Nat) (h3 : Nat) (h4 : Nat) (h5 : Nat) : rc_Mi l yX7_changes [Cond.code yX7_changes cX7_changes 2 (some FieldType.int)] { frames := 1, cells := 0, slots := 0, locals := 22 } E [.ref h0, .int 37] [(h0, .inr (12, [.int 0, .ref h1, .ref h2, .ref h3, .ref h4, .ref h5, .int 1, .int 3, .int 50, .int (-1), .int (-1), .int (-1), .int (-1), .int 0, .int 100, .int 1000, .long 0]))] sz (S := va_W) (fun (r : Int32) (u : va_W) => (38 = r ∧ u = [(h0, .inr (12, [.int 0, .ref h1, .ref h2, .ref h3, .ref h4, .ref h5, .int 38, .int 3, .int 50, .int (-1), .int (-1), .int (-1), .int (-1), .int 0, .int 100, .int 1000, .long 0]))])) (fun u => u) 0 0 := by
  refine rc_ini (cc := cX7_changes) (maxL := 2) (ret := (some FieldType.int)) (by decide) rfl (Nat.le_of_ble_eq_true rfl) ?_
  intro p e s m args below meth c ls A hx hb hr hml _ hown hlocks hin hA hAm hw hl
  have hown : s.vm.findClass RX7 = some m.cls := hown
  have hl : lv_has ls 2 [(0, .ref h0), (1, .int 37)] := hl
  refine lv_aload_n hx hb dX7_changes_0 rfl (lv_at hl 0 rfl) ?_
  refine lv_iconst (v := 0) hx hb dX7_changes_1 (by decide) ?_
  refine rc_put hx hb hown hAm hw lyX7 tyX7 tyX7_ok nmX7 0 rfl rfl 0 (by decide) qw_860 (fun _ h9 => h9) rfl rfl (by decide +kernel) (Nat.le_of_ble_eq_true rfl) [(h0, .inr (12, [.int 0, .ref h1, .ref h2, .ref h3, .ref h4, .ref h5, .int 1, .int 3, .int 50, .int (-1), .int (-1), .int (-1), .int (-1), .int 0, .int 100, .int 1000, .long 0]))] rfl dX7_changes_2 (fun H locs hw => ?_)
  refine lv_iload_n hx hb dX7_changes_5 rfl (lv_at hl 1 rfl) ?_
  refine lv_iconst (v := 1) hx hb dX7_changes_6 (by decide) ?_
  refine lv_bipush (v := 39) hx hb dX7_changes_7 (by decide) ?_
  refine rc_calli (wr := [(h0, .inr (12, [.int 0, .ref h1, .ref h2, .ref h3, .ref h4, .ref h5, .int 1, .int 3, .int 50, .int (-1), .int (-1), .int (-1), .int (-1), .int 0, .int 100, .int 1000, .long 0]))]) (va_runS (As := [.int 37, .int 1, .int 39]) (rest := []) (Ts := []) ⟨hx, hb, hml, hown, fun _ h9 => absurd h9 List.not_mem_nil⟩ (cw_X7_is_51 l E _) (rc_cwS hAm qw_921 qw_13 qw_923 qw_922 rfl rfl hd_X7_is ⟨Nat.le_of_ble_eq_true rfl, Nat.le_of_ble_eq_true rfl⟩) (rc_preS hAm hA hw [] rfl rfl) rfl rfl hl.1 rfl (lv_room (Nat.le_of_ble_eq_true rfl)) dX7_changes_9 ⟨Nat.le_of_ble_eq_true rfl, Nat.le_of_ble_eq_true rfl⟩) hA hw [] [0] rfl rfl rfl (by decide) (fun r_1 u_2 H locs hp hw => ?_)
  obtain ⟨rfl, rfl⟩ := hp
  have hw : rc_W E A s [(h0, .inr (12, [.int 0, .ref h1, .ref h2, .ref h3, .ref h4, .ref h5, .int 1, .int 3, .int 50, .int (-1), .int (-1), .int (-1), .int (-1), .int 0, .int 100, .int 1000, .long 0]))] H locs := hw
  refine lv_if_ne (tgt := 21) hx hb dX7_changes_12 (by decide) (fun _ => ?_) (fun c9 => absurd c9 (by decide))
  refine lv_aload_n hx hb dX7_changes_21 rfl (lv_at hl 0 rfl) ?_
  refine rc_get (v := .int 1) hx hb hown hAm hw lyX7 0 rfl rfl 6 (by decide) qw_866 (fun _ h9 => h9) rfl dX7_changes_22 ?_
  refine lv_iload_n hx hb dX7_changes_25 rfl (lv_at hl 1 rfl) ?_
  refine lv_iadd hx hb dX7_changes_26 ?_
  refine rc_topi 38 (by decide) ?_
  refine lv_bipush (v := 40) hx hb dX7_changes_27 (by decide) ?_
  refine lv_icmp_le (tgt := 38) hx hb dX7_changes_29 (by decide) (fun _ => ?_) (fun c9 => absurd (by decide) c9)
  refine lv_aload_n hx hb dX7_changes_38 rfl (lv_at hl 0 rfl) ?_
  refine lv_dup hx hb dX7_changes_39 rfl ?_
  refine rc_get (v := .int 1) hx hb hown hAm hw lyX7 0 rfl rfl 6 (by decide) qw_866 (fun _ h9 => h9) rfl dX7_changes_40 ?_
  refine lv_iload_n hx hb dX7_changes_43 rfl (lv_at hl 1 rfl) ?_
  refine lv_iadd hx hb dX7_changes_44 ?_
  refine rc_topi 38 (by decide) ?_
  refine rc_put hx hb hown hAm hw lyX7 tyX7 tyX7_ok nmX7 0 rfl rfl 6 (by decide) qw_866 (fun _ h9 => h9) rfl rfl (by decide +kernel) (Nat.le_of_ble_eq_true rfl) [(h0, .inr (12, [.int 0, .ref h1, .ref h2, .ref h3, .ref h4, .ref h5, .int 38, .int 3, .int 50, .int (-1), .int (-1), .int (-1), .int (-1), .int 0, .int 100, .int 1000, .long 0]))] rfl dX7_changes_45 (fun H locs hw => ?_)
  refine lv_aload_n hx hb dX7_changes_48 rfl (lv_at hl 0 rfl) ?_
  refine rc_get (v := .int 38) hx hb hown hAm hw lyX7 0 rfl rfl 6 (by decide) qw_866 (fun _ h9 => h9) rfl dX7_changes_49 ?_
  exact rc_iret (v := 38) hx hb hr hlocks hw [(h0, .inr (12, [.int 0, .ref h1, .ref h2, .ref h3, .ref h4, .ref h5, .int 38, .int 3, .int 50, .int (-1), .int (-1), .int (-1), .int (-1), .int 0, .int 100, .int 1000, .long 0]))] (⟨rfl, rfl⟩) [0] rfl (by decide) (Nat.le_of_ble_eq_true rfl) (Nat.le_of_ble_eq_true rfl) dX7_changes_52
set_option maxHeartbeats 4000000 in
set_option maxRecDepth 100000 in
theorem cw_X7_thrown_40 (l : Launch) (E : rc_E) (sz : Nat) (h0 : Nat) (h1 : Nat) (h2 : Nat) (h3 : Nat) (h4 : Nat) (h5 : Nat) : rc_Mi l yX7_thrown [Cond.code yX7_thrown cX7_thrown 1 (some FieldType.int)] { frames := 0, cells := 0, slots := 0, locals := 0 } E [.ref h0] [(h0, .inr (12, [.int 0, .ref h1, .ref h2, .ref h3, .ref h4, .ref h5, .int 38, .int 3, .int 50, .int (-1), .int (-1), .int (-1), .int (-1), .int 0, .int 100, .int 1000, .long 0]))] sz (S := va_W) (fun (r : Int32) (u : va_W) => (0 = r ∧ u = [(h0, .inr (12, [.int 0, .ref h1, .ref h2, .ref h3, .ref h4, .ref h5, .int 38, .int 3, .int 50, .int (-1), .int (-1), .int (-1), .int (-1), .int 0, .int 100, .int 1000, .long 0]))])) (fun u => u) 0 0 := by
  refine rc_ini (cc := cX7_thrown) (maxL := 1) (ret := (some FieldType.int)) (by decide) rfl (Nat.le_of_ble_eq_true rfl) ?_
  intro p e s m args below meth c ls A hx hb hr hml _ hown hlocks hin hA hAm hw hl
  have hown : s.vm.findClass RX7 = some m.cls := hown
  have hl : lv_has ls 1 [(0, .ref h0)] := hl
  refine lv_aload_n hx hb dX7_thrown_0 rfl (lv_at hl 0 rfl) ?_
  refine rc_get (v := .int 0) hx hb hown hAm hw lyX7 0 rfl rfl 0 (by decide) qw_860 (fun _ h9 => h9) rfl dX7_thrown_1 ?_
  exact rc_iret (v := 0) hx hb hr hlocks hw [(h0, .inr (12, [.int 0, .ref h1, .ref h2, .ref h3, .ref h4, .ref h5, .int 38, .int 3, .int 50, .int (-1), .int (-1), .int (-1), .int (-1), .int 0, .int 100, .int 1000, .long 0]))] (⟨rfl, rfl⟩) [0] rfl (by decide) (Nat.le_of_ble_eq_true rfl) (Nat.le_of_ble_eq_true rfl) dX7_thrown_4
set_option maxHeartbeats 4000000 in
set_option maxRecDepth 100000 in
theorem cw_X7_is_52 (l : Launch) (E : rc_E) (sz : Nat) : rc_Mi l yX7_is [Cond.code yX7_is cX7_is 3 (some FieldType.boolean)] { frames := 0, cells := 0, slots := 0, locals := 0 } E [.int 38, .int 1, .int 39] [] sz (S := va_W) (fun (r : Int32) (u : va_W) => (1 = r ∧ u = [])) (fun u => u) 0 0 := by
  refine rc_ini (cc := cX7_is) (maxL := 3) (ret := (some FieldType.boolean)) (by decide) rfl (Nat.le_of_ble_eq_true rfl) ?_
  intro p e s m args below meth c ls A hx hb hr hml _ hown hlocks hin hA hAm hw hl
  have hown : s.vm.findClass RX7 = some m.cls := hown
  have hl : lv_has ls 3 [(0, .int 38), (1, .int 1), (2, .int 39)] := hl
  refine lv_iload_n hx hb dX7_is_0 rfl (lv_at hl 0 rfl) ?_
  refine lv_iload_n hx hb dX7_is_1 rfl (lv_at hl 1 rfl) ?_
  refine lv_icmp_lt (tgt := 14) hx hb dX7_is_2 (by decide) (fun c9 => absurd c9 (by decide)) (fun _ => ?_)
  refine lv_iload_n hx hb dX7_is_5 rfl (lv_at hl 0 rfl) ?_
  refine lv_iload_n hx hb dX7_is_6 rfl (lv_at hl 2 rfl) ?_
  refine lv_icmp_gt (tgt := 14) hx hb dX7_is_7 (by decide) (fun c9 => absurd c9 (by decide)) (fun _ => ?_)
  refine lv_iconst (v := 1) hx hb dX7_is_10 (by decide) ?_
  refine lv_goto (tgt := 15) hx hb dX7_is_11 (by decide) ?_
  exact rc_zret (v := 1) hx hb hr hlocks hw rfl [] (⟨rfl, rfl⟩) [] rfl (by decide) (Nat.le_of_ble_eq_true rfl) (Nat.le_of_ble_eq_true rfl) dX7_is_15
set_option maxHeartbeats 4000000 in
set_option maxRecDepth 100000 in
theorem cw_X7_changes_39 (l : Launch) (E : rc_E) (sz : Nat) (h0 : Nat) (h1 : Nat) (h2 : Nat) (h3 : Nat) (h4 : Nat) (h5 : Nat) : rc_Mi l yX7_changes [Cond.code yX7_changes cX7_changes 2 (some FieldType.int)] { frames := 1, cells := 0, slots := 0, locals := 22 } E [.ref h0, .int 38] [(h0, .inr (12, [.int 0, .ref h1, .ref h2, .ref h3, .ref h4, .ref h5, .int 1, .int 3, .int 50, .int (-1), .int (-1), .int (-1), .int (-1), .int 0, .int 100, .int 1000, .long 0]))] sz (S := va_W) (fun (r : Int32) (u : va_W) => (39 = r ∧ u = [(h0, .inr (12, [.int 0, .ref h1, .ref h2, .ref h3, .ref h4, .ref h5, .int 39, .int 3, .int 50, .int (-1), .int (-1), .int (-1), .int (-1), .int 0, .int 100, .int 1000, .long 0]))])) (fun u => u) 0 0 := by
  refine rc_ini (cc := cX7_changes) (maxL := 2) (ret := (some FieldType.int)) (by decide) rfl (Nat.le_of_ble_eq_true rfl) ?_
  intro p e s m args below meth c ls A hx hb hr hml _ hown hlocks hin hA hAm hw hl
  have hown : s.vm.findClass RX7 = some m.cls := hown
  have hl : lv_has ls 2 [(0, .ref h0), (1, .int 38)] := hl
  refine lv_aload_n hx hb dX7_changes_0 rfl (lv_at hl 0 rfl) ?_
  refine lv_iconst (v := 0) hx hb dX7_changes_1 (by decide) ?_
  refine rc_put hx hb hown hAm hw lyX7 tyX7 tyX7_ok nmX7 0 rfl rfl 0 (by decide) qw_860 (fun _ h9 => h9) rfl rfl (by decide +kernel) (Nat.le_of_ble_eq_true rfl) [(h0, .inr (12, [.int 0, .ref h1, .ref h2, .ref h3, .ref h4, .ref h5, .int 1, .int 3, .int 50, .int (-1), .int (-1), .int (-1), .int (-1), .int 0, .int 100, .int 1000, .long 0]))] rfl dX7_changes_2 (fun H locs hw => ?_)
  refine lv_iload_n hx hb dX7_changes_5 rfl (lv_at hl 1 rfl) ?_
  refine lv_iconst (v := 1) hx hb dX7_changes_6 (by decide) ?_
  refine lv_bipush (v := 39) hx hb dX7_changes_7 (by decide) ?_
  refine rc_calli (wr := [(h0, .inr (12, [.int 0, .ref h1, .ref h2, .ref h3, .ref h4, .ref h5, .int 1, .int 3, .int 50, .int (-1), .int (-1), .int (-1), .int (-1), .int 0, .int 100, .int 1000, .long 0]))]) (va_runS (As := [.int 38, .int 1, .int 39]) (rest := []) (Ts := []) ⟨hx, hb, hml, hown, fun _ h9 => absurd h9 List.not_mem_nil⟩ (cw_X7_is_52 l E _) (rc_cwS hAm qw_921 qw_13 qw_923 qw_922 rfl rfl hd_X7_is ⟨Nat.le_of_ble_eq_true rfl, Nat.le_of_ble_eq_true rfl⟩) (rc_preS hAm hA hw [] rfl rfl) rfl rfl hl.1 rfl (lv_room (Nat.le_of_ble_eq_true rfl)) dX7_changes_9 ⟨Nat.le_of_ble_eq_true rfl, Nat.le_of_ble_eq_true rfl⟩) hA hw [] [0] rfl rfl rfl (by decide) (fun r_1 u_2 H locs hp hw => ?_)
  obtain ⟨rfl, rfl⟩ := hp
  have hw : rc_W E A s [(h0, .inr (12, [.int 0, .ref h1, .ref h2, .ref h3, .ref h4, .ref h5, .int 1, .int 3, .int 50, .int (-1), .int (-1), .int (-1), .int (-1), .int 0, .int 100, .int 1000, .long 0]))] H locs := hw
  refine lv_if_ne (tgt := 21) hx hb dX7_changes_12 (by decide) (fun _ => ?_) (fun c9 => absurd c9 (by decide))
  refine lv_aload_n hx hb dX7_changes_21 rfl (lv_at hl 0 rfl) ?_
  refine rc_get (v := .int 1) hx hb hown hAm hw lyX7 0 rfl rfl 6 (by decide) qw_866 (fun _ h9 => h9) rfl dX7_changes_22 ?_
  refine lv_iload_n hx hb dX7_changes_25 rfl (lv_at hl 1 rfl) ?_
  refine lv_iadd hx hb dX7_changes_26 ?_
  refine rc_topi 39 (by decide) ?_
  refine lv_bipush (v := 40) hx hb dX7_changes_27 (by decide) ?_
  refine lv_icmp_le (tgt := 38) hx hb dX7_changes_29 (by decide) (fun _ => ?_) (fun c9 => absurd (by decide) c9)
  refine lv_aload_n hx hb dX7_changes_38 rfl (lv_at hl 0 rfl) ?_
  refine lv_dup hx hb dX7_changes_39 rfl ?_
  refine rc_get (v := .int 1) hx hb hown hAm hw lyX7 0 rfl rfl 6 (by decide) qw_866 (fun _ h9 => h9) rfl dX7_changes_40 ?_
  refine lv_iload_n hx hb dX7_changes_43 rfl (lv_at hl 1 rfl) ?_
  refine lv_iadd hx hb dX7_changes_44 ?_
  refine rc_topi 39 (by decide) ?_
  refine rc_put hx hb hown hAm hw lyX7 tyX7 tyX7_ok nmX7 0 rfl rfl 6 (by decide) qw_866 (fun _ h9 => h9) rfl rfl (by decide +kernel) (Nat.le_of_ble_eq_true rfl) [(h0, .inr (12, [.int 0, .ref h1, .ref h2, .ref h3, .ref h4, .ref h5, .int 39, .int 3, .int 50, .int (-1), .int (-1), .int (-1), .int (-1), .int 0, .int 100, .int 1000, .long 0]))] rfl dX7_changes_45 (fun H locs hw => ?_)
  refine lv_aload_n hx hb dX7_changes_48 rfl (lv_at hl 0 rfl) ?_
  refine rc_get (v := .int 39) hx hb hown hAm hw lyX7 0 rfl rfl 6 (by decide) qw_866 (fun _ h9 => h9) rfl dX7_changes_49 ?_
  exact rc_iret (v := 39) hx hb hr hlocks hw [(h0, .inr (12, [.int 0, .ref h1, .ref h2, .ref h3, .ref h4, .ref h5, .int 39, .int 3, .int 50, .int (-1), .int (-1), .int (-1), .int (-1), .int 0, .int 100, .int 1000, .long 0]))] (⟨rfl, rfl⟩) [0] rfl (by decide) (Nat.le_of_ble_eq_true rfl) (Nat.le_of_ble_eq_true rfl) dX7_changes_52
set_option maxHeartbeats 4000000 in
set_option maxRecDepth 100000 in
theorem cw_X7_thrown_41 (l : Launch) (E : rc_E) (sz : Nat) (h0 : Nat) (h1 : Nat) (h2 : Nat) (h3 : Nat) (h4 : Nat) (h5 : Nat) : rc_Mi l yX7_thrown [Cond.code yX7_thrown cX7_thrown 1 (some FieldType.int)] { frames := 0, cells := 0, slots := 0, locals := 0 } E [.ref h0] [(h0, .inr (12, [.int 0, .ref h1, .ref h2, .ref h3, .ref h4, .ref h5, .int 39, .int 3, .int 50, .int (-1), .int (-1), .int (-1), .int (-1), .int 0, .int 100, .int 1000, .long 0]))] sz (S := va_W) (fun (r : Int32) (u : va_W) => (0 = r ∧ u = [(h0, .inr (12, [.int 0, .ref h1, .ref h2, .ref h3, .ref h4, .ref h5, .int 39, .int 3, .int 50, .int (-1), .int (-1), .int (-1), .int (-1), .int 0, .int 100, .int 1000, .long 0]))])) (fun u => u) 0 0 := by
  refine rc_ini (cc := cX7_thrown) (maxL := 1) (ret := (some FieldType.int)) (by decide) rfl (Nat.le_of_ble_eq_true rfl) ?_
  intro p e s m args below meth c ls A hx hb hr hml _ hown hlocks hin hA hAm hw hl
  have hown : s.vm.findClass RX7 = some m.cls := hown
  have hl : lv_has ls 1 [(0, .ref h0)] := hl
  refine lv_aload_n hx hb dX7_thrown_0 rfl (lv_at hl 0 rfl) ?_
  refine rc_get (v := .int 0) hx hb hown hAm hw lyX7 0 rfl rfl 0 (by decide) qw_860 (fun _ h9 => h9) rfl dX7_thrown_1 ?_
  exact rc_iret (v := 0) hx hb hr hlocks hw [(h0, .inr (12, [.int 0, .ref h1, .ref h2, .ref h3, .ref h4, .ref h5, .int 39, .int 3, .int 50, .int (-1), .int (-1), .int (-1), .int (-1), .int 0, .int 100, .int 1000, .long 0]))] (⟨rfl, rfl⟩) [0] rfl (by decide) (Nat.le_of_ble_eq_true rfl) (Nat.le_of_ble_eq_true rfl) dX7_thrown_4
set_option maxHeartbeats 4000000 in
set_option maxRecDepth 100000 in
theorem cw_X7_is_53 (l : Launch) (E : rc_E) (sz : Nat) : rc_Mi l yX7_is [Cond.code yX7_is cX7_is 3 (some FieldType.boolean)] { frames := 0, cells := 0, slots := 0, locals := 0 } E [.int 39, .int 1, .int 39] [] sz (S := va_W) (fun (r : Int32) (u : va_W) => (1 = r ∧ u = [])) (fun u => u) 0 0 := by
  refine rc_ini (cc := cX7_is) (maxL := 3) (ret := (some FieldType.boolean)) (by decide) rfl (Nat.le_of_ble_eq_true rfl) ?_
  intro p e s m args below meth c ls A hx hb hr hml _ hown hlocks hin hA hAm hw hl
  have hown : s.vm.findClass RX7 = some m.cls := hown
  have hl : lv_has ls 3 [(0, .int 39), (1, .int 1), (2, .int 39)] := hl
  refine lv_iload_n hx hb dX7_is_0 rfl (lv_at hl 0 rfl) ?_
  refine lv_iload_n hx hb dX7_is_1 rfl (lv_at hl 1 rfl) ?_
  refine lv_icmp_lt (tgt := 14) hx hb dX7_is_2 (by decide) (fun c9 => absurd c9 (by decide)) (fun _ => ?_)
  refine lv_iload_n hx hb dX7_is_5 rfl (lv_at hl 0 rfl) ?_
  refine lv_iload_n hx hb dX7_is_6 rfl (lv_at hl 2 rfl) ?_
  refine lv_icmp_gt (tgt := 14) hx hb dX7_is_7 (by decide) (fun c9 => absurd c9 (by decide)) (fun _ => ?_)
  refine lv_iconst (v := 1) hx hb dX7_is_10 (by decide) ?_
  refine lv_goto (tgt := 15) hx hb dX7_is_11 (by decide) ?_
  exact rc_zret (v := 1) hx hb hr hlocks hw rfl [] (⟨rfl, rfl⟩) [] rfl (by decide) (Nat.le_of_ble_eq_true rfl) (Nat.le_of_ble_eq_true rfl) dX7_is_15
set_option maxHeartbeats 4000000 in
set_option maxRecDepth 100000 in
theorem cw_X7_changes_40 (l : Launch) (E : rc_E) (sz : Nat) (h0 : Nat) (h1 : Nat) (h2 : Nat) (h3 : Nat) (h4 : Nat) (h5 : Nat) : rc_Mi l yX7_changes [Cond.code yX7_changes cX7_changes 2 (some FieldType.int)] { frames := 1, cells := 0, slots := 0, locals := 22 } E [.ref h0, .int 39] [(h0, .inr (12, [.int 0, .ref h1, .ref h2, .ref h3, .ref h4, .ref h5, .int 1, .int 3, .int 50, .int (-1), .int (-1), .int (-1), .int (-1), .int 0, .int 100, .int 1000, .long 0]))] sz (S := va_W) (fun (r : Int32) (u : va_W) => (40 = r ∧ u = [(h0, .inr (12, [.int 0, .ref h1, .ref h2, .ref h3, .ref h4, .ref h5, .int 40, .int 3, .int 50, .int (-1), .int (-1), .int (-1), .int (-1), .int 0, .int 100, .int 1000, .long 0]))])) (fun u => u) 0 0 := by
  refine rc_ini (cc := cX7_changes) (maxL := 2) (ret := (some FieldType.int)) (by decide) rfl (Nat.le_of_ble_eq_true rfl) ?_
  intro p e s m args below meth c ls A hx hb hr hml _ hown hlocks hin hA hAm hw hl
  have hown : s.vm.findClass RX7 = some m.cls := hown
  have hl : lv_has ls 2 [(0, .ref h0), (1, .int 39)] := hl
  refine lv_aload_n hx hb dX7_changes_0 rfl (lv_at hl 0 rfl) ?_
  refine lv_iconst (v := 0) hx hb dX7_changes_1 (by decide) ?_
  refine rc_put hx hb hown hAm hw lyX7 tyX7 tyX7_ok nmX7 0 rfl rfl 0 (by decide) qw_860 (fun _ h9 => h9) rfl rfl (by decide +kernel) (Nat.le_of_ble_eq_true rfl) [(h0, .inr (12, [.int 0, .ref h1, .ref h2, .ref h3, .ref h4, .ref h5, .int 1, .int 3, .int 50, .int (-1), .int (-1), .int (-1), .int (-1), .int 0, .int 100, .int 1000, .long 0]))] rfl dX7_changes_2 (fun H locs hw => ?_)
  refine lv_iload_n hx hb dX7_changes_5 rfl (lv_at hl 1 rfl) ?_
  refine lv_iconst (v := 1) hx hb dX7_changes_6 (by decide) ?_
  refine lv_bipush (v := 39) hx hb dX7_changes_7 (by decide) ?_
  refine rc_calli (wr := [(h0, .inr (12, [.int 0, .ref h1, .ref h2, .ref h3, .ref h4, .ref h5, .int 1, .int 3, .int 50, .int (-1), .int (-1), .int (-1), .int (-1), .int 0, .int 100, .int 1000, .long 0]))]) (va_runS (As := [.int 39, .int 1, .int 39]) (rest := []) (Ts := []) ⟨hx, hb, hml, hown, fun _ h9 => absurd h9 List.not_mem_nil⟩ (cw_X7_is_53 l E _) (rc_cwS hAm qw_921 qw_13 qw_923 qw_922 rfl rfl hd_X7_is ⟨Nat.le_of_ble_eq_true rfl, Nat.le_of_ble_eq_true rfl⟩) (rc_preS hAm hA hw [] rfl rfl) rfl rfl hl.1 rfl (lv_room (Nat.le_of_ble_eq_true rfl)) dX7_changes_9 ⟨Nat.le_of_ble_eq_true rfl, Nat.le_of_ble_eq_true rfl⟩) hA hw [] [0] rfl rfl rfl (by decide) (fun r_1 u_2 H locs hp hw => ?_)
  obtain ⟨rfl, rfl⟩ := hp
  have hw : rc_W E A s [(h0, .inr (12, [.int 0, .ref h1, .ref h2, .ref h3, .ref h4, .ref h5, .int 1, .int 3, .int 50, .int (-1), .int (-1), .int (-1), .int (-1), .int 0, .int 100, .int 1000, .long 0]))] H locs := hw
  refine lv_if_ne (tgt := 21) hx hb dX7_changes_12 (by decide) (fun _ => ?_) (fun c9 => absurd c9 (by decide))
  refine lv_aload_n hx hb dX7_changes_21 rfl (lv_at hl 0 rfl) ?_
  refine rc_get (v := .int 1) hx hb hown hAm hw lyX7 0 rfl rfl 6 (by decide) qw_866 (fun _ h9 => h9) rfl dX7_changes_22 ?_
  refine lv_iload_n hx hb dX7_changes_25 rfl (lv_at hl 1 rfl) ?_
  refine lv_iadd hx hb dX7_changes_26 ?_
  refine rc_topi 40 (by decide) ?_
  refine lv_bipush (v := 40) hx hb dX7_changes_27 (by decide) ?_
  refine lv_icmp_le (tgt := 38) hx hb dX7_changes_29 (by decide) (fun _ => ?_) (fun c9 => absurd (by decide) c9)
  refine lv_aload_n hx hb dX7_changes_38 rfl (lv_at hl 0 rfl) ?_
  refine lv_dup hx hb dX7_changes_39 rfl ?_
  refine rc_get (v := .int 1) hx hb hown hAm hw lyX7 0 rfl rfl 6 (by decide) qw_866 (fun _ h9 => h9) rfl dX7_changes_40 ?_
  refine lv_iload_n hx hb dX7_changes_43 rfl (lv_at hl 1 rfl) ?_
  refine lv_iadd hx hb dX7_changes_44 ?_
  refine rc_topi 40 (by decide) ?_
  refine rc_put hx hb hown hAm hw lyX7 tyX7 tyX7_ok nmX7 0 rfl rfl 6 (by decide) qw_866 (fun _ h9 => h9) rfl rfl (by decide +kernel) (Nat.le_of_ble_eq_true rfl) [(h0, .inr (12, [.int 0, .ref h1, .ref h2, .ref h3, .ref h4, .ref h5, .int 40, .int 3, .int 50, .int (-1), .int (-1), .int (-1), .int (-1), .int 0, .int 100, .int 1000, .long 0]))] rfl dX7_changes_45 (fun H locs hw => ?_)
  refine lv_aload_n hx hb dX7_changes_48 rfl (lv_at hl 0 rfl) ?_
  refine rc_get (v := .int 40) hx hb hown hAm hw lyX7 0 rfl rfl 6 (by decide) qw_866 (fun _ h9 => h9) rfl dX7_changes_49 ?_
  exact rc_iret (v := 40) hx hb hr hlocks hw [(h0, .inr (12, [.int 0, .ref h1, .ref h2, .ref h3, .ref h4, .ref h5, .int 40, .int 3, .int 50, .int (-1), .int (-1), .int (-1), .int (-1), .int 0, .int 100, .int 1000, .long 0]))] (⟨rfl, rfl⟩) [0] rfl (by decide) (Nat.le_of_ble_eq_true rfl) (Nat.le_of_ble_eq_true rfl) dX7_changes_52
set_option maxHeartbeats 4000000 in
set_option maxRecDepth 100000 in
theorem cw_X7_thrown_42 (l : Launch) (E : rc_E) (sz : Nat) (h0 : Nat) (h1 : Nat) (h2 : Nat) (h3 : Nat) (h4 : Nat) (h5 : Nat) : rc_Mi l yX7_thrown [Cond.code yX7_thrown cX7_thrown 1 (some FieldType.int)] { frames := 0, cells := 0, slots := 0, locals := 0 } E [.ref h0] [(h0, .inr (12, [.int 0, .ref h1, .ref h2, .ref h3, .ref h4, .ref h5, .int 40, .int 3, .int 50, .int (-1), .int (-1), .int (-1), .int (-1), .int 0, .int 100, .int 1000, .long 0]))] sz (S := va_W) (fun (r : Int32) (u : va_W) => (0 = r ∧ u = [(h0, .inr (12, [.int 0, .ref h1, .ref h2, .ref h3, .ref h4, .ref h5, .int 40, .int 3, .int 50, .int (-1), .int (-1), .int (-1), .int (-1), .int 0, .int 100, .int 1000, .long 0]))])) (fun u => u) 0 0 := by
  refine rc_ini (cc := cX7_thrown) (maxL := 1) (ret := (some FieldType.int)) (by decide) rfl (Nat.le_of_ble_eq_true rfl) ?_
  intro p e s m args below meth c ls A hx hb hr hml _ hown hlocks hin hA hAm hw hl
  have hown : s.vm.findClass RX7 = some m.cls := hown
  have hl : lv_has ls 1 [(0, .ref h0)] := hl
  refine lv_aload_n hx hb dX7_thrown_0 rfl (lv_at hl 0 rfl) ?_
  refine rc_get (v := .int 0) hx hb hown hAm hw lyX7 0 rfl rfl 0 (by decide) qw_860 (fun _ h9 => h9) rfl dX7_thrown_1 ?_
  exact rc_iret (v := 0) hx hb hr hlocks hw [(h0, .inr (12, [.int 0, .ref h1, .ref h2, .ref h3, .ref h4, .ref h5, .int 40, .int 3, .int 50, .int (-1), .int (-1), .int (-1), .int (-1), .int 0, .int 100, .int 1000, .long 0]))] (⟨rfl, rfl⟩) [0] rfl (by decide) (Nat.le_of_ble_eq_true rfl) (Nat.le_of_ble_eq_true rfl) dX7_thrown_4
theorem hd_L_run : yL_run.cls ≠ "java/lang/invoke/MethodHandle" ∧ yL_run.cls ≠ "java/lang/invoke/VarHandle" ∧ (parseMethodDescriptor yL_run.desc).map (fun d => d.parameters.length) = some 5 := by decide +kernel
theorem hd_X7_run : yX7_run.cls ≠ "java/lang/invoke/MethodHandle" ∧ yX7_run.cls ≠ "java/lang/invoke/VarHandle" ∧ (parseMethodDescriptor yX7_run.desc).map (fun d => d.parameters.length) = some 3 := by decide +kernel
set_option maxHeartbeats 4000000 in
set_option maxRecDepth 100000 in
theorem cw_X7_is_54 (l : Launch) (E : rc_E) (sz : Nat) : rc_Mi l yX7_is [Cond.code yX7_is cX7_is 3 (some FieldType.boolean)] { frames := 0, cells := 0, slots := 0, locals := 0 } E [.int 0, .int 0, .int 0] [] sz (S := va_W) (fun (r : Int32) (u : va_W) => (1 = r ∧ u = [])) (fun u => u) 0 0 := by
  refine rc_ini (cc := cX7_is) (maxL := 3) (ret := (some FieldType.boolean)) (by decide) rfl (Nat.le_of_ble_eq_true rfl) ?_
  intro p e s m args below meth c ls A hx hb hr hml _ hown hlocks hin hA hAm hw hl
  have hown : s.vm.findClass RX7 = some m.cls := hown
  have hl : lv_has ls 3 [(0, .int 0), (1, .int 0), (2, .int 0)] := hl
  refine lv_iload_n hx hb dX7_is_0 rfl (lv_at hl 0 rfl) ?_
  refine lv_iload_n hx hb dX7_is_1 rfl (lv_at hl 1 rfl) ?_
  refine lv_icmp_lt (tgt := 14) hx hb dX7_is_2 (by decide) (fun c9 => absurd c9 (by decide)) (fun _ => ?_)
  refine lv_iload_n hx hb dX7_is_5 rfl (lv_at hl 0 rfl) ?_
  refine lv_iload_n hx hb dX7_is_6 rfl (lv_at hl 2 rfl) ?_
  refine lv_icmp_gt (tgt := 14) hx hb dX7_is_7 (by decide) (fun c9 => absurd c9 (by decide)) (fun _ => ?_)
  refine lv_iconst (v := 1) hx hb dX7_is_10 (by decide) ?_
  refine lv_goto (tgt := 15) hx hb dX7_is_11 (by decide) ?_
  exact rc_zret (v := 1) hx hb hr hlocks hw rfl [] (⟨rfl, rfl⟩) [] rfl (by decide) (Nat.le_of_ble_eq_true rfl) (Nat.le_of_ble_eq_true rfl) dX7_is_15
set_option maxHeartbeats 4000000 in
set_option maxRecDepth 100000 in
theorem cw_X7_isChange_2 (l : Launch) (E : rc_E) (sz : Nat) (h0 : Nat) (h1 : Nat) (h2 : Nat) (h3 : Nat) (h4 : Nat) (h5 : Nat) : rc_Mi l yX7_isChange [Cond.code yX7_isChange cX7_isChange 2 (some FieldType.boolean)] { frames := 1, cells := 0, slots := 0, locals := 22 } E [.ref h0, .int 0] [(h0, .inr (12, [.int 0, .ref h1, .ref h2, .ref h3, .ref h4, .ref h5, .int 1, .int 3, .int 50, .int (-1), .int (-1), .int (-1), .int (-1), .int 0, .int 100, .int 1000, .long 0]))] sz (S := va_W) (fun (r : Int32) (u : va_W) => (1 = r ∧ u = [(h0, .inr (12, [.int 0, .ref h1, .ref h2, .ref h3, .ref h4, .ref h5, .int 1, .int 3, .int 50, .int (-1), .int (-1), .int (-1), .int (-1), .int 0, .int 100, .int 1000, .long 0]))])) (fun u => u) 0 0 := by
  refine rc_ini (cc := cX7_isChange) (maxL := 2) (ret := (some FieldType.boolean)) (by decide) rfl (Nat.le_of_ble_eq_true rfl) ?_
  intro p e s m args below meth c ls A hx hb hr hml _ hown hlocks hin hA hAm hw hl
  have hown : s.vm.findClass RX7 = some m.cls := hown
  have hl : lv_has ls 2 [(0, .ref h0), (1, .int 0)] := hl
  refine lv_iload_n hx hb dX7_isChange_0 rfl (lv_at hl 1 rfl) ?_
  refine lv_iconst (v := 0) hx hb dX7_isChange_1 (by decide) ?_
  refine lv_aload_n hx hb dX7_isChange_2 rfl (lv_at hl 0 rfl) ?_
  refine rc_get (v := .int 1) hx hb hown hAm hw lyX7 0 rfl rfl 6 (by decide) qw_866 (fun _ h9 => h9) rfl dX7_isChange_3 ?_
  refine lv_iconst (v := 1) hx hb dX7_isChange_6 (by decide) ?_
  refine lv_isub hx hb dX7_isChange_7 ?_
  refine rc_topi 0 (by decide) ?_
  refine rc_calli (wr := [(h0, .inr (12, [.int 0, .ref h1, .ref h2, .ref h3, .ref h4, .ref h5, .int 1, .int 3, .int 50, .int (-1), .int (-1), .int (-1), .int (-1), .int 0, .int 100, .int 1000, .long 0]))]) (va_runS (As := [.int 0, .int 0, .int 0]) (rest := []) (Ts := []) ⟨hx, hb, hml, hown, fun _ h9 => absurd h9 List.not_mem_nil⟩ (cw_X7_is_54 l E _) (rc_cwS hAm qw_921 qw_13 qw_923 qw_922 rfl rfl hd_X7_is ⟨Nat.le_of_ble_eq_true rfl, Nat.le_of_ble_eq_true rfl⟩) (rc_preS hAm hA hw [] rfl rfl) rfl rfl hl.1 rfl (lv_room (Nat.le_of_ble_eq_true rfl)) dX7_isChange_8 ⟨Nat.le_of_ble_eq_true rfl, Nat.le_of_ble_eq_true rfl⟩) hA hw [] [0] rfl rfl rfl (by decide) (fun r_1 u_2 H locs hp hw => ?_)
  obtain ⟨rfl, rfl⟩ := hp
  have hw : rc_W E A s [(h0, .inr (12, [.int 0, .ref h1, .ref h2, .ref h3, .ref h4, .ref h5, .int 1, .int 3, .int 50, .int (-1), .int (-1), .int (-1), .int (-1), .int 0, .int 100, .int 1000, .long 0]))] H locs := hw
  exact rc_zret (v := 1) hx hb hr hlocks hw rfl [(h0, .inr (12, [.int 0, .ref h1, .ref h2, .ref h3, .ref h4, .ref h5, .int 1, .int 3, .int 50, .int (-1), .int (-1), .int (-1), .int (-1), .int 0, .int 100, .int 1000, .long 0]))] (⟨rfl, rfl⟩) [0] rfl (by decide) (Nat.le_of_ble_eq_true rfl) (Nat.le_of_ble_eq_true rfl) dX7_isChange_11
set_option maxHeartbeats 4000000 in
set_option maxRecDepth 100000 in
theorem cw_X7_run_2 (l : Launch) (E : rc_E) (sz : Nat) (h0 : Nat) (x0 : Int32) (x1 : Int32) (h1 : Nat) (h2 : Nat) (h3 : Nat) (h4 : Nat) (h5 : Nat) : rc_Mi l yX7_run [Cond.code yX7_run cX7_run 5 (some FieldType.int)] { frames := 2, cells := 0, slots := 0, locals := 43 } E [.ref h0, .int 0, .int x0, .int x1] [(h0, .inr (12, [.int 0, .ref h1, .ref h2, .ref h3, .ref h4, .ref h5, .int 1, .int 3, .int 50, .int (-1), .int (-1), .int (-1), .int (-1), .int 0, .int 100, .int 1000, .long 0])), (h2, .inr (4, [.int 0, .ref (E.2.2 0), .int 0]))] sz (S := va_W) (fun (r : Int32) (u : va_W) => (x0 < 0 ∧ 0 = r ∧ u = [(h0, .inr (12, [.int 1, .ref h1, .ref h2, .ref h3, .ref h4, .ref h5, .int 1, .int 3, .int 50, .int (-1), .int (-1), .int (-1), .int (-1), .int 0, .int 100, .int 1000, .long 0])), (h2, .inr (4, [.int 0, .ref (E.2.2 0), .int 0]))]) ∨ (¬ x0 < 0 ∧ 0 = r ∧ u = [(h0, .inr (12, [.int 1, .ref h1, .ref h2, .ref h3, .ref h4, .ref h5, .int 1, .int 3, .int 50, .int (-1), .int (-1), .int (-1), .int (-1), .int 0, .int 100, .int 1000, .long 0])), (h2, .inr (4, [.int 0, .ref (E.2.2 0), .int 0]))])) (fun u => u) 0 0 := by
  refine rc_ini (cc := cX7_run) (maxL := 5) (ret := (some FieldType.int)) (by decide) rfl (Nat.le_of_ble_eq_true rfl) ?_
  intro p e s m args below meth c ls A hx hb hr hml _ hown hlocks hin hA hAm hw hl
  have hown : s.vm.findClass RX7 = some m.cls := hown
  have hl : lv_has ls 5 [(0, .ref h0), (1, .int 0), (2, .int x0), (3, .int x1)] := hl
  refine lv_aload_n hx hb dX7_run_0 rfl (lv_at hl 0 rfl) ?_
  refine lv_iconst (v := 0) hx hb dX7_run_1 (by decide) ?_
  refine rc_put hx hb hown hAm hw lyX7 tyX7 tyX7_ok nmX7 0 rfl rfl 0 (by decide) qw_860 (fun _ h9 => h9) rfl rfl (by decide +kernel) (Nat.le_of_ble_eq_true rfl) [(h0, .inr (12, [.int 0, .ref h1, .ref h2, .ref h3, .ref h4, .ref h5, .int 1, .int 3, .int 50, .int (-1), .int (-1), .int (-1), .int (-1), .int 0, .int 100, .int 1000, .long 0])), (h2, .inr (4, [.int 0, .ref (E.2.2 0), .int 0]))] rfl dX7_run_2 (fun H locs hw => ?_)
  refine lv_aload_n hx hb dX7_run_5 rfl (lv_at hl 0 rfl) ?_
  refine lv_iload_n hx hb dX7_run_6 rfl (lv_at hl 1 rfl) ?_
  refine rc_calli (wr := [(h2, .inr (4, [.int 0, .ref (E.2.2 0), .int 0]))]) (va_runV (As := [.int 0]) (rest := []) (Ts := []) ⟨hx, hb, hml, hown, fun _ h9 => absurd h9 List.not_mem_nil⟩ (cw_X7_isChange_2 l E _ h0 h1 h2 h3 h4 h5) (rc_cwV hAm qw_1353 qw_13 qw_1356 qw_1355 qs_62 rfl rfl hd_X7_isChange ⟨Nat.le_of_ble_eq_true rfl, Nat.le_of_ble_eq_true rfl⟩) (rc_preV hAm hA hw [0] rfl rfl 0 rfl (q := vwCl[12]) rfl) rfl rfl hl.1 rfl (lv_room (Nat.le_of_ble_eq_true rfl)) dX7_run_7 ⟨Nat.le_of_ble_eq_true rfl, Nat.le_of_ble_eq_true rfl⟩) hA hw [0] [1] rfl rfl rfl (by decide) (fun r_1 u_2 H locs hp hw => ?_)
  obtain ⟨rfl, rfl⟩ := hp
  have hw : rc_W E A s [(h2, .inr (4, [.int 0, .ref (E.2.2 0), .int 0])), (h0, .inr (12, [.int 0, .ref h1, .ref h2, .ref h3, .ref h4, .ref h5, .int 1, .int 3, .int 50, .int (-1), .int (-1), .int (-1), .int (-1), .int 0, .int 100, .int 1000, .long 0]))] H locs := hw
  refine lv_if_eq (tgt := 21) hx hb dX7_run_10 (by decide) (fun c9 => absurd c9 (by decide)) (fun _ => ?_)
  refine lv_aload_n hx hb dX7_run_13 rfl (lv_at hl 0 rfl) ?_
  refine lv_iload_n hx hb dX7_run_14 rfl (lv_at hl 2 rfl) ?_
  refine rc_calli (wr := []) (va_runV (As := [.int x0]) (rest := []) (Ts := []) ⟨hx, hb, hml, hown, fun _ h9 => absurd h9 List.not_mem_nil⟩ (cw_X7_isMachine l E _ h0 x0 h1 h2 h3 h4 h5) (rc_cwV hAm qw_954 qw_13 qw_957 qw_956 qs_51 rfl rfl hd_X7_isMachine ⟨Nat.le_of_ble_eq_true rfl, Nat.le_of_ble_eq_true rfl⟩) (rc_preV hAm hA hw [1, 0] rfl rfl 1 rfl (q := vwCl[12]) rfl) rfl rfl hl.1 rfl (lv_room (Nat.le_of_ble_eq_true rfl)) dX7_run_15 ⟨Nat.le_of_ble_eq_true rfl, Nat.le_of_ble_eq_true rfl⟩) hA hw [1, 0] [] rfl rfl rfl (by decide) (fun r_3 u_4 H locs hp hw => ?_)
  rcases hp with ⟨c_5, rfl, rfl⟩ | ⟨c_6, rfl, rfl⟩
  · have hw : rc_W E A s [(h0, .inr (12, [.int 0, .ref h1, .ref h2, .ref h3, .ref h4, .ref h5, .int 1, .int 3, .int 50, .int (-1), .int (-1), .int (-1), .int (-1), .int 0, .int 100, .int 1000, .long 0])), (h2, .inr (4, [.int 0, .ref (E.2.2 0), .int 0]))] H locs := hw
    refine lv_if_ne (tgt := 27) hx hb dX7_run_18 (by decide) (fun c9 => absurd (by decide) c9) (fun _ => ?_)
    refine lv_aload_n hx hb dX7_run_21 rfl (lv_at hl 0 rfl) ?_
    refine lv_iconst (v := 1) hx hb dX7_run_22 (by decide) ?_
    refine rc_calli (wr := [(h2, .inr (4, [.int 0, .ref (E.2.2 0), .int 0]))]) (va_runV (As := [.int 1]) (rest := []) (Ts := []) ⟨hx, hb, hml, hown, fun _ h9 => absurd h9 List.not_mem_nil⟩ (cw_X7_refuse l E _ h0 h1 h2 h3 h4 h5) (rc_cwV hAm qw_924 qw_13 qw_927 qw_926 qs_50 rfl rfl hd_X7_refuse ⟨Nat.le_of_ble_eq_true rfl, Nat.le_of_ble_eq_true rfl⟩) (rc_preV hAm hA hw [0] rfl rfl 0 rfl (q := vwCl[12]) rfl) rfl rfl hl.1 rfl (lv_room (Nat.le_of_ble_eq_true rfl)) dX7_run_23 ⟨Nat.le_of_ble_eq_true rfl, Nat.le_of_ble_eq_true rfl⟩) hA hw [0] [1] rfl rfl rfl (by decide) (fun r_7 u_8 H locs hp hw => ?_)
    obtain ⟨rfl, rfl⟩ := hp
    have hw : rc_W E A s [(h2, .inr (4, [.int 0, .ref (E.2.2 0), .int 0])), (h0, .inr (12, [.int 1, .ref h1, .ref h2, .ref h3, .ref h4, .ref h5, .int 1, .int 3, .int 50, .int (-1), .int (-1), .int (-1), .int (-1), .int 0, .int 100, .int 1000, .long 0]))] H locs := hw
    exact rc_iret (v := 0) hx hb hr hlocks hw [(h0, .inr (12, [.int 1, .ref h1, .ref h2, .ref h3, .ref h4, .ref h5, .int 1, .int 3, .int 50, .int (-1), .int (-1), .int (-1), .int (-1), .int 0, .int 100, .int 1000, .long 0])), (h2, .inr (4, [.int 0, .ref (E.2.2 0), .int 0]))] (Or.inl ⟨c_5, rfl, rfl⟩) [1, 0] rfl (by decide) (Nat.le_of_ble_eq_true rfl) (Nat.le_of_ble_eq_true rfl) dX7_run_26
  · have hw : rc_W E A s [(h0, .inr (12, [.int 0, .ref h1, .ref h2, .ref h3, .ref h4, .ref h5, .int 1, .int 3, .int 50, .int (-1), .int (-1), .int (-1), .int (-1), .int 0, .int 100, .int 1000, .long 0])), (h2, .inr (4, [.int 0, .ref (E.2.2 0), .int 0]))] H locs := hw
    refine lv_if_ne (tgt := 27) hx hb dX7_run_18 (by decide) (fun c9 => absurd (by decide) c9) (fun _ => ?_)
    refine lv_aload_n hx hb dX7_run_21 rfl (lv_at hl 0 rfl) ?_
    refine lv_iconst (v := 1) hx hb dX7_run_22 (by decide) ?_
    refine rc_calli (wr := [(h2, .inr (4, [.int 0, .ref (E.2.2 0), .int 0]))]) (va_runV (As := [.int 1]) (rest := []) (Ts := []) ⟨hx, hb, hml, hown, fun _ h9 => absurd h9 List.not_mem_nil⟩ (cw_X7_refuse l E _ h0 h1 h2 h3 h4 h5) (rc_cwV hAm qw_924 qw_13 qw_927 qw_926 qs_50 rfl rfl hd_X7_refuse ⟨Nat.le_of_ble_eq_true rfl, Nat.le_of_ble_eq_true rfl⟩) (rc_preV hAm hA hw [0] rfl rfl 0 rfl (q := vwCl[12]) rfl) rfl rfl hl.1 rfl (lv_room (Nat.le_of_ble_eq_true rfl)) dX7_run_23 ⟨Nat.le_of_ble_eq_true rfl, Nat.le_of_ble_eq_true rfl⟩) hA hw [0] [1] rfl rfl rfl (by decide) (fun r_9 u_10 H locs hp hw => ?_)
    obtain ⟨rfl, rfl⟩ := hp
    have hw : rc_W E A s [(h2, .inr (4, [.int 0, .ref (E.2.2 0), .int 0])), (h0, .inr (12, [.int 1, .ref h1, .ref h2, .ref h3, .ref h4, .ref h5, .int 1, .int 3, .int 50, .int (-1), .int (-1), .int (-1), .int (-1), .int 0, .int 100, .int 1000, .long 0]))] H locs := hw
    exact rc_iret (v := 0) hx hb hr hlocks hw [(h0, .inr (12, [.int 1, .ref h1, .ref h2, .ref h3, .ref h4, .ref h5, .int 1, .int 3, .int 50, .int (-1), .int (-1), .int (-1), .int (-1), .int 0, .int 100, .int 1000, .long 0])), (h2, .inr (4, [.int 0, .ref (E.2.2 0), .int 0]))] (Or.inr ⟨c_6, rfl, rfl⟩) [1, 0] rfl (by decide) (Nat.le_of_ble_eq_true rfl) (Nat.le_of_ble_eq_true rfl) dX7_run_26
theorem hd_L_strike : yL_strike.cls ≠ "java/lang/invoke/MethodHandle" ∧ yL_strike.cls ≠ "java/lang/invoke/VarHandle" ∧ (parseMethodDescriptor yL_strike.desc).map (fun d => d.parameters.length) = some 3 := by decide +kernel
theorem hd_X7_strike : yX7_strike.cls ≠ "java/lang/invoke/MethodHandle" ∧ yX7_strike.cls ≠ "java/lang/invoke/VarHandle" ∧ (parseMethodDescriptor yX7_strike.desc).map (fun d => d.parameters.length) = some 1 := by decide +kernel
theorem hd_L_ofRun : yL_ofRun.cls ≠ "java/lang/invoke/MethodHandle" ∧ yL_ofRun.cls ≠ "java/lang/invoke/VarHandle" ∧ (parseMethodDescriptor yL_ofRun.desc).map (fun d => d.parameters.length) = some 4 := by decide +kernel
theorem hd_X7_ofRun : yX7_ofRun.cls ≠ "java/lang/invoke/MethodHandle" ∧ yX7_ofRun.cls ≠ "java/lang/invoke/VarHandle" ∧ (parseMethodDescriptor yX7_ofRun.desc).map (fun d => d.parameters.length) = some 2 := by decide +kernel
theorem hd_L_ofChange : yL_ofChange.cls ≠ "java/lang/invoke/MethodHandle" ∧ yL_ofChange.cls ≠ "java/lang/invoke/VarHandle" ∧ (parseMethodDescriptor yL_ofChange.desc).map (fun d => d.parameters.length) = some 4 := by decide +kernel
theorem hd_X7_ofChange : yX7_ofChange.cls ≠ "java/lang/invoke/MethodHandle" ∧ yX7_ofChange.cls ≠ "java/lang/invoke/VarHandle" ∧ (parseMethodDescriptor yX7_ofChange.desc).map (fun d => d.parameters.length) = some 2 := by decide +kernel
set_option maxHeartbeats 4000000 in
set_option maxRecDepth 100000 in
theorem cw_X7_ofChange_2 (l : Launch) (E : rc_E) (sz : Nat) (h0 : Nat) (x0 : Int32) (h1 : Nat) (h2 : Nat) (h3 : Nat) (h4 : Nat) (h5 : Nat) : rc_Mi l yX7_ofChange [Cond.code yX7_ofChange cX7_ofChange 3 (some FieldType.int)] { frames := 6, cells := 3, slots := 10, locals := 157 } E [.ref h0, .int 0, .int x0] [(h0, .inr (12, [.int 0, .ref h1, .ref h2, .ref h3, .ref h4, .ref h5, .int 1, .int 3, .int 50, .int (-1), .int (-1), .int (-1), .int (-1), .int 0, .int 100, .int 1000, .long 0])), (h3, .inr (4, [.int 0, .ref (E.2.2 0), .int 0])), (h4, .inl (E.2.1 3, 40, .inl (fun _ => 0))), (h5, .inl (E.2.1 3, 40, .inl (fun _ => 0)))] sz (S := va_W) (fun (r : Int32) (u : va_W) => (x0 < 0 ∧ 0 = r ∧ u = [(h0, .inr (12, [.int 2, .ref h1, .ref h2, .ref h3, .ref h4, .ref h5, .int 1, .int 3, .int 50, .int (-1), .int (-1), .int (-1), .int (-1), .int 0, .int 100, .int 1000, .long 0])), (h3, .inr (4, [.int 0, .ref (E.2.2 0), .int 0])), (h4, .inl (E.2.1 3, 40, .inl (fun _ => 0))), (h5, .inl (E.2.1 3, 40, .inl (fun _ => 0)))]) ∨ (¬ x0 < 0 ∧ 5 < x0 ∧ 0 = r ∧ u = [(h0, .inr (12, [.int 2, .ref h1, .ref h2, .ref h3, .ref h4, .ref h5, .int 1, .int 3, .int 50, .int (-1), .int (-1), .int (-1), .int (-1), .int 0, .int 100, .int 1000, .long 0])), (h3, .inr (4, [.int 0, .ref (E.2.2 0), .int 0])), (h4, .inl (E.2.1 3, 40, .inl (fun _ => 0))), (h5, .inl (E.2.1 3, 40, .inl (fun _ => 0)))]) ∨ (x0 = 0 ∧ 0 = r ∧ u = [(h0, .inr (12, [.int 0, .ref h1, .ref h2, .ref h3, .ref h4, .ref h5, .int 1, .int 3, .int 50, .int (-1), .int (-1), .int (-1), .int (-1), .int 0, .int 100, .int 1000, .long 0])), (h3, .inr (4, [.int 0, .ref (E.2.2 0), .int 0])), (h4, .inl (E.2.1 3, 40, .inl (fun _ => 0))), (h5, .inl (E.2.1 3, 40, .inl (fun _ => 0)))]) ∨ (x0 = 1 ∧ 0 = r ∧ u = [(h0, .inr (12, [.int 0, .ref h1, .ref h2, .ref h3, .ref h4, .ref h5, .int 1, .int 3, .int 50, .int (-1), .int (-1), .int (-1), .int (-1), .int 0, .int 100, .int 1000, .long 0])), (h3, .inr (4, [.int 0, .ref (E.2.2 0), .int 0])), (h4, .inl (E.2.1 3, 40, .inl (fun _ => 0))), (h5, .inl (E.2.1 3, 40, .inl (fun _ => 0)))]) ∨ (x0 = 2 ∧ (-1) = r ∧ u = [(h0, .inr (12, [.int 0, .ref h1, .ref h2, .ref h3, .ref h4, .ref h5, .int 1, .int 3, .int 50, .int (-1), .int (-1), .int (-1), .int (-1), .int 0, .int 100, .int 1000, .long 0])), (h3, .inr (4, [.int 0, .ref (E.2.2 0), .int 0])), (h4, .inl (E.2.1 3, 40, .inl (fun _ => 0))), (h5, .inl (E.2.1 3, 40, .inl (fun _ => 0)))]) ∨ (x0 = 3 ∧ (-1) = r ∧ u = [(h0, .inr (12, [.int 0, .ref h1, .ref h2, .ref h3, .ref h4, .ref h5, .int 1, .int 3, .int 50, .int (-1), .int (-1), .int (-1), .int (-1), .int 0, .int 100, .int 1000, .long 0])), (h3, .inr (4, [.int 0, .ref (E.2.2 0), .int 0])), (h4, .inl (E.2.1 3, 40, .inl (fun _ => 0))), (h5, .inl (E.2.1 3, 40, .inl (fun _ => 0)))]) ∨ (x0 = 4 ∧ (-1) = r ∧ u = [(h0, .inr (12, [.int 0, .ref h1, .ref h2, .ref h3, .ref h4, .ref h5, .int 1, .int 3, .int 50, .int (-1), .int (-1), .int (-1), .int (-1), .int 0, .int 100, .int 1000, .long 0])), (h3, .inr (4, [.int 0, .ref (E.2.2 0), .int 0])), (h4, .inl (E.2.1 3, 40, .inl (fun _ => 0))), (h5, .inl (E.2.1 3, 40, .inl (fun _ => 0)))]) ∨ (x0 = 5 ∧ 0 = r ∧ u = [(h0, .inr (12, [.int 0, .ref h1, .ref h2, .ref h3, .ref h4, .ref h5, .int 1, .int 3, .int 50, .int (-1), .int (-1), .int (-1), .int (-1), .int 0, .int 100, .int 1000, .long 0])), (h3, .inr (4, [.int 0, .ref (E.2.2 0), .int 0])), (h4, .inl (E.2.1 3, 40, .inl (fun _ => 0))), (h5, .inl (E.2.1 3, 40, .inl (fun _ => 0)))])) (fun u => u) 3 10 := by
  refine rc_ini (cc := cX7_ofChange) (maxL := 3) (ret := (some FieldType.int)) (by decide) rfl (Nat.le_of_ble_eq_true rfl) ?_
  intro p e s m args below meth c ls A hx hb hr hml _ hown hlocks hin hA hAm hw hl
  have hown : s.vm.findClass RX7 = some m.cls := hown
  have hl : lv_has ls 3 [(0, .ref h0), (1, .int 0), (2, .int x0)] := hl
  refine lv_aload_n hx hb dX7_ofChange_0 rfl (lv_at hl 0 rfl) ?_
  refine lv_iconst (v := 0) hx hb dX7_ofChange_1 (by decide) ?_
  refine rc_put hx hb hown hAm hw lyX7 tyX7 tyX7_ok nmX7 0 rfl rfl 0 (by decide) qw_860 (fun _ h9 => h9) rfl rfl (by decide +kernel) (Nat.le_of_ble_eq_true rfl) [(h0, .inr (12, [.int 0, .ref h1, .ref h2, .ref h3, .ref h4, .ref h5, .int 1, .int 3, .int 50, .int (-1), .int (-1), .int (-1), .int (-1), .int 0, .int 100, .int 1000, .long 0])), (h3, .inr (4, [.int 0, .ref (E.2.2 0), .int 0])), (h4, .inl (E.2.1 3, 40, .inl (fun _ => 0))), (h5, .inl (E.2.1 3, 40, .inl (fun _ => 0)))] rfl dX7_ofChange_2 (fun H locs hw => ?_)
  refine lv_aload_n hx hb dX7_ofChange_5 rfl (lv_at hl 0 rfl) ?_
  refine lv_iload_n hx hb dX7_ofChange_6 rfl (lv_at hl 1 rfl) ?_
  refine rc_calli (wr := [(h3, .inr (4, [.int 0, .ref (E.2.2 0), .int 0])), (h4, .inl (E.2.1 3, 40, .inl (fun _ => 0))), (h5, .inl (E.2.1 3, 40, .inl (fun _ => 0)))]) (va_runV (As := [.int 0]) (rest := []) (Ts := []) ⟨hx, hb, hml, hown, fun _ h9 => absurd h9 List.not_mem_nil⟩ (cw_X7_isChange_2 l E _ h0 h1 h2 h3 h4 h5) (rc_cwV hAm qw_1353 qw_13 qw_1356 qw_1355 qs_62 rfl rfl hd_X7_isChange ⟨Nat.le_of_ble_eq_true rfl, Nat.le_of_ble_eq_true rfl⟩) (rc_preV hAm hA hw [0] rfl rfl 0 rfl (q := vwCl[12]) rfl) rfl rfl hl.1 rfl (lv_room (Nat.le_of_ble_eq_true rfl)) dX7_ofChange_7 ⟨Nat.le_of_ble_eq_true rfl, Nat.le_of_ble_eq_true rfl⟩) hA hw [0] [1, 2, 3] rfl rfl rfl (by decide) (fun r_1 u_2 H locs hp hw => ?_)
  obtain ⟨rfl, rfl⟩ := hp
  have hw : rc_W E A s [(h3, .inr (4, [.int 0, .ref (E.2.2 0), .int 0])), (h4, .inl (E.2.1 3, 40, .inl (fun _ => 0))), (h5, .inl (E.2.1 3, 40, .inl (fun _ => 0))), (h0, .inr (12, [.int 0, .ref h1, .ref h2, .ref h3, .ref h4, .ref h5, .int 1, .int 3, .int 50, .int (-1), .int (-1), .int (-1), .int (-1), .int 0, .int 100, .int 1000, .long 0]))] H locs := hw
  refine lv_if_ne (tgt := 19) hx hb dX7_ofChange_10 (by decide) (fun _ => ?_) (fun c9 => absurd c9 (by decide))
  refine lv_iload_n hx hb dX7_ofChange_19 rfl (lv_at hl 2 rfl) ?_
  refine lv_iconst (v := 0) hx hb dX7_ofChange_20 (by decide) ?_
  refine lv_iconst (v := 5) hx hb dX7_ofChange_21 (by decide) ?_
  refine rc_calli (wr := [(h3, .inr (4, [.int 0, .ref (E.2.2 0), .int 0])), (h4, .inl (E.2.1 3, 40, .inl (fun _ => 0))), (h5, .inl (E.2.1 3, 40, .inl (fun _ => 0))), (h0, .inr (12, [.int 0, .ref h1, .ref h2, .ref h3, .ref h4, .ref h5, .int 1, .int 3, .int 50, .int (-1), .int (-1), .int (-1), .int (-1), .int 0, .int 100, .int 1000, .long 0]))]) (va_runS (As := [.int x0, .int 0, .int 5]) (rest := []) (Ts := []) ⟨hx, hb, hml, hown, fun _ h9 => absurd h9 List.not_mem_nil⟩ (cw_X7_is_3 l E _ x0) (rc_cwS hAm qw_921 qw_13 qw_923 qw_922 rfl rfl hd_X7_is ⟨Nat.le_of_ble_eq_true rfl, Nat.le_of_ble_eq_true rfl⟩) (rc_preS hAm hA hw [] rfl rfl) rfl rfl hl.1 rfl (lv_room (Nat.le_of_ble_eq_true rfl)) dX7_ofChange_22 ⟨Nat.le_of_ble_eq_true rfl, Nat.le_of_ble_eq_true rfl⟩) hA hw [] [0, 1, 2, 3] rfl rfl rfl (by decide) (fun r_3 u_4 H locs hp hw => ?_)
  rcases hp with ⟨c_5, rfl, rfl⟩ | ⟨c_6, c_7, rfl, rfl⟩ | ⟨c_8, c_9, rfl, rfl⟩
  · have hw : rc_W E A s [(h3, .inr (4, [.int 0, .ref (E.2.2 0), .int 0])), (h4, .inl (E.2.1 3, 40, .inl (fun _ => 0))), (h5, .inl (E.2.1 3, 40, .inl (fun _ => 0))), (h0, .inr (12, [.int 0, .ref h1, .ref h2, .ref h3, .ref h4, .ref h5, .int 1, .int 3, .int 50, .int (-1), .int (-1), .int (-1), .int (-1), .int 0, .int 100, .int 1000, .long 0]))] H locs := hw
    refine lv_if_eq (tgt := 37) hx hb dX7_ofChange_25 (by decide) (fun _ => ?_) (fun c9 => absurd (by decide) c9)
    refine lv_aload_n hx hb dX7_ofChange_37 rfl (lv_at hl 0 rfl) ?_
    refine lv_iconst (v := 2) hx hb dX7_ofChange_38 (by decide) ?_
    refine rc_calli (wr := [(h3, .inr (4, [.int 0, .ref (E.2.2 0), .int 0])), (h4, .inl (E.2.1 3, 40, .inl (fun _ => 0))), (h5, .inl (E.2.1 3, 40, .inl (fun _ => 0)))]) (va_runV (As := [.int 2]) (rest := []) (Ts := []) ⟨hx, hb, hml, hown, fun _ h9 => absurd h9 List.not_mem_nil⟩ (cw_X7_refuse_2 l E _ h0 h1 h2 h3 h4 h5) (rc_cwV hAm qw_924 qw_13 qw_927 qw_926 qs_50 rfl rfl hd_X7_refuse ⟨Nat.le_of_ble_eq_true rfl, Nat.le_of_ble_eq_true rfl⟩) (rc_preV hAm hA hw [3] rfl rfl 3 rfl (q := vwCl[12]) rfl) rfl rfl hl.1 rfl (lv_room (Nat.le_of_ble_eq_true rfl)) dX7_ofChange_39 ⟨Nat.le_of_ble_eq_true rfl, Nat.le_of_ble_eq_true rfl⟩) hA hw [3] [0, 1, 2] rfl rfl rfl (by decide) (fun r_10 u_11 H locs hp hw => ?_)
    obtain ⟨rfl, rfl⟩ := hp
    have hw : rc_W E A s [(h3, .inr (4, [.int 0, .ref (E.2.2 0), .int 0])), (h4, .inl (E.2.1 3, 40, .inl (fun _ => 0))), (h5, .inl (E.2.1 3, 40, .inl (fun _ => 0))), (h0, .inr (12, [.int 2, .ref h1, .ref h2, .ref h3, .ref h4, .ref h5, .int 1, .int 3, .int 50, .int (-1), .int (-1), .int (-1), .int (-1), .int 0, .int 100, .int 1000, .long 0]))] H locs := hw
    exact rc_iret (v := 0) hx hb hr hlocks hw [(h0, .inr (12, [.int 2, .ref h1, .ref h2, .ref h3, .ref h4, .ref h5, .int 1, .int 3, .int 50, .int (-1), .int (-1), .int (-1), .int (-1), .int 0, .int 100, .int 1000, .long 0])), (h3, .inr (4, [.int 0, .ref (E.2.2 0), .int 0])), (h4, .inl (E.2.1 3, 40, .inl (fun _ => 0))), (h5, .inl (E.2.1 3, 40, .inl (fun _ => 0)))] (Or.inl ⟨c_5, rfl, rfl⟩) [3, 0, 1, 2] rfl (by decide) (Nat.le_of_ble_eq_true rfl) (Nat.le_of_ble_eq_true rfl) dX7_ofChange_42
  · have hw : rc_W E A s [(h3, .inr (4, [.int 0, .ref (E.2.2 0), .int 0])), (h4, .inl (E.2.1 3, 40, .inl (fun _ => 0))), (h5, .inl (E.2.1 3, 40, .inl (fun _ => 0))), (h0, .inr (12, [.int 0, .ref h1, .ref h2, .ref h3, .ref h4, .ref h5, .int 1, .int 3, .int 50, .int (-1), .int (-1), .int (-1), .int (-1), .int 0, .int 100, .int 1000, .long 0]))] H locs := hw
    refine lv_if_eq (tgt := 37) hx hb dX7_ofChange_25 (by decide) (fun _ => ?_) (fun c9 => absurd (by decide) c9)
    refine lv_aload_n hx hb dX7_ofChange_37 rfl (lv_at hl 0 rfl) ?_
    refine lv_iconst (v := 2) hx hb dX7_ofChange_38 (by decide) ?_
    refine rc_calli (wr := [(h3, .inr (4, [.int 0, .ref (E.2.2 0), .int 0])), (h4, .inl (E.2.1 3, 40, .inl (fun _ => 0))), (h5, .inl (E.2.1 3, 40, .inl (fun _ => 0)))]) (va_runV (As := [.int 2]) (rest := []) (Ts := []) ⟨hx, hb, hml, hown, fun _ h9 => absurd h9 List.not_mem_nil⟩ (cw_X7_refuse_2 l E _ h0 h1 h2 h3 h4 h5) (rc_cwV hAm qw_924 qw_13 qw_927 qw_926 qs_50 rfl rfl hd_X7_refuse ⟨Nat.le_of_ble_eq_true rfl, Nat.le_of_ble_eq_true rfl⟩) (rc_preV hAm hA hw [3] rfl rfl 3 rfl (q := vwCl[12]) rfl) rfl rfl hl.1 rfl (lv_room (Nat.le_of_ble_eq_true rfl)) dX7_ofChange_39 ⟨Nat.le_of_ble_eq_true rfl, Nat.le_of_ble_eq_true rfl⟩) hA hw [3] [0, 1, 2] rfl rfl rfl (by decide) (fun r_12 u_13 H locs hp hw => ?_)
    obtain ⟨rfl, rfl⟩ := hp
    have hw : rc_W E A s [(h3, .inr (4, [.int 0, .ref (E.2.2 0), .int 0])), (h4, .inl (E.2.1 3, 40, .inl (fun _ => 0))), (h5, .inl (E.2.1 3, 40, .inl (fun _ => 0))), (h0, .inr (12, [.int 2, .ref h1, .ref h2, .ref h3, .ref h4, .ref h5, .int 1, .int 3, .int 50, .int (-1), .int (-1), .int (-1), .int (-1), .int 0, .int 100, .int 1000, .long 0]))] H locs := hw
    exact rc_iret (v := 0) hx hb hr hlocks hw [(h0, .inr (12, [.int 2, .ref h1, .ref h2, .ref h3, .ref h4, .ref h5, .int 1, .int 3, .int 50, .int (-1), .int (-1), .int (-1), .int (-1), .int 0, .int 100, .int 1000, .long 0])), (h3, .inr (4, [.int 0, .ref (E.2.2 0), .int 0])), (h4, .inl (E.2.1 3, 40, .inl (fun _ => 0))), (h5, .inl (E.2.1 3, 40, .inl (fun _ => 0)))] (Or.inr (Or.inl ⟨c_6, c_7, rfl, rfl⟩)) [3, 0, 1, 2] rfl (by decide) (Nat.le_of_ble_eq_true rfl) (Nat.le_of_ble_eq_true rfl) dX7_ofChange_42
  · have hw : rc_W E A s [(h3, .inr (4, [.int 0, .ref (E.2.2 0), .int 0])), (h4, .inl (E.2.1 3, 40, .inl (fun _ => 0))), (h5, .inl (E.2.1 3, 40, .inl (fun _ => 0))), (h0, .inr (12, [.int 0, .ref h1, .ref h2, .ref h3, .ref h4, .ref h5, .int 1, .int 3, .int 50, .int (-1), .int (-1), .int (-1), .int (-1), .int 0, .int 100, .int 1000, .long 0]))] H locs := hw
    refine lv_if_eq (tgt := 37) hx hb dX7_ofChange_25 (by decide) (fun c9 => absurd c9 (by decide)) (fun _ => ?_)
    refine lv_aload_n hx hb dX7_ofChange_28 rfl (lv_at hl 0 rfl) ?_
    refine lv_iload_n hx hb dX7_ofChange_29 rfl (lv_at hl 1 rfl) ?_
    refine lv_iload_n hx hb dX7_ofChange_30 rfl (lv_at hl 2 rfl) ?_
    refine rc_calli (wr := []) (va_runV (As := [.int 0, .int x0]) (rest := []) (Ts := []) ⟨hx, hb, hml, hown, fun _ h9 => absurd h9 List.not_mem_nil⟩ (cw_X7_ofChangeNow l E _ h0 x0 h1 h2 h3 h4 h5) (rc_cwV hAm qw_1377 qw_13 qw_1380 qw_1379 qs_65 rfl rfl hd_X7_ofChangeNow ⟨Nat.le_of_ble_eq_true rfl, Nat.le_of_ble_eq_true rfl⟩) (rc_preV hAm hA hw [3, 0, 1, 2] rfl rfl 3 rfl (q := vwCl[12]) rfl) rfl rfl hl.1 rfl (lv_room (Nat.le_of_ble_eq_true rfl)) dX7_ofChange_31 ⟨Nat.le_of_ble_eq_true rfl, Nat.le_of_ble_eq_true rfl⟩) hA hw [3, 0, 1, 2] [] rfl rfl rfl (by decide) (fun r_14 u_15 H locs hp hw => ?_)
    rcases hp with ⟨c_16, rfl, rfl⟩ | ⟨c_17, c_18, rfl, rfl⟩ | ⟨c_19, c_20, c_21, rfl, rfl⟩ | ⟨c_22, c_23, c_24, c_25, rfl, rfl⟩ | ⟨c_26, c_27, c_28, c_29, c_30, rfl, rfl⟩ | ⟨c_31, c_32, c_33, c_34, c_35, rfl, rfl⟩
    · obtain rfl : x0 = 0 := rc_eqc (b := 0) rfl (by have g_c_8 := rc_n1 (b := 0) c_8 rfl; have g_c_9 := rc_n2 (b := 5) c_9 rfl; have g_c_16 := rc_g5 (b := 0) c_16 rfl; omega)
      have hw : rc_W E A s [(h0, .inr (12, [.int 0, .ref h1, .ref h2, .ref h3, .ref h4, .ref h5, .int 1, .int 3, .int 50, .int (-1), .int (-1), .int (-1), .int (-1), .int 0, .int 100, .int 1000, .long 0])), (h3, .inr (4, [.int 0, .ref (E.2.2 0), .int 0])), (h4, .inl (E.2.1 3, 40, .inl (fun _ => 0))), (h5, .inl (E.2.1 3, 40, .inl (fun _ => 0)))] H locs := hw
      refine lv_goto (tgt := 42) hx hb dX7_ofChange_34 (by decide) ?_
      exact rc_iret (v := 0) hx hb hr hlocks hw [(h0, .inr (12, [.int 0, .ref h1, .ref h2, .ref h3, .ref h4, .ref h5, .int 1, .int 3, .int 50, .int (-1), .int (-1), .int (-1), .int (-1), .int 0, .int 100, .int 1000, .long 0])), (h3, .inr (4, [.int 0, .ref (E.2.2 0), .int 0])), (h4, .inl (E.2.1 3, 40, .inl (fun _ => 0))), (h5, .inl (E.2.1 3, 40, .inl (fun _ => 0)))] (Or.inr (Or.inr (Or.inl ⟨rfl, rfl, rfl⟩))) [0, 1, 2, 3] rfl (by decide) (Nat.le_of_ble_eq_true rfl) (Nat.le_of_ble_eq_true rfl) dX7_ofChange_42
    · obtain rfl : x0 = 1 := rc_eqc (b := 1) rfl (by have g_c_8 := rc_n1 (b := 0) c_8 rfl; have g_c_9 := rc_n2 (b := 5) c_9 rfl; have g_c_17 := rc_n5 (b := 0) c_17 rfl; have g_c_18 := rc_g5 (b := 1) c_18 rfl; omega)
      have hw : rc_W E A s [(h0, .inr (12, [.int 0, .ref h1, .ref h2, .ref h3, .ref h4, .ref h5, .int 1, .int 3, .int 50, .int (-1), .int (-1), .int (-1), .int (-1), .int 0, .int 100, .int 1000, .long 0])), (h3, .inr (4, [.int 0, .ref (E.2.2 0), .int 0])), (h4, .inl (E.2.1 3, 40, .inl (fun _ => 0))), (h5, .inl (E.2.1 3, 40, .inl (fun _ => 0)))] H locs := hw
      refine lv_goto (tgt := 42) hx hb dX7_ofChange_34 (by decide) ?_
      exact rc_iret (v := 0) hx hb hr hlocks hw [(h0, .inr (12, [.int 0, .ref h1, .ref h2, .ref h3, .ref h4, .ref h5, .int 1, .int 3, .int 50, .int (-1), .int (-1), .int (-1), .int (-1), .int 0, .int 100, .int 1000, .long 0])), (h3, .inr (4, [.int 0, .ref (E.2.2 0), .int 0])), (h4, .inl (E.2.1 3, 40, .inl (fun _ => 0))), (h5, .inl (E.2.1 3, 40, .inl (fun _ => 0)))] (Or.inr (Or.inr (Or.inr (Or.inl ⟨rfl, rfl, rfl⟩)))) [0, 1, 2, 3] rfl (by decide) (Nat.le_of_ble_eq_true rfl) (Nat.le_of_ble_eq_true rfl) dX7_ofChange_42
    · obtain rfl : x0 = 2 := rc_eqc (b := 2) rfl (by have g_c_8 := rc_n1 (b := 0) c_8 rfl; have g_c_9 := rc_n2 (b := 5) c_9 rfl; have g_c_19 := rc_n5 (b := 0) c_19 rfl; have g_c_20 := rc_n5 (b := 1) c_20 rfl; have g_c_21 := rc_g5 (b := 2) c_21 rfl; omega)
      have hw : rc_W E A s [(h0, .inr (12, [.int 0, .ref h1, .ref h2, .ref h3, .ref h4, .ref h5, .int 1, .int 3, .int 50, .int (-1), .int (-1), .int (-1), .int (-1), .int 0, .int 100, .int 1000, .long 0])), (h3, .inr (4, [.int 0, .ref (E.2.2 0), .int 0])), (h4, .inl (E.2.1 3, 40, .inl (fun _ => 0))), (h5, .inl (E.2.1 3, 40, .inl (fun _ => 0)))] H locs := hw
      refine lv_goto (tgt := 42) hx hb dX7_ofChange_34 (by decide) ?_
      exact rc_iret (v := (-1)) hx hb hr hlocks hw [(h0, .inr (12, [.int 0, .ref h1, .ref h2, .ref h3, .ref h4, .ref h5, .int 1, .int 3, .int 50, .int (-1), .int (-1), .int (-1), .int (-1), .int 0, .int 100, .int 1000, .long 0])), (h3, .inr (4, [.int 0, .ref (E.2.2 0), .int 0])), (h4, .inl (E.2.1 3, 40, .inl (fun _ => 0))), (h5, .inl (E.2.1 3, 40, .inl (fun _ => 0)))] (Or.inr (Or.inr (Or.inr (Or.inr (Or.inl ⟨rfl, rfl, rfl⟩))))) [0, 1, 2, 3] rfl (by decide) (Nat.le_of_ble_eq_true rfl) (Nat.le_of_ble_eq_true rfl) dX7_ofChange_42
    · obtain rfl : x0 = 3 := rc_eqc (b := 3) rfl (by have g_c_8 := rc_n1 (b := 0) c_8 rfl; have g_c_9 := rc_n2 (b := 5) c_9 rfl; have g_c_22 := rc_n5 (b := 0) c_22 rfl; have g_c_23 := rc_n5 (b := 1) c_23 rfl; have g_c_24 := rc_n5 (b := 2) c_24 rfl; have g_c_25 := rc_g5 (b := 3) c_25 rfl; omega)
      have hw : rc_W E A s [(h0, .inr (12, [.int 0, .ref h1, .ref h2, .ref h3, .ref h4, .ref h5, .int 1, .int 3, .int 50, .int (-1), .int (-1), .int (-1), .int (-1), .int 0, .int 100, .int 1000, .long 0])), (h3, .inr (4, [.int 0, .ref (E.2.2 0), .int 0])), (h4, .inl (E.2.1 3, 40, .inl (fun _ => 0))), (h5, .inl (E.2.1 3, 40, .inl (fun _ => 0)))] H locs := hw
      refine lv_goto (tgt := 42) hx hb dX7_ofChange_34 (by decide) ?_
      exact rc_iret (v := (-1)) hx hb hr hlocks hw [(h0, .inr (12, [.int 0, .ref h1, .ref h2, .ref h3, .ref h4, .ref h5, .int 1, .int 3, .int 50, .int (-1), .int (-1), .int (-1), .int (-1), .int 0, .int 100, .int 1000, .long 0])), (h3, .inr (4, [.int 0, .ref (E.2.2 0), .int 0])), (h4, .inl (E.2.1 3, 40, .inl (fun _ => 0))), (h5, .inl (E.2.1 3, 40, .inl (fun _ => 0)))] (Or.inr (Or.inr (Or.inr (Or.inr (Or.inr (Or.inl ⟨rfl, rfl, rfl⟩)))))) [0, 1, 2, 3] rfl (by decide) (Nat.le_of_ble_eq_true rfl) (Nat.le_of_ble_eq_true rfl) dX7_ofChange_42
    · obtain rfl : x0 = 4 := rc_eqc (b := 4) rfl (by have g_c_8 := rc_n1 (b := 0) c_8 rfl; have g_c_9 := rc_n2 (b := 5) c_9 rfl; have g_c_26 := rc_n5 (b := 0) c_26 rfl; have g_c_27 := rc_n5 (b := 1) c_27 rfl; have g_c_28 := rc_n5 (b := 2) c_28 rfl; have g_c_29 := rc_n5 (b := 3) c_29 rfl; have g_c_30 := rc_g5 (b := 4) c_30 rfl; omega)
      have hw : rc_W E A s [(h0, .inr (12, [.int 0, .ref h1, .ref h2, .ref h3, .ref h4, .ref h5, .int 1, .int 3, .int 50, .int (-1), .int (-1), .int (-1), .int (-1), .int 0, .int 100, .int 1000, .long 0])), (h3, .inr (4, [.int 0, .ref (E.2.2 0), .int 0])), (h4, .inl (E.2.1 3, 40, .inl (fun _ => 0))), (h5, .inl (E.2.1 3, 40, .inl (fun _ => 0)))] H locs := hw
      refine lv_goto (tgt := 42) hx hb dX7_ofChange_34 (by decide) ?_
      exact rc_iret (v := (-1)) hx hb hr hlocks hw [(h0, .inr (12, [.int 0, .ref h1, .ref h2, .ref h3, .ref h4, .ref h5, .int 1, .int 3, .int 50, .int (-1), .int (-1), .int (-1), .int (-1), .int 0, .int 100, .int 1000, .long 0])), (h3, .inr (4, [.int 0, .ref (E.2.2 0), .int 0])), (h4, .inl (E.2.1 3, 40, .inl (fun _ => 0))), (h5, .inl (E.2.1 3, 40, .inl (fun _ => 0)))] (Or.inr (Or.inr (Or.inr (Or.inr (Or.inr (Or.inr (Or.inl ⟨rfl, rfl, rfl⟩))))))) [0, 1, 2, 3] rfl (by decide) (Nat.le_of_ble_eq_true rfl) (Nat.le_of_ble_eq_true rfl) dX7_ofChange_42
    · obtain rfl : x0 = 5 := rc_eqc (b := 5) rfl (by have g_c_8 := rc_n1 (b := 0) c_8 rfl; have g_c_9 := rc_n2 (b := 5) c_9 rfl; have g_c_31 := rc_n5 (b := 0) c_31 rfl; have g_c_32 := rc_n5 (b := 1) c_32 rfl; have g_c_33 := rc_n5 (b := 2) c_33 rfl; have g_c_34 := rc_n5 (b := 3) c_34 rfl; have g_c_35 := rc_n5 (b := 4) c_35 rfl; omega)
      have hw : rc_W E A s [(h0, .inr (12, [.int 0, .ref h1, .ref h2, .ref h3, .ref h4, .ref h5, .int 1, .int 3, .int 50, .int (-1), .int (-1), .int (-1), .int (-1), .int 0, .int 100, .int 1000, .long 0])), (h3, .inr (4, [.int 0, .ref (E.2.2 0), .int 0])), (h4, .inl (E.2.1 3, 40, .inl (fun _ => 0))), (h5, .inl (E.2.1 3, 40, .inl (fun _ => 0)))] H locs := hw
      refine lv_goto (tgt := 42) hx hb dX7_ofChange_34 (by decide) ?_
      exact rc_iret (v := 0) hx hb hr hlocks hw [(h0, .inr (12, [.int 0, .ref h1, .ref h2, .ref h3, .ref h4, .ref h5, .int 1, .int 3, .int 50, .int (-1), .int (-1), .int (-1), .int (-1), .int 0, .int 100, .int 1000, .long 0])), (h3, .inr (4, [.int 0, .ref (E.2.2 0), .int 0])), (h4, .inl (E.2.1 3, 40, .inl (fun _ => 0))), (h5, .inl (E.2.1 3, 40, .inl (fun _ => 0)))] (Or.inr (Or.inr (Or.inr (Or.inr (Or.inr (Or.inr (Or.inr ⟨rfl, rfl, rfl⟩))))))) [0, 1, 2, 3] rfl (by decide) (Nat.le_of_ble_eq_true rfl) (Nat.le_of_ble_eq_true rfl) dX7_ofChange_42
set_option maxHeartbeats 4000000 in
set_option maxRecDepth 100000 in
theorem cw_X7_is_55 (l : Launch) (E : rc_E) (sz : Nat) : rc_Mi l yX7_is [Cond.code yX7_is cX7_is 3 (some FieldType.boolean)] { frames := 0, cells := 0, slots := 0, locals := 0 } E [.int 0, .int 0, .int 5] [] sz (S := va_W) (fun (r : Int32) (u : va_W) => (1 = r ∧ u = [])) (fun u => u) 0 0 := by
  refine rc_ini (cc := cX7_is) (maxL := 3) (ret := (some FieldType.boolean)) (by decide) rfl (Nat.le_of_ble_eq_true rfl) ?_
  intro p e s m args below meth c ls A hx hb hr hml _ hown hlocks hin hA hAm hw hl
  have hown : s.vm.findClass RX7 = some m.cls := hown
  have hl : lv_has ls 3 [(0, .int 0), (1, .int 0), (2, .int 5)] := hl
  refine lv_iload_n hx hb dX7_is_0 rfl (lv_at hl 0 rfl) ?_
  refine lv_iload_n hx hb dX7_is_1 rfl (lv_at hl 1 rfl) ?_
  refine lv_icmp_lt (tgt := 14) hx hb dX7_is_2 (by decide) (fun c9 => absurd c9 (by decide)) (fun _ => ?_)
  refine lv_iload_n hx hb dX7_is_5 rfl (lv_at hl 0 rfl) ?_
  refine lv_iload_n hx hb dX7_is_6 rfl (lv_at hl 2 rfl) ?_
  refine lv_icmp_gt (tgt := 14) hx hb dX7_is_7 (by decide) (fun c9 => absurd c9 (by decide)) (fun _ => ?_)
  refine lv_iconst (v := 1) hx hb dX7_is_10 (by decide) ?_
  refine lv_goto (tgt := 15) hx hb dX7_is_11 (by decide) ?_
  exact rc_zret (v := 1) hx hb hr hlocks hw rfl [] (⟨rfl, rfl⟩) [] rfl (by decide) (Nat.le_of_ble_eq_true rfl) (Nat.le_of_ble_eq_true rfl) dX7_is_15
set_option maxHeartbeats 4000000 in
set_option maxRecDepth 100000 in
theorem cw_X7_ofChangeNow_8 (l : Launch) (E : rc_E) (sz : Nat) (h0 : Nat) (h1 : Nat) (h2 : Nat) (h3 : Nat) (h4 : Nat) (h5 : Nat) : rc_Mi l yX7_ofChangeNow [Cond.code yX7_ofChangeNow cX7_ofChangeNow 6 (some FieldType.int)] { frames := 5, cells := 3, slots := 10, locals := 132 } E [.ref h0, .int 0, .int 0] [(h0, .inr (12, [.int 0, .ref h1, .ref h2, .ref h3, .ref h4, .ref h5, .int 1, .int 3, .int 50, .int (-1), .int (-1), .int (-1), .int (-1), .int 0, .int 100, .int 1000, .long 0])), (h3, .inr (4, [.int 0, .ref (E.2.2 0), .int 0]))] sz (S := va_W) (fun (r : Int32) (u : va_W) => (0 = r ∧ u = [(h0, .inr (12, [.int 0, .ref h1, .ref h2, .ref h3, .ref h4, .ref h5, .int 1, .int 3, .int 50, .int (-1), .int (-1), .int (-1), .int (-1), .int 0, .int 100, .int 1000, .long 0])), (h3, .inr (4, [.int 0, .ref (E.2.2 0), .int 0]))])) (fun u => u) 3 10 := by
  refine rc_ini (cc := cX7_ofChangeNow) (maxL := 6) (ret := (some FieldType.int)) (by decide) rfl (Nat.le_of_ble_eq_true rfl) ?_
  intro p e s m args below meth c ls A hx hb hr hml _ hown hlocks hin hA hAm hw hl
  have hown : s.vm.findClass RX7 = some m.cls := hown
  have hl : lv_has ls 6 [(0, .ref h0), (1, .int 0), (2, .int 0)] := hl
  refine lv_iconst (v := 0) hx hb dX7_ofChangeNow_0 (by decide) ?_
  refine lv_istore_n (lv' := [(3, .int 0), (0, .ref h0), (1, .int 0), (2, .int 0)]) hx hb dX7_ofChangeNow_1 rfl hl (by decide) rfl (fun ls hl => ?_)
  refine lv_aload_n hx hb dX7_ofChangeNow_2 rfl (lv_at hl 1 rfl) ?_
  refine rc_get (v := .ref h3) hx hb hown hAm hw lyX7 0 rfl rfl 3 (by decide) qw_863 (fun _ h9 => h9) rfl dX7_ofChangeNow_3 ?_
  refine rc_callr (wr := [(h0, .inr (12, [.int 0, .ref h1, .ref h2, .ref h3, .ref h4, .ref h5, .int 1, .int 3, .int 50, .int (-1), .int (-1), .int (-1), .int (-1), .int 0, .int 100, .int 1000, .long 0]))]) (va_runV (As := []) (rest := []) (Ts := []) ⟨hx, hb, hml, hown, fun _ h9 => absurd h9 List.not_mem_nil⟩ (cw_Jx4a65c_iterator_32c93 l E _ h3) (rc_cwV hAm qw_1295 qw_4 qw_1298 qw_1296 qw_1297 rfl rfl hd_Jx4a65c_iterator_32c93 ⟨Nat.le_of_ble_eq_true rfl, Nat.le_of_ble_eq_true rfl⟩) (rc_preV hAm hA hw [1] rfl rfl 1 rfl (q := vwCl[4]) rfl) rfl rfl hl.1 rfl (lv_room (Nat.le_of_ble_eq_true rfl)) dX7_ofChangeNow_6 ⟨Nat.le_of_ble_eq_true rfl, Nat.le_of_ble_eq_true rfl⟩) hA hw [1] [0] rfl rfl rfl (by decide) (fun u_2 r_1 H locs hp hw => ?_)
  obtain ⟨q1, rfl, rfl⟩ := hp
  have hw : rc_W E A s [(h0, .inr (12, [.int 0, .ref h1, .ref h2, .ref h3, .ref h4, .ref h5, .int 1, .int 3, .int 50, .int (-1), .int (-1), .int (-1), .int (-1), .int 0, .int 100, .int 1000, .long 0])), (h3, .inr (4, [.int 0, .ref (E.2.2 0), .int 0])), (q1, .inr (3, [.int 0, .int (-1), .int 0, .ref h3]))] H locs := hw
  refine lv_astore (lv' := [(4, .ref q1), (3, .int 0), (0, .ref h0), (1, .int 0), (2, .int 0)]) hx hb dX7_ofChangeNow_9 hl (by decide) rfl (fun ls hl => ?_)
  refine lv_aload hx hb dX7_ofChangeNow_11 (lv_at hl 0 rfl) ?_
  refine rc_callFi (wr := [(h0, .inr (12, [.int 0, .ref h1, .ref h2, .ref h3, .ref h4, .ref h5, .int 1, .int 3, .int 50, .int (-1), .int (-1), .int (-1), .int (-1), .int 0, .int 100, .int 1000, .long 0]))]) (va_runF (As := []) (rest := []) (Ts := []) ((hAm.K.1 3 _ rfl).2) ⟨hx, hb, hml, hown, fun _ h9 => absurd h9 List.not_mem_nil⟩ (cw_Jx35411_hasNext_aae02 l E _ q1 h3) (rc_cwF (C := "java/util/ArrayList$Itr") (n := 0) hAm qw_1319 qw_32 qw_1327 qw_1325 qw_1323 qw_1321 qw_1320 (by decide +kernel) qw_1326 qw_1324 qw_1322 rfl rfl (by decide +kernel) ⟨Nat.le_of_ble_eq_true rfl, Nat.le_of_ble_eq_true rfl⟩) (rc_preV hAm hA hw [2, 1] rfl rfl 2 rfl (q := vwCl[3]) rfl) rfl rfl hl.1 rfl (lv_room (Nat.le_of_ble_eq_true rfl)) dX7_ofChangeNow_13 ⟨Nat.le_of_ble_eq_true rfl, Nat.le_of_ble_eq_true rfl⟩) hA hw [2, 1] [0] rfl rfl rfl (by decide) (fun r_3 u_4 H locs hp hw => ?_)
  obtain ⟨rfl, rfl⟩ := hp
  have hw : rc_W E A s [(h0, .inr (12, [.int 0, .ref h1, .ref h2, .ref h3, .ref h4, .ref h5, .int 1, .int 3, .int 50, .int (-1), .int (-1), .int (-1), .int (-1), .int 0, .int 100, .int 1000, .long 0])), (q1, .inr (3, [.int 0, .int (-1), .int 0, .ref h3])), (h3, .inr (4, [.int 0, .ref (E.2.2 0), .int 0]))] H locs := hw
  refine lv_if_eq (tgt := 52) hx hb dX7_ofChangeNow_18 (by decide) (fun _ => ?_) (fun c9 => absurd (by decide) c9)
  refine lv_aload_n hx hb dX7_ofChangeNow_52 rfl (lv_at hl 2 rfl) ?_
  refine lv_iload_n hx hb dX7_ofChangeNow_53 rfl (lv_at hl 3 rfl) ?_
  refine rc_callr (wr := [(q1, .inr (3, [.int 0, .int (-1), .int 0, .ref h3]))]) (va_runV (As := [.int 0]) (rest := []) (Ts := []) ⟨hx, hb, hml, hown, fun _ h9 => absurd h9 List.not_mem_nil⟩ (cw_X7_sample_ l E _ h0 h1 h2 h3 h4 h5) (rc_cwV hAm qw_967 qw_13 qw_970 qw_969 qs_54 rfl rfl hd_X7_sample_ ⟨Nat.le_of_ble_eq_true rfl, Nat.le_of_ble_eq_true rfl⟩) (rc_preV hAm hA hw [0, 2] rfl rfl 0 rfl (q := vwCl[12]) rfl) rfl rfl hl.1 rfl (lv_room (Nat.le_of_ble_eq_true rfl)) dX7_ofChangeNow_54 ⟨Nat.le_of_ble_eq_true rfl, Nat.le_of_ble_eq_true rfl⟩) hA hw [0, 2] [1] rfl rfl rfl (by decide) (fun u_6 r_5 H locs hp hw => ?_)
  obtain ⟨q2, rfl, rfl⟩ := hp
  have hw : rc_W E A s [(q1, .inr (3, [.int 0, .int (-1), .int 0, .ref h3])), (h0, .inr (12, [.int 0, .ref h1, .ref h2, .ref h3, .ref h4, .ref h5, .int 1, .int 3, .int 50, .int (-1), .int (-1), .int (-1), .int (-1), .int 0, .int 100, .int 1000, .long 0])), (h3, .inr (4, [.int 0, .ref (E.2.2 0), .int 0])), (q2, .inl (E.2.1 0, 0, .inl (va_cpy (fun _ => 0) (fun _ => 0) 6 0 0)))] H locs := hw
  refine lv_astore (lv' := [(4, .ref q2), (3, .int 0), (0, .ref h0), (1, .int 0), (2, .int 0)]) hx hb dX7_ofChangeNow_57 hl (by decide) rfl (fun ls hl => ?_)
  refine lv_aload hx hb dX7_ofChangeNow_59 (lv_at hl 0 rfl) ?_
  refine rc_callv (wr := [(q1, .inr (3, [.int 0, .int (-1), .int 0, .ref h3])), (h0, .inr (12, [.int 0, .ref h1, .ref h2, .ref h3, .ref h4, .ref h5, .int 1, .int 3, .int 50, .int (-1), .int (-1), .int (-1), .int (-1), .int 0, .int 100, .int 1000, .long 0])), (h3, .inr (4, [.int 0, .ref (E.2.2 0), .int 0]))]) (va_runS (As := [.ref q2]) (rest := []) (Ts := []) ⟨hx, hb, hml, hown, fun _ h9 => absurd h9 List.not_mem_nil⟩ (cw_J7_sort_2022b l E _ q2 (va_cpy (fun _ => 0) (fun _ => 0) 6 0 0)) (rc_cwS hAm qw_1241 qw_11 qw_1243 qw_1242 rfl rfl hd_J7_sort_2022b ⟨Nat.le_of_ble_eq_true rfl, Nat.le_of_ble_eq_true rfl⟩) (rc_preS hAm hA hw [3] rfl rfl) rfl rfl hl.1 rfl (lv_room (Nat.le_of_ble_eq_true rfl)) dX7_ofChangeNow_61 ⟨Nat.le_of_ble_eq_true rfl, Nat.le_of_ble_eq_true rfl⟩) hA hw [3] [0, 1, 2] rfl rfl rfl (by decide) (fun u_8 H locs hp hw => ?_)
  obtain ⟨rfl⟩ := hp
  have hw : rc_W E A s [(q1, .inr (3, [.int 0, .int (-1), .int 0, .ref h3])), (h0, .inr (12, [.int 0, .ref h1, .ref h2, .ref h3, .ref h4, .ref h5, .int 1, .int 3, .int 50, .int (-1), .int (-1), .int (-1), .int (-1), .int 0, .int 100, .int 1000, .long 0])), (h3, .inr (4, [.int 0, .ref (E.2.2 0), .int 0])), (q2, .inl (E.2.1 0, 0, .inl (va_cpy (fun _ => 0) (fun _ => 0) 6 0 0)))] H locs := hw
  refine lv_aload hx hb dX7_ofChangeNow_64 (lv_at hl 0 rfl) ?_
  refine rc_alen hx hb hAm hw 3 0 rfl rfl 0 rfl dX7_ofChangeNow_66 ?_
  refine lv_iconst (v := 1) hx hb dX7_ofChangeNow_67 (by decide) ?_
  refine lv_isub hx hb dX7_ofChangeNow_68 ?_
  refine rc_topi (-1) (by decide) ?_
  refine lv_istore (lv' := [(5, .int (-1)), (4, .ref q2), (3, .int 0), (0, .ref h0), (1, .int 0), (2, .int 0)]) hx hb dX7_ofChangeNow_69 hl (by decide) rfl (fun ls hl => ?_)
  refine lv_iload_n hx hb dX7_ofChangeNow_71 rfl (lv_at hl 5 rfl) ?_
  refine lv_tableIn (tgt := 108) hx hb dX7_ofChangeNow_72 (by decide) (by decide) rfl (by decide) ?_
  refine lv_iload_n hx hb dX7_ofChangeNow_108 rfl (lv_at hl 2 rfl) ?_
  exact rc_iret (v := 0) hx hb hr hlocks hw [(h0, .inr (12, [.int 0, .ref h1, .ref h2, .ref h3, .ref h4, .ref h5, .int 1, .int 3, .int 50, .int (-1), .int (-1), .int (-1), .int (-1), .int 0, .int 100, .int 1000, .long 0])), (h3, .inr (4, [.int 0, .ref (E.2.2 0), .int 0]))] (⟨rfl, rfl⟩) [1, 2] rfl (by decide) (Nat.le_of_ble_eq_true rfl) (Nat.le_of_ble_eq_true rfl) dX7_ofChangeNow_109
set_option maxHeartbeats 4000000 in
set_option maxRecDepth 100000 in
theorem cw_X7_ofChange_3 (l : Launch) (E : rc_E) (sz : Nat) (h0 : Nat) (h1 : Nat) (h2 : Nat) (h3 : Nat) (h4 : Nat) (h5 : Nat) : rc_Mi l yX7_ofChange [Cond.code yX7_ofChange cX7_ofChange 3 (some FieldType.int)] { frames := 6, cells := 3, slots := 10, locals := 157 } E [.ref h0, .int 0, .int 0] [(h0, .inr (12, [.int 0, .ref h1, .ref h2, .ref h3, .ref h4, .ref h5, .int 1, .int 3, .int 50, .int (-1), .int (-1), .int (-1), .int (-1), .int 0, .int 100, .int 1000, .long 0])), (h3, .inr (4, [.int 0, .ref (E.2.2 0), .int 0]))] sz (S := va_W) (fun (r : Int32) (u : va_W) => (0 = r ∧ u = [(h0, .inr (12, [.int 0, .ref h1, .ref h2, .ref h3, .ref h4, .ref h5, .int 1, .int 3, .int 50, .int (-1), .int (-1), .int (-1), .int (-1), .int 0, .int 100, .int 1000, .long 0])), (h3, .inr (4, [.int 0, .ref (E.2.2 0), .int 0]))])) (fun u => u) 3 10 := by
  refine rc_ini (cc := cX7_ofChange) (maxL := 3) (ret := (some FieldType.int)) (by decide) rfl (Nat.le_of_ble_eq_true rfl) ?_
  intro p e s m args below meth c ls A hx hb hr hml _ hown hlocks hin hA hAm hw hl
  have hown : s.vm.findClass RX7 = some m.cls := hown
  have hl : lv_has ls 3 [(0, .ref h0), (1, .int 0), (2, .int 0)] := hl
  refine lv_aload_n hx hb dX7_ofChange_0 rfl (lv_at hl 0 rfl) ?_
  refine lv_iconst (v := 0) hx hb dX7_ofChange_1 (by decide) ?_
  refine rc_put hx hb hown hAm hw lyX7 tyX7 tyX7_ok nmX7 0 rfl rfl 0 (by decide) qw_860 (fun _ h9 => h9) rfl rfl (by decide +kernel) (Nat.le_of_ble_eq_true rfl) [(h0, .inr (12, [.int 0, .ref h1, .ref h2, .ref h3, .ref h4, .ref h5, .int 1, .int 3, .int 50, .int (-1), .int (-1), .int (-1), .int (-1), .int 0, .int 100, .int 1000, .long 0])), (h3, .inr (4, [.int 0, .ref (E.2.2 0), .int 0]))] rfl dX7_ofChange_2 (fun H locs hw => ?_)
  refine lv_aload_n hx hb dX7_ofChange_5 rfl (lv_at hl 0 rfl) ?_
  refine lv_iload_n hx hb dX7_ofChange_6 rfl (lv_at hl 1 rfl) ?_
  refine rc_calli (wr := [(h3, .inr (4, [.int 0, .ref (E.2.2 0), .int 0]))]) (va_runV (As := [.int 0]) (rest := []) (Ts := []) ⟨hx, hb, hml, hown, fun _ h9 => absurd h9 List.not_mem_nil⟩ (cw_X7_isChange_2 l E _ h0 h1 h2 h3 h4 h5) (rc_cwV hAm qw_1353 qw_13 qw_1356 qw_1355 qs_62 rfl rfl hd_X7_isChange ⟨Nat.le_of_ble_eq_true rfl, Nat.le_of_ble_eq_true rfl⟩) (rc_preV hAm hA hw [0] rfl rfl 0 rfl (q := vwCl[12]) rfl) rfl rfl hl.1 rfl (lv_room (Nat.le_of_ble_eq_true rfl)) dX7_ofChange_7 ⟨Nat.le_of_ble_eq_true rfl, Nat.le_of_ble_eq_true rfl⟩) hA hw [0] [1] rfl rfl rfl (by decide) (fun r_1 u_2 H locs hp hw => ?_)
  obtain ⟨rfl, rfl⟩ := hp
  have hw : rc_W E A s [(h3, .inr (4, [.int 0, .ref (E.2.2 0), .int 0])), (h0, .inr (12, [.int 0, .ref h1, .ref h2, .ref h3, .ref h4, .ref h5, .int 1, .int 3, .int 50, .int (-1), .int (-1), .int (-1), .int (-1), .int 0, .int 100, .int 1000, .long 0]))] H locs := hw
  refine lv_if_ne (tgt := 19) hx hb dX7_ofChange_10 (by decide) (fun _ => ?_) (fun c9 => absurd c9 (by decide))
  refine lv_iload_n hx hb dX7_ofChange_19 rfl (lv_at hl 2 rfl) ?_
  refine lv_iconst (v := 0) hx hb dX7_ofChange_20 (by decide) ?_
  refine lv_iconst (v := 5) hx hb dX7_ofChange_21 (by decide) ?_
  refine rc_calli (wr := [(h3, .inr (4, [.int 0, .ref (E.2.2 0), .int 0])), (h0, .inr (12, [.int 0, .ref h1, .ref h2, .ref h3, .ref h4, .ref h5, .int 1, .int 3, .int 50, .int (-1), .int (-1), .int (-1), .int (-1), .int 0, .int 100, .int 1000, .long 0]))]) (va_runS (As := [.int 0, .int 0, .int 5]) (rest := []) (Ts := []) ⟨hx, hb, hml, hown, fun _ h9 => absurd h9 List.not_mem_nil⟩ (cw_X7_is_55 l E _) (rc_cwS hAm qw_921 qw_13 qw_923 qw_922 rfl rfl hd_X7_is ⟨Nat.le_of_ble_eq_true rfl, Nat.le_of_ble_eq_true rfl⟩) (rc_preS hAm hA hw [] rfl rfl) rfl rfl hl.1 rfl (lv_room (Nat.le_of_ble_eq_true rfl)) dX7_ofChange_22 ⟨Nat.le_of_ble_eq_true rfl, Nat.le_of_ble_eq_true rfl⟩) hA hw [] [0, 1] rfl rfl rfl (by decide) (fun r_3 u_4 H locs hp hw => ?_)
  obtain ⟨rfl, rfl⟩ := hp
  have hw : rc_W E A s [(h3, .inr (4, [.int 0, .ref (E.2.2 0), .int 0])), (h0, .inr (12, [.int 0, .ref h1, .ref h2, .ref h3, .ref h4, .ref h5, .int 1, .int 3, .int 50, .int (-1), .int (-1), .int (-1), .int (-1), .int 0, .int 100, .int 1000, .long 0]))] H locs := hw
  refine lv_if_eq (tgt := 37) hx hb dX7_ofChange_25 (by decide) (fun c9 => absurd c9 (by decide)) (fun _ => ?_)
  refine lv_aload_n hx hb dX7_ofChange_28 rfl (lv_at hl 0 rfl) ?_
  refine lv_iload_n hx hb dX7_ofChange_29 rfl (lv_at hl 1 rfl) ?_
  refine lv_iload_n hx hb dX7_ofChange_30 rfl (lv_at hl 2 rfl) ?_
  refine rc_calli (wr := []) (va_runV (As := [.int 0, .int 0]) (rest := []) (Ts := []) ⟨hx, hb, hml, hown, fun _ h9 => absurd h9 List.not_mem_nil⟩ (cw_X7_ofChangeNow_8 l E _ h0 h1 h2 h3 h4 h5) (rc_cwV hAm qw_1377 qw_13 qw_1380 qw_1379 qs_65 rfl rfl hd_X7_ofChangeNow ⟨Nat.le_of_ble_eq_true rfl, Nat.le_of_ble_eq_true rfl⟩) (rc_preV hAm hA hw [1, 0] rfl rfl 1 rfl (q := vwCl[12]) rfl) rfl rfl hl.1 rfl (lv_room (Nat.le_of_ble_eq_true rfl)) dX7_ofChange_31 ⟨Nat.le_of_ble_eq_true rfl, Nat.le_of_ble_eq_true rfl⟩) hA hw [1, 0] [] rfl rfl rfl (by decide) (fun r_5 u_6 H locs hp hw => ?_)
  obtain ⟨rfl, rfl⟩ := hp
  have hw : rc_W E A s [(h0, .inr (12, [.int 0, .ref h1, .ref h2, .ref h3, .ref h4, .ref h5, .int 1, .int 3, .int 50, .int (-1), .int (-1), .int (-1), .int (-1), .int 0, .int 100, .int 1000, .long 0])), (h3, .inr (4, [.int 0, .ref (E.2.2 0), .int 0]))] H locs := hw
  refine lv_goto (tgt := 42) hx hb dX7_ofChange_34 (by decide) ?_
  exact rc_iret (v := 0) hx hb hr hlocks hw [(h0, .inr (12, [.int 0, .ref h1, .ref h2, .ref h3, .ref h4, .ref h5, .int 1, .int 3, .int 50, .int (-1), .int (-1), .int (-1), .int (-1), .int 0, .int 100, .int 1000, .long 0])), (h3, .inr (4, [.int 0, .ref (E.2.2 0), .int 0]))] (⟨rfl, rfl⟩) [0, 1] rfl (by decide) (Nat.le_of_ble_eq_true rfl) (Nat.le_of_ble_eq_true rfl) dX7_ofChange_42
set_option maxHeartbeats 4000000 in
set_option maxRecDepth 100000 in
theorem cw_X7_is_56 (l : Launch) (E : rc_E) (sz : Nat) : rc_Mi l yX7_is [Cond.code yX7_is cX7_is 3 (some FieldType.boolean)] { frames := 0, cells := 0, slots := 0, locals := 0 } E [.int 1, .int 0, .int 5] [] sz (S := va_W) (fun (r : Int32) (u : va_W) => (1 = r ∧ u = [])) (fun u => u) 0 0 := by
  refine rc_ini (cc := cX7_is) (maxL := 3) (ret := (some FieldType.boolean)) (by decide) rfl (Nat.le_of_ble_eq_true rfl) ?_
  intro p e s m args below meth c ls A hx hb hr hml _ hown hlocks hin hA hAm hw hl
  have hown : s.vm.findClass RX7 = some m.cls := hown
  have hl : lv_has ls 3 [(0, .int 1), (1, .int 0), (2, .int 5)] := hl
  refine lv_iload_n hx hb dX7_is_0 rfl (lv_at hl 0 rfl) ?_
  refine lv_iload_n hx hb dX7_is_1 rfl (lv_at hl 1 rfl) ?_
  refine lv_icmp_lt (tgt := 14) hx hb dX7_is_2 (by decide) (fun c9 => absurd c9 (by decide)) (fun _ => ?_)
  refine lv_iload_n hx hb dX7_is_5 rfl (lv_at hl 0 rfl) ?_
  refine lv_iload_n hx hb dX7_is_6 rfl (lv_at hl 2 rfl) ?_
  refine lv_icmp_gt (tgt := 14) hx hb dX7_is_7 (by decide) (fun c9 => absurd c9 (by decide)) (fun _ => ?_)
  refine lv_iconst (v := 1) hx hb dX7_is_10 (by decide) ?_
  refine lv_goto (tgt := 15) hx hb dX7_is_11 (by decide) ?_
  exact rc_zret (v := 1) hx hb hr hlocks hw rfl [] (⟨rfl, rfl⟩) [] rfl (by decide) (Nat.le_of_ble_eq_true rfl) (Nat.le_of_ble_eq_true rfl) dX7_is_15
set_option maxHeartbeats 4000000 in
set_option maxRecDepth 100000 in
theorem cw_X7_ofChangeNow_9 (l : Launch) (E : rc_E) (sz : Nat) (h0 : Nat) (h1 : Nat) (h2 : Nat) (h3 : Nat) (h4 : Nat) (h5 : Nat) : rc_Mi l yX7_ofChangeNow [Cond.code yX7_ofChangeNow cX7_ofChangeNow 6 (some FieldType.int)] { frames := 5, cells := 3, slots := 10, locals := 132 } E [.ref h0, .int 0, .int 1] [(h0, .inr (12, [.int 0, .ref h1, .ref h2, .ref h3, .ref h4, .ref h5, .int 1, .int 3, .int 50, .int (-1), .int (-1), .int (-1), .int (-1), .int 0, .int 100, .int 1000, .long 0])), (h3, .inr (4, [.int 0, .ref (E.2.2 0), .int 0]))] sz (S := va_W) (fun (r : Int32) (u : va_W) => (0 = r ∧ u = [(h0, .inr (12, [.int 0, .ref h1, .ref h2, .ref h3, .ref h4, .ref h5, .int 1, .int 3, .int 50, .int (-1), .int (-1), .int (-1), .int (-1), .int 0, .int 100, .int 1000, .long 0])), (h3, .inr (4, [.int 0, .ref (E.2.2 0), .int 0]))])) (fun u => u) 3 10 := by
  refine rc_ini (cc := cX7_ofChangeNow) (maxL := 6) (ret := (some FieldType.int)) (by decide) rfl (Nat.le_of_ble_eq_true rfl) ?_
  intro p e s m args below meth c ls A hx hb hr hml _ hown hlocks hin hA hAm hw hl
  have hown : s.vm.findClass RX7 = some m.cls := hown
  have hl : lv_has ls 6 [(0, .ref h0), (1, .int 0), (2, .int 1)] := hl
  refine lv_iconst (v := 0) hx hb dX7_ofChangeNow_0 (by decide) ?_
  refine lv_istore_n (lv' := [(3, .int 0), (0, .ref h0), (1, .int 0), (2, .int 1)]) hx hb dX7_ofChangeNow_1 rfl hl (by decide) rfl (fun ls hl => ?_)
  refine lv_aload_n hx hb dX7_ofChangeNow_2 rfl (lv_at hl 1 rfl) ?_
  refine rc_get (v := .ref h3) hx hb hown hAm hw lyX7 0 rfl rfl 3 (by decide) qw_863 (fun _ h9 => h9) rfl dX7_ofChangeNow_3 ?_
  refine rc_callr (wr := [(h0, .inr (12, [.int 0, .ref h1, .ref h2, .ref h3, .ref h4, .ref h5, .int 1, .int 3, .int 50, .int (-1), .int (-1), .int (-1), .int (-1), .int 0, .int 100, .int 1000, .long 0]))]) (va_runV (As := []) (rest := []) (Ts := []) ⟨hx, hb, hml, hown, fun _ h9 => absurd h9 List.not_mem_nil⟩ (cw_Jx4a65c_iterator_32c93 l E _ h3) (rc_cwV hAm qw_1295 qw_4 qw_1298 qw_1296 qw_1297 rfl rfl hd_Jx4a65c_iterator_32c93 ⟨Nat.le_of_ble_eq_true rfl, Nat.le_of_ble_eq_true rfl⟩) (rc_preV hAm hA hw [1] rfl rfl 1 rfl (q := vwCl[4]) rfl) rfl rfl hl.1 rfl (lv_room (Nat.le_of_ble_eq_true rfl)) dX7_ofChangeNow_6 ⟨Nat.le_of_ble_eq_true rfl, Nat.le_of_ble_eq_true rfl⟩) hA hw [1] [0] rfl rfl rfl (by decide) (fun u_2 r_1 H locs hp hw => ?_)
  obtain ⟨q1, rfl, rfl⟩ := hp
  have hw : rc_W E A s [(h0, .inr (12, [.int 0, .ref h1, .ref h2, .ref h3, .ref h4, .ref h5, .int 1, .int 3, .int 50, .int (-1), .int (-1), .int (-1), .int (-1), .int 0, .int 100, .int 1000, .long 0])), (h3, .inr (4, [.int 0, .ref (E.2.2 0), .int 0])), (q1, .inr (3, [.int 0, .int (-1), .int 0, .ref h3]))] H locs := hw
  refine lv_astore (lv' := [(4, .ref q1), (3, .int 0), (0, .ref h0), (1, .int 0), (2, .int 1)]) hx hb dX7_ofChangeNow_9 hl (by decide) rfl (fun ls hl => ?_)
  refine lv_aload hx hb dX7_ofChangeNow_11 (lv_at hl 0 rfl) ?_
  refine rc_callFi (wr := [(h0, .inr (12, [.int 0, .ref h1, .ref h2, .ref h3, .ref h4, .ref h5, .int 1, .int 3, .int 50, .int (-1), .int (-1), .int (-1), .int (-1), .int 0, .int 100, .int 1000, .long 0]))]) (va_runF (As := []) (rest := []) (Ts := []) ((hAm.K.1 3 _ rfl).2) ⟨hx, hb, hml, hown, fun _ h9 => absurd h9 List.not_mem_nil⟩ (cw_Jx35411_hasNext_aae02 l E _ q1 h3) (rc_cwF (C := "java/util/ArrayList$Itr") (n := 0) hAm qw_1319 qw_32 qw_1327 qw_1325 qw_1323 qw_1321 qw_1320 (by decide +kernel) qw_1326 qw_1324 qw_1322 rfl rfl (by decide +kernel) ⟨Nat.le_of_ble_eq_true rfl, Nat.le_of_ble_eq_true rfl⟩) (rc_preV hAm hA hw [2, 1] rfl rfl 2 rfl (q := vwCl[3]) rfl) rfl rfl hl.1 rfl (lv_room (Nat.le_of_ble_eq_true rfl)) dX7_ofChangeNow_13 ⟨Nat.le_of_ble_eq_true rfl, Nat.le_of_ble_eq_true rfl⟩) hA hw [2, 1] [0] rfl rfl rfl (by decide) (fun r_3 u_4 H locs hp hw => ?_)
  obtain ⟨rfl, rfl⟩ := hp
  have hw : rc_W E A s [(h0, .inr (12, [.int 0, .ref h1, .ref h2, .ref h3, .ref h4, .ref h5, .int 1, .int 3, .int 50, .int (-1), .int (-1), .int (-1), .int (-1), .int 0, .int 100, .int 1000, .long 0])), (q1, .inr (3, [.int 0, .int (-1), .int 0, .ref h3])), (h3, .inr (4, [.int 0, .ref (E.2.2 0), .int 0]))] H locs := hw
  refine lv_if_eq (tgt := 52) hx hb dX7_ofChangeNow_18 (by decide) (fun _ => ?_) (fun c9 => absurd (by decide) c9)
  refine lv_aload_n hx hb dX7_ofChangeNow_52 rfl (lv_at hl 2 rfl) ?_
  refine lv_iload_n hx hb dX7_ofChangeNow_53 rfl (lv_at hl 3 rfl) ?_
  refine rc_callr (wr := [(q1, .inr (3, [.int 0, .int (-1), .int 0, .ref h3]))]) (va_runV (As := [.int 0]) (rest := []) (Ts := []) ⟨hx, hb, hml, hown, fun _ h9 => absurd h9 List.not_mem_nil⟩ (cw_X7_sample_ l E _ h0 h1 h2 h3 h4 h5) (rc_cwV hAm qw_967 qw_13 qw_970 qw_969 qs_54 rfl rfl hd_X7_sample_ ⟨Nat.le_of_ble_eq_true rfl, Nat.le_of_ble_eq_true rfl⟩) (rc_preV hAm hA hw [0, 2] rfl rfl 0 rfl (q := vwCl[12]) rfl) rfl rfl hl.1 rfl (lv_room (Nat.le_of_ble_eq_true rfl)) dX7_ofChangeNow_54 ⟨Nat.le_of_ble_eq_true rfl, Nat.le_of_ble_eq_true rfl⟩) hA hw [0, 2] [1] rfl rfl rfl (by decide) (fun u_6 r_5 H locs hp hw => ?_)
  obtain ⟨q2, rfl, rfl⟩ := hp
  have hw : rc_W E A s [(q1, .inr (3, [.int 0, .int (-1), .int 0, .ref h3])), (h0, .inr (12, [.int 0, .ref h1, .ref h2, .ref h3, .ref h4, .ref h5, .int 1, .int 3, .int 50, .int (-1), .int (-1), .int (-1), .int (-1), .int 0, .int 100, .int 1000, .long 0])), (h3, .inr (4, [.int 0, .ref (E.2.2 0), .int 0])), (q2, .inl (E.2.1 0, 0, .inl (va_cpy (fun _ => 0) (fun _ => 0) 6 0 0)))] H locs := hw
  refine lv_astore (lv' := [(4, .ref q2), (3, .int 0), (0, .ref h0), (1, .int 0), (2, .int 1)]) hx hb dX7_ofChangeNow_57 hl (by decide) rfl (fun ls hl => ?_)
  refine lv_aload hx hb dX7_ofChangeNow_59 (lv_at hl 0 rfl) ?_
  refine rc_callv (wr := [(q1, .inr (3, [.int 0, .int (-1), .int 0, .ref h3])), (h0, .inr (12, [.int 0, .ref h1, .ref h2, .ref h3, .ref h4, .ref h5, .int 1, .int 3, .int 50, .int (-1), .int (-1), .int (-1), .int (-1), .int 0, .int 100, .int 1000, .long 0])), (h3, .inr (4, [.int 0, .ref (E.2.2 0), .int 0]))]) (va_runS (As := [.ref q2]) (rest := []) (Ts := []) ⟨hx, hb, hml, hown, fun _ h9 => absurd h9 List.not_mem_nil⟩ (cw_J7_sort_2022b l E _ q2 (va_cpy (fun _ => 0) (fun _ => 0) 6 0 0)) (rc_cwS hAm qw_1241 qw_11 qw_1243 qw_1242 rfl rfl hd_J7_sort_2022b ⟨Nat.le_of_ble_eq_true rfl, Nat.le_of_ble_eq_true rfl⟩) (rc_preS hAm hA hw [3] rfl rfl) rfl rfl hl.1 rfl (lv_room (Nat.le_of_ble_eq_true rfl)) dX7_ofChangeNow_61 ⟨Nat.le_of_ble_eq_true rfl, Nat.le_of_ble_eq_true rfl⟩) hA hw [3] [0, 1, 2] rfl rfl rfl (by decide) (fun u_8 H locs hp hw => ?_)
  obtain ⟨rfl⟩ := hp
  have hw : rc_W E A s [(q1, .inr (3, [.int 0, .int (-1), .int 0, .ref h3])), (h0, .inr (12, [.int 0, .ref h1, .ref h2, .ref h3, .ref h4, .ref h5, .int 1, .int 3, .int 50, .int (-1), .int (-1), .int (-1), .int (-1), .int 0, .int 100, .int 1000, .long 0])), (h3, .inr (4, [.int 0, .ref (E.2.2 0), .int 0])), (q2, .inl (E.2.1 0, 0, .inl (va_cpy (fun _ => 0) (fun _ => 0) 6 0 0)))] H locs := hw
  refine lv_aload hx hb dX7_ofChangeNow_64 (lv_at hl 0 rfl) ?_
  refine rc_alen hx hb hAm hw 3 0 rfl rfl 0 rfl dX7_ofChangeNow_66 ?_
  refine lv_iconst (v := 1) hx hb dX7_ofChangeNow_67 (by decide) ?_
  refine lv_isub hx hb dX7_ofChangeNow_68 ?_
  refine rc_topi (-1) (by decide) ?_
  refine lv_istore (lv' := [(5, .int (-1)), (4, .ref q2), (3, .int 0), (0, .ref h0), (1, .int 0), (2, .int 1)]) hx hb dX7_ofChangeNow_69 hl (by decide) rfl (fun ls hl => ?_)
  refine lv_iload_n hx hb dX7_ofChangeNow_71 rfl (lv_at hl 5 rfl) ?_
  refine lv_tableIn (tgt := 110) hx hb dX7_ofChangeNow_72 (by decide) (by decide) rfl (by decide) ?_
  refine lv_aload hx hb dX7_ofChangeNow_110 (lv_at hl 1 rfl) ?_
  refine rc_alen hx hb hAm hw 3 0 rfl rfl 0 rfl dX7_ofChangeNow_112 ?_
  exact rc_iret (v := 0) hx hb hr hlocks hw [(h0, .inr (12, [.int 0, .ref h1, .ref h2, .ref h3, .ref h4, .ref h5, .int 1, .int 3, .int 50, .int (-1), .int (-1), .int (-1), .int (-1), .int 0, .int 100, .int 1000, .long 0])), (h3, .inr (4, [.int 0, .ref (E.2.2 0), .int 0]))] (⟨rfl, rfl⟩) [1, 2] rfl (by decide) (Nat.le_of_ble_eq_true rfl) (Nat.le_of_ble_eq_true rfl) dX7_ofChangeNow_113
set_option maxHeartbeats 4000000 in
set_option maxRecDepth 100000 in
theorem cw_X7_ofChange_4 (l : Launch) (E : rc_E) (sz : Nat) (h0 : Nat) (h1 : Nat) (h2 : Nat) (h3 : Nat) (h4 : Nat) (h5 : Nat) : rc_Mi l yX7_ofChange [Cond.code yX7_ofChange cX7_ofChange 3 (some FieldType.int)] { frames := 6, cells := 3, slots := 10, locals := 157 } E [.ref h0, .int 0, .int 1] [(h0, .inr (12, [.int 0, .ref h1, .ref h2, .ref h3, .ref h4, .ref h5, .int 1, .int 3, .int 50, .int (-1), .int (-1), .int (-1), .int (-1), .int 0, .int 100, .int 1000, .long 0])), (h3, .inr (4, [.int 0, .ref (E.2.2 0), .int 0]))] sz (S := va_W) (fun (r : Int32) (u : va_W) => (0 = r ∧ u = [(h0, .inr (12, [.int 0, .ref h1, .ref h2, .ref h3, .ref h4, .ref h5, .int 1, .int 3, .int 50, .int (-1), .int (-1), .int (-1), .int (-1), .int 0, .int 100, .int 1000, .long 0])), (h3, .inr (4, [.int 0, .ref (E.2.2 0), .int 0]))])) (fun u => u) 3 10 := by
  refine rc_ini (cc := cX7_ofChange) (maxL := 3) (ret := (some FieldType.int)) (by decide) rfl (Nat.le_of_ble_eq_true rfl) ?_
  intro p e s m args below meth c ls A hx hb hr hml _ hown hlocks hin hA hAm hw hl
  have hown : s.vm.findClass RX7 = some m.cls := hown
  have hl : lv_has ls 3 [(0, .ref h0), (1, .int 0), (2, .int 1)] := hl
  refine lv_aload_n hx hb dX7_ofChange_0 rfl (lv_at hl 0 rfl) ?_
  refine lv_iconst (v := 0) hx hb dX7_ofChange_1 (by decide) ?_
  refine rc_put hx hb hown hAm hw lyX7 tyX7 tyX7_ok nmX7 0 rfl rfl 0 (by decide) qw_860 (fun _ h9 => h9) rfl rfl (by decide +kernel) (Nat.le_of_ble_eq_true rfl) [(h0, .inr (12, [.int 0, .ref h1, .ref h2, .ref h3, .ref h4, .ref h5, .int 1, .int 3, .int 50, .int (-1), .int (-1), .int (-1), .int (-1), .int 0, .int 100, .int 1000, .long 0])), (h3, .inr (4, [.int 0, .ref (E.2.2 0), .int 0]))] rfl dX7_ofChange_2 (fun H locs hw => ?_)
  refine lv_aload_n hx hb dX7_ofChange_5 rfl (lv_at hl 0 rfl) ?_
  refine lv_iload_n hx hb dX7_ofChange_6 rfl (lv_at hl 1 rfl) ?_
  refine rc_calli (wr := [(h3, .inr (4, [.int 0, .ref (E.2.2 0), .int 0]))]) (va_runV (As := [.int 0]) (rest := []) (Ts := []) ⟨hx, hb, hml, hown, fun _ h9 => absurd h9 List.not_mem_nil⟩ (cw_X7_isChange_2 l E _ h0 h1 h2 h3 h4 h5) (rc_cwV hAm qw_1353 qw_13 qw_1356 qw_1355 qs_62 rfl rfl hd_X7_isChange ⟨Nat.le_of_ble_eq_true rfl, Nat.le_of_ble_eq_true rfl⟩) (rc_preV hAm hA hw [0] rfl rfl 0 rfl (q := vwCl[12]) rfl) rfl rfl hl.1 rfl (lv_room (Nat.le_of_ble_eq_true rfl)) dX7_ofChange_7 ⟨Nat.le_of_ble_eq_true rfl, Nat.le_of_ble_eq_true rfl⟩) hA hw [0] [1] rfl rfl rfl (by decide) (fun r_1 u_2 H locs hp hw => ?_)
  obtain ⟨rfl, rfl⟩ := hp
  have hw : rc_W E A s [(h3, .inr (4, [.int 0, .ref (E.2.2 0), .int 0])), (h0, .inr (12, [.int 0, .ref h1, .ref h2, .ref h3, .ref h4, .ref h5, .int 1, .int 3, .int 50, .int (-1), .int (-1), .int (-1), .int (-1), .int 0, .int 100, .int 1000, .long 0]))] H locs := hw
  refine lv_if_ne (tgt := 19) hx hb dX7_ofChange_10 (by decide) (fun _ => ?_) (fun c9 => absurd c9 (by decide))
  refine lv_iload_n hx hb dX7_ofChange_19 rfl (lv_at hl 2 rfl) ?_
  refine lv_iconst (v := 0) hx hb dX7_ofChange_20 (by decide) ?_
  refine lv_iconst (v := 5) hx hb dX7_ofChange_21 (by decide) ?_
  refine rc_calli (wr := [(h3, .inr (4, [.int 0, .ref (E.2.2 0), .int 0])), (h0, .inr (12, [.int 0, .ref h1, .ref h2, .ref h3, .ref h4, .ref h5, .int 1, .int 3, .int 50, .int (-1), .int (-1), .int (-1), .int (-1), .int 0, .int 100, .int 1000, .long 0]))]) (va_runS (As := [.int 1, .int 0, .int 5]) (rest := []) (Ts := []) ⟨hx, hb, hml, hown, fun _ h9 => absurd h9 List.not_mem_nil⟩ (cw_X7_is_56 l E _) (rc_cwS hAm qw_921 qw_13 qw_923 qw_922 rfl rfl hd_X7_is ⟨Nat.le_of_ble_eq_true rfl, Nat.le_of_ble_eq_true rfl⟩) (rc_preS hAm hA hw [] rfl rfl) rfl rfl hl.1 rfl (lv_room (Nat.le_of_ble_eq_true rfl)) dX7_ofChange_22 ⟨Nat.le_of_ble_eq_true rfl, Nat.le_of_ble_eq_true rfl⟩) hA hw [] [0, 1] rfl rfl rfl (by decide) (fun r_3 u_4 H locs hp hw => ?_)
  obtain ⟨rfl, rfl⟩ := hp
  have hw : rc_W E A s [(h3, .inr (4, [.int 0, .ref (E.2.2 0), .int 0])), (h0, .inr (12, [.int 0, .ref h1, .ref h2, .ref h3, .ref h4, .ref h5, .int 1, .int 3, .int 50, .int (-1), .int (-1), .int (-1), .int (-1), .int 0, .int 100, .int 1000, .long 0]))] H locs := hw
  refine lv_if_eq (tgt := 37) hx hb dX7_ofChange_25 (by decide) (fun c9 => absurd c9 (by decide)) (fun _ => ?_)
  refine lv_aload_n hx hb dX7_ofChange_28 rfl (lv_at hl 0 rfl) ?_
  refine lv_iload_n hx hb dX7_ofChange_29 rfl (lv_at hl 1 rfl) ?_
  refine lv_iload_n hx hb dX7_ofChange_30 rfl (lv_at hl 2 rfl) ?_
  refine rc_calli (wr := []) (va_runV (As := [.int 0, .int 1]) (rest := []) (Ts := []) ⟨hx, hb, hml, hown, fun _ h9 => absurd h9 List.not_mem_nil⟩ (cw_X7_ofChangeNow_9 l E _ h0 h1 h2 h3 h4 h5) (rc_cwV hAm qw_1377 qw_13 qw_1380 qw_1379 qs_65 rfl rfl hd_X7_ofChangeNow ⟨Nat.le_of_ble_eq_true rfl, Nat.le_of_ble_eq_true rfl⟩) (rc_preV hAm hA hw [1, 0] rfl rfl 1 rfl (q := vwCl[12]) rfl) rfl rfl hl.1 rfl (lv_room (Nat.le_of_ble_eq_true rfl)) dX7_ofChange_31 ⟨Nat.le_of_ble_eq_true rfl, Nat.le_of_ble_eq_true rfl⟩) hA hw [1, 0] [] rfl rfl rfl (by decide) (fun r_5 u_6 H locs hp hw => ?_)
  obtain ⟨rfl, rfl⟩ := hp
  have hw : rc_W E A s [(h0, .inr (12, [.int 0, .ref h1, .ref h2, .ref h3, .ref h4, .ref h5, .int 1, .int 3, .int 50, .int (-1), .int (-1), .int (-1), .int (-1), .int 0, .int 100, .int 1000, .long 0])), (h3, .inr (4, [.int 0, .ref (E.2.2 0), .int 0]))] H locs := hw
  refine lv_goto (tgt := 42) hx hb dX7_ofChange_34 (by decide) ?_
  exact rc_iret (v := 0) hx hb hr hlocks hw [(h0, .inr (12, [.int 0, .ref h1, .ref h2, .ref h3, .ref h4, .ref h5, .int 1, .int 3, .int 50, .int (-1), .int (-1), .int (-1), .int (-1), .int 0, .int 100, .int 1000, .long 0])), (h3, .inr (4, [.int 0, .ref (E.2.2 0), .int 0]))] (⟨rfl, rfl⟩) [0, 1] rfl (by decide) (Nat.le_of_ble_eq_true rfl) (Nat.le_of_ble_eq_true rfl) dX7_ofChange_42
set_option maxHeartbeats 4000000 in
set_option maxRecDepth 100000 in
theorem cw_X7_is_57 (l : Launch) (E : rc_E) (sz : Nat) : rc_Mi l yX7_is [Cond.code yX7_is cX7_is 3 (some FieldType.boolean)] { frames := 0, cells := 0, slots := 0, locals := 0 } E [.int 2, .int 0, .int 5] [] sz (S := va_W) (fun (r : Int32) (u : va_W) => (1 = r ∧ u = [])) (fun u => u) 0 0 := by
  refine rc_ini (cc := cX7_is) (maxL := 3) (ret := (some FieldType.boolean)) (by decide) rfl (Nat.le_of_ble_eq_true rfl) ?_
  intro p e s m args below meth c ls A hx hb hr hml _ hown hlocks hin hA hAm hw hl
  have hown : s.vm.findClass RX7 = some m.cls := hown
  have hl : lv_has ls 3 [(0, .int 2), (1, .int 0), (2, .int 5)] := hl
  refine lv_iload_n hx hb dX7_is_0 rfl (lv_at hl 0 rfl) ?_
  refine lv_iload_n hx hb dX7_is_1 rfl (lv_at hl 1 rfl) ?_
  refine lv_icmp_lt (tgt := 14) hx hb dX7_is_2 (by decide) (fun c9 => absurd c9 (by decide)) (fun _ => ?_)
  refine lv_iload_n hx hb dX7_is_5 rfl (lv_at hl 0 rfl) ?_
  refine lv_iload_n hx hb dX7_is_6 rfl (lv_at hl 2 rfl) ?_
  refine lv_icmp_gt (tgt := 14) hx hb dX7_is_7 (by decide) (fun c9 => absurd c9 (by decide)) (fun _ => ?_)
  refine lv_iconst (v := 1) hx hb dX7_is_10 (by decide) ?_
  refine lv_goto (tgt := 15) hx hb dX7_is_11 (by decide) ?_
  exact rc_zret (v := 1) hx hb hr hlocks hw rfl [] (⟨rfl, rfl⟩) [] rfl (by decide) (Nat.le_of_ble_eq_true rfl) (Nat.le_of_ble_eq_true rfl) dX7_is_15
set_option maxHeartbeats 4000000 in
set_option maxRecDepth 100000 in
theorem cw_X7_ofChangeNow_10 (l : Launch) (E : rc_E) (sz : Nat) (h0 : Nat) (h1 : Nat) (h2 : Nat) (h3 : Nat) (h4 : Nat) (h5 : Nat) : rc_Mi l yX7_ofChangeNow [Cond.code yX7_ofChangeNow cX7_ofChangeNow 6 (some FieldType.int)] { frames := 5, cells := 3, slots := 10, locals := 132 } E [.ref h0, .int 0, .int 2] [(h0, .inr (12, [.int 0, .ref h1, .ref h2, .ref h3, .ref h4, .ref h5, .int 1, .int 3, .int 50, .int (-1), .int (-1), .int (-1), .int (-1), .int 0, .int 100, .int 1000, .long 0])), (h3, .inr (4, [.int 0, .ref (E.2.2 0), .int 0]))] sz (S := va_W) (fun (r : Int32) (u : va_W) => ((-1) = r ∧ u = [(h0, .inr (12, [.int 0, .ref h1, .ref h2, .ref h3, .ref h4, .ref h5, .int 1, .int 3, .int 50, .int (-1), .int (-1), .int (-1), .int (-1), .int 0, .int 100, .int 1000, .long 0])), (h3, .inr (4, [.int 0, .ref (E.2.2 0), .int 0]))])) (fun u => u) 3 10 := by
  refine rc_ini (cc := cX7_ofChangeNow) (maxL := 6) (ret := (some FieldType.int)) (by decide) rfl (Nat.le_of_ble_eq_true rfl) ?_
  intro p e s m args below meth c ls A hx hb hr hml _ hown hlocks hin hA hAm hw hl
  have hown : s.vm.findClass RX7 = some m.cls := hown
  have hl : lv_has ls 6 [(0, .ref h0), (1, .int 0), (2, .int 2)] := hl
  refine lv_iconst (v := 0) hx hb dX7_ofChangeNow_0 (by decide) ?_
  refine lv_istore_n (lv' := [(3, .int 0), (0, .ref h0), (1, .int 0), (2, .int 2)]) hx hb dX7_ofChangeNow_1 rfl hl (by decide) rfl (fun ls hl => ?_)
  refine lv_aload_n hx hb dX7_ofChangeNow_2 rfl (lv_at hl 1 rfl) ?_
  refine rc_get (v := .ref h3) hx hb hown hAm hw lyX7 0 rfl rfl 3 (by decide) qw_863 (fun _ h9 => h9) rfl dX7_ofChangeNow_3 ?_
  refine rc_callr (wr := [(h0, .inr (12, [.int 0, .ref h1, .ref h2, .ref h3, .ref h4, .ref h5, .int 1, .int 3, .int 50, .int (-1), .int (-1), .int (-1), .int (-1), .int 0, .int 100, .int 1000, .long 0]))]) (va_runV (As := []) (rest := []) (Ts := []) ⟨hx, hb, hml, hown, fun _ h9 => absurd h9 List.not_mem_nil⟩ (cw_Jx4a65c_iterator_32c93 l E _ h3) (rc_cwV hAm qw_1295 qw_4 qw_1298 qw_1296 qw_1297 rfl rfl hd_Jx4a65c_iterator_32c93 ⟨Nat.le_of_ble_eq_true rfl, Nat.le_of_ble_eq_true rfl⟩) (rc_preV hAm hA hw [1] rfl rfl 1 rfl (q := vwCl[4]) rfl) rfl rfl hl.1 rfl (lv_room (Nat.le_of_ble_eq_true rfl)) dX7_ofChangeNow_6 ⟨Nat.le_of_ble_eq_true rfl, Nat.le_of_ble_eq_true rfl⟩) hA hw [1] [0] rfl rfl rfl (by decide) (fun u_2 r_1 H locs hp hw => ?_)
  obtain ⟨q1, rfl, rfl⟩ := hp
  have hw : rc_W E A s [(h0, .inr (12, [.int 0, .ref h1, .ref h2, .ref h3, .ref h4, .ref h5, .int 1, .int 3, .int 50, .int (-1), .int (-1), .int (-1), .int (-1), .int 0, .int 100, .int 1000, .long 0])), (h3, .inr (4, [.int 0, .ref (E.2.2 0), .int 0])), (q1, .inr (3, [.int 0, .int (-1), .int 0, .ref h3]))] H locs := hw
  refine lv_astore (lv' := [(4, .ref q1), (3, .int 0), (0, .ref h0), (1, .int 0), (2, .int 2)]) hx hb dX7_ofChangeNow_9 hl (by decide) rfl (fun ls hl => ?_)
  refine lv_aload hx hb dX7_ofChangeNow_11 (lv_at hl 0 rfl) ?_
  refine rc_callFi (wr := [(h0, .inr (12, [.int 0, .ref h1, .ref h2, .ref h3, .ref h4, .ref h5, .int 1, .int 3, .int 50, .int (-1), .int (-1), .int (-1), .int (-1), .int 0, .int 100, .int 1000, .long 0]))]) (va_runF (As := []) (rest := []) (Ts := []) ((hAm.K.1 3 _ rfl).2) ⟨hx, hb, hml, hown, fun _ h9 => absurd h9 List.not_mem_nil⟩ (cw_Jx35411_hasNext_aae02 l E _ q1 h3) (rc_cwF (C := "java/util/ArrayList$Itr") (n := 0) hAm qw_1319 qw_32 qw_1327 qw_1325 qw_1323 qw_1321 qw_1320 (by decide +kernel) qw_1326 qw_1324 qw_1322 rfl rfl (by decide +kernel) ⟨Nat.le_of_ble_eq_true rfl, Nat.le_of_ble_eq_true rfl⟩) (rc_preV hAm hA hw [2, 1] rfl rfl 2 rfl (q := vwCl[3]) rfl) rfl rfl hl.1 rfl (lv_room (Nat.le_of_ble_eq_true rfl)) dX7_ofChangeNow_13 ⟨Nat.le_of_ble_eq_true rfl, Nat.le_of_ble_eq_true rfl⟩) hA hw [2, 1] [0] rfl rfl rfl (by decide) (fun r_3 u_4 H locs hp hw => ?_)
  obtain ⟨rfl, rfl⟩ := hp
  have hw : rc_W E A s [(h0, .inr (12, [.int 0, .ref h1, .ref h2, .ref h3, .ref h4, .ref h5, .int 1, .int 3, .int 50, .int (-1), .int (-1), .int (-1), .int (-1), .int 0, .int 100, .int 1000, .long 0])), (q1, .inr (3, [.int 0, .int (-1), .int 0, .ref h3])), (h3, .inr (4, [.int 0, .ref (E.2.2 0), .int 0]))] H locs := hw
  refine lv_if_eq (tgt := 52) hx hb dX7_ofChangeNow_18 (by decide) (fun _ => ?_) (fun c9 => absurd (by decide) c9)
  refine lv_aload_n hx hb dX7_ofChangeNow_52 rfl (lv_at hl 2 rfl) ?_
  refine lv_iload_n hx hb dX7_ofChangeNow_53 rfl (lv_at hl 3 rfl) ?_
  refine rc_callr (wr := [(q1, .inr (3, [.int 0, .int (-1), .int 0, .ref h3]))]) (va_runV (As := [.int 0]) (rest := []) (Ts := []) ⟨hx, hb, hml, hown, fun _ h9 => absurd h9 List.not_mem_nil⟩ (cw_X7_sample_ l E _ h0 h1 h2 h3 h4 h5) (rc_cwV hAm qw_967 qw_13 qw_970 qw_969 qs_54 rfl rfl hd_X7_sample_ ⟨Nat.le_of_ble_eq_true rfl, Nat.le_of_ble_eq_true rfl⟩) (rc_preV hAm hA hw [0, 2] rfl rfl 0 rfl (q := vwCl[12]) rfl) rfl rfl hl.1 rfl (lv_room (Nat.le_of_ble_eq_true rfl)) dX7_ofChangeNow_54 ⟨Nat.le_of_ble_eq_true rfl, Nat.le_of_ble_eq_true rfl⟩) hA hw [0, 2] [1] rfl rfl rfl (by decide) (fun u_6 r_5 H locs hp hw => ?_)
  obtain ⟨q2, rfl, rfl⟩ := hp
  have hw : rc_W E A s [(q1, .inr (3, [.int 0, .int (-1), .int 0, .ref h3])), (h0, .inr (12, [.int 0, .ref h1, .ref h2, .ref h3, .ref h4, .ref h5, .int 1, .int 3, .int 50, .int (-1), .int (-1), .int (-1), .int (-1), .int 0, .int 100, .int 1000, .long 0])), (h3, .inr (4, [.int 0, .ref (E.2.2 0), .int 0])), (q2, .inl (E.2.1 0, 0, .inl (va_cpy (fun _ => 0) (fun _ => 0) 6 0 0)))] H locs := hw
  refine lv_astore (lv' := [(4, .ref q2), (3, .int 0), (0, .ref h0), (1, .int 0), (2, .int 2)]) hx hb dX7_ofChangeNow_57 hl (by decide) rfl (fun ls hl => ?_)
  refine lv_aload hx hb dX7_ofChangeNow_59 (lv_at hl 0 rfl) ?_
  refine rc_callv (wr := [(q1, .inr (3, [.int 0, .int (-1), .int 0, .ref h3])), (h0, .inr (12, [.int 0, .ref h1, .ref h2, .ref h3, .ref h4, .ref h5, .int 1, .int 3, .int 50, .int (-1), .int (-1), .int (-1), .int (-1), .int 0, .int 100, .int 1000, .long 0])), (h3, .inr (4, [.int 0, .ref (E.2.2 0), .int 0]))]) (va_runS (As := [.ref q2]) (rest := []) (Ts := []) ⟨hx, hb, hml, hown, fun _ h9 => absurd h9 List.not_mem_nil⟩ (cw_J7_sort_2022b l E _ q2 (va_cpy (fun _ => 0) (fun _ => 0) 6 0 0)) (rc_cwS hAm qw_1241 qw_11 qw_1243 qw_1242 rfl rfl hd_J7_sort_2022b ⟨Nat.le_of_ble_eq_true rfl, Nat.le_of_ble_eq_true rfl⟩) (rc_preS hAm hA hw [3] rfl rfl) rfl rfl hl.1 rfl (lv_room (Nat.le_of_ble_eq_true rfl)) dX7_ofChangeNow_61 ⟨Nat.le_of_ble_eq_true rfl, Nat.le_of_ble_eq_true rfl⟩) hA hw [3] [0, 1, 2] rfl rfl rfl (by decide) (fun u_8 H locs hp hw => ?_)
  obtain ⟨rfl⟩ := hp
  have hw : rc_W E A s [(q1, .inr (3, [.int 0, .int (-1), .int 0, .ref h3])), (h0, .inr (12, [.int 0, .ref h1, .ref h2, .ref h3, .ref h4, .ref h5, .int 1, .int 3, .int 50, .int (-1), .int (-1), .int (-1), .int (-1), .int 0, .int 100, .int 1000, .long 0])), (h3, .inr (4, [.int 0, .ref (E.2.2 0), .int 0])), (q2, .inl (E.2.1 0, 0, .inl (va_cpy (fun _ => 0) (fun _ => 0) 6 0 0)))] H locs := hw
  refine lv_aload hx hb dX7_ofChangeNow_64 (lv_at hl 0 rfl) ?_
  refine rc_alen hx hb hAm hw 3 0 rfl rfl 0 rfl dX7_ofChangeNow_66 ?_
  refine lv_iconst (v := 1) hx hb dX7_ofChangeNow_67 (by decide) ?_
  refine lv_isub hx hb dX7_ofChangeNow_68 ?_
  refine rc_topi (-1) (by decide) ?_
  refine lv_istore (lv' := [(5, .int (-1)), (4, .ref q2), (3, .int 0), (0, .ref h0), (1, .int 0), (2, .int 2)]) hx hb dX7_ofChangeNow_69 hl (by decide) rfl (fun ls hl => ?_)
  refine lv_iload_n hx hb dX7_ofChangeNow_71 rfl (lv_at hl 5 rfl) ?_
  refine lv_tableIn (tgt := 114) hx hb dX7_ofChangeNow_72 (by decide) (by decide) rfl (by decide) ?_
  refine lv_iload hx hb dX7_ofChangeNow_114 (lv_at hl 0 rfl) ?_
  refine lv_if_ge (tgt := 123) hx hb dX7_ofChangeNow_116 (by decide) (fun c9 => absurd c9 (by decide)) (fun _ => ?_)
  refine lv_iconst (v := (-1)) hx hb dX7_ofChangeNow_119 (by decide) ?_
  refine lv_goto (tgt := 130) hx hb dX7_ofChangeNow_120 (by decide) ?_
  exact rc_iret (v := (-1)) hx hb hr hlocks hw [(h0, .inr (12, [.int 0, .ref h1, .ref h2, .ref h3, .ref h4, .ref h5, .int 1, .int 3, .int 50, .int (-1), .int (-1), .int (-1), .int (-1), .int 0, .int 100, .int 1000, .long 0])), (h3, .inr (4, [.int 0, .ref (E.2.2 0), .int 0]))] (⟨rfl, rfl⟩) [1, 2] rfl (by decide) (Nat.le_of_ble_eq_true rfl) (Nat.le_of_ble_eq_true rfl) dX7_ofChangeNow_130
set_option maxHeartbeats 4000000 in
set_option maxRecDepth 100000 in
theorem cw_X7_ofChange_5 (l : Launch) (E : rc_E) (sz : Nat) (h0 : Nat) (h1 : Nat) (h2 : Nat) (h3 : Nat) (h4 : Nat) (h5 : Nat) : rc_Mi l yX7_ofChange [Cond.code yX7_ofChange cX7_ofChange 3 (some FieldType.int)] { frames := 6, cells := 3, slots := 10, locals := 157 } E [.ref h0, .int 0, .int 2] [(h0, .inr (12, [.int 0, .ref h1, .ref h2, .ref h3, .ref h4, .ref h5, .int 1, .int 3, .int 50, .int (-1), .int (-1), .int (-1), .int (-1), .int 0, .int 100, .int 1000, .long 0])), (h3, .inr (4, [.int 0, .ref (E.2.2 0), .int 0]))] sz (S := va_W) (fun (r : Int32) (u : va_W) => ((-1) = r ∧ u = [(h0, .inr (12, [.int 0, .ref h1, .ref h2, .ref h3, .ref h4, .ref h5, .int 1, .int 3, .int 50, .int (-1), .int (-1), .int (-1), .int (-1), .int 0, .int 100, .int 1000, .long 0])), (h3, .inr (4, [.int 0, .ref (E.2.2 0), .int 0]))])) (fun u => u) 3 10 := by
  refine rc_ini (cc := cX7_ofChange) (maxL := 3) (ret := (some FieldType.int)) (by decide) rfl (Nat.le_of_ble_eq_true rfl) ?_
  intro p e s m args below meth c ls A hx hb hr hml _ hown hlocks hin hA hAm hw hl
  have hown : s.vm.findClass RX7 = some m.cls := hown
  have hl : lv_has ls 3 [(0, .ref h0), (1, .int 0), (2, .int 2)] := hl
  refine lv_aload_n hx hb dX7_ofChange_0 rfl (lv_at hl 0 rfl) ?_
  refine lv_iconst (v := 0) hx hb dX7_ofChange_1 (by decide) ?_
  refine rc_put hx hb hown hAm hw lyX7 tyX7 tyX7_ok nmX7 0 rfl rfl 0 (by decide) qw_860 (fun _ h9 => h9) rfl rfl (by decide +kernel) (Nat.le_of_ble_eq_true rfl) [(h0, .inr (12, [.int 0, .ref h1, .ref h2, .ref h3, .ref h4, .ref h5, .int 1, .int 3, .int 50, .int (-1), .int (-1), .int (-1), .int (-1), .int 0, .int 100, .int 1000, .long 0])), (h3, .inr (4, [.int 0, .ref (E.2.2 0), .int 0]))] rfl dX7_ofChange_2 (fun H locs hw => ?_)
  refine lv_aload_n hx hb dX7_ofChange_5 rfl (lv_at hl 0 rfl) ?_
  refine lv_iload_n hx hb dX7_ofChange_6 rfl (lv_at hl 1 rfl) ?_
  refine rc_calli (wr := [(h3, .inr (4, [.int 0, .ref (E.2.2 0), .int 0]))]) (va_runV (As := [.int 0]) (rest := []) (Ts := []) ⟨hx, hb, hml, hown, fun _ h9 => absurd h9 List.not_mem_nil⟩ (cw_X7_isChange_2 l E _ h0 h1 h2 h3 h4 h5) (rc_cwV hAm qw_1353 qw_13 qw_1356 qw_1355 qs_62 rfl rfl hd_X7_isChange ⟨Nat.le_of_ble_eq_true rfl, Nat.le_of_ble_eq_true rfl⟩) (rc_preV hAm hA hw [0] rfl rfl 0 rfl (q := vwCl[12]) rfl) rfl rfl hl.1 rfl (lv_room (Nat.le_of_ble_eq_true rfl)) dX7_ofChange_7 ⟨Nat.le_of_ble_eq_true rfl, Nat.le_of_ble_eq_true rfl⟩) hA hw [0] [1] rfl rfl rfl (by decide) (fun r_1 u_2 H locs hp hw => ?_)
  obtain ⟨rfl, rfl⟩ := hp
  have hw : rc_W E A s [(h3, .inr (4, [.int 0, .ref (E.2.2 0), .int 0])), (h0, .inr (12, [.int 0, .ref h1, .ref h2, .ref h3, .ref h4, .ref h5, .int 1, .int 3, .int 50, .int (-1), .int (-1), .int (-1), .int (-1), .int 0, .int 100, .int 1000, .long 0]))] H locs := hw
  refine lv_if_ne (tgt := 19) hx hb dX7_ofChange_10 (by decide) (fun _ => ?_) (fun c9 => absurd c9 (by decide))
  refine lv_iload_n hx hb dX7_ofChange_19 rfl (lv_at hl 2 rfl) ?_
  refine lv_iconst (v := 0) hx hb dX7_ofChange_20 (by decide) ?_
  refine lv_iconst (v := 5) hx hb dX7_ofChange_21 (by decide) ?_
  refine rc_calli (wr := [(h3, .inr (4, [.int 0, .ref (E.2.2 0), .int 0])), (h0, .inr (12, [.int 0, .ref h1, .ref h2, .ref h3, .ref h4, .ref h5, .int 1, .int 3, .int 50, .int (-1), .int (-1), .int (-1), .int (-1), .int 0, .int 100, .int 1000, .long 0]))]) (va_runS (As := [.int 2, .int 0, .int 5]) (rest := []) (Ts := []) ⟨hx, hb, hml, hown, fun _ h9 => absurd h9 List.not_mem_nil⟩ (cw_X7_is_57 l E _) (rc_cwS hAm qw_921 qw_13 qw_923 qw_922 rfl rfl hd_X7_is ⟨Nat.le_of_ble_eq_true rfl, Nat.le_of_ble_eq_true rfl⟩) (rc_preS hAm hA hw [] rfl rfl) rfl rfl hl.1 rfl (lv_room (Nat.le_of_ble_eq_true rfl)) dX7_ofChange_22 ⟨Nat.le_of_ble_eq_true rfl, Nat.le_of_ble_eq_true rfl⟩) hA hw [] [0, 1] rfl rfl rfl (by decide) (fun r_3 u_4 H locs hp hw => ?_)
  obtain ⟨rfl, rfl⟩ := hp
  have hw : rc_W E A s [(h3, .inr (4, [.int 0, .ref (E.2.2 0), .int 0])), (h0, .inr (12, [.int 0, .ref h1, .ref h2, .ref h3, .ref h4, .ref h5, .int 1, .int 3, .int 50, .int (-1), .int (-1), .int (-1), .int (-1), .int 0, .int 100, .int 1000, .long 0]))] H locs := hw
  refine lv_if_eq (tgt := 37) hx hb dX7_ofChange_25 (by decide) (fun c9 => absurd c9 (by decide)) (fun _ => ?_)
  refine lv_aload_n hx hb dX7_ofChange_28 rfl (lv_at hl 0 rfl) ?_
  refine lv_iload_n hx hb dX7_ofChange_29 rfl (lv_at hl 1 rfl) ?_
  refine lv_iload_n hx hb dX7_ofChange_30 rfl (lv_at hl 2 rfl) ?_
  refine rc_calli (wr := []) (va_runV (As := [.int 0, .int 2]) (rest := []) (Ts := []) ⟨hx, hb, hml, hown, fun _ h9 => absurd h9 List.not_mem_nil⟩ (cw_X7_ofChangeNow_10 l E _ h0 h1 h2 h3 h4 h5) (rc_cwV hAm qw_1377 qw_13 qw_1380 qw_1379 qs_65 rfl rfl hd_X7_ofChangeNow ⟨Nat.le_of_ble_eq_true rfl, Nat.le_of_ble_eq_true rfl⟩) (rc_preV hAm hA hw [1, 0] rfl rfl 1 rfl (q := vwCl[12]) rfl) rfl rfl hl.1 rfl (lv_room (Nat.le_of_ble_eq_true rfl)) dX7_ofChange_31 ⟨Nat.le_of_ble_eq_true rfl, Nat.le_of_ble_eq_true rfl⟩) hA hw [1, 0] [] rfl rfl rfl (by decide) (fun r_5 u_6 H locs hp hw => ?_)
  obtain ⟨rfl, rfl⟩ := hp
  have hw : rc_W E A s [(h0, .inr (12, [.int 0, .ref h1, .ref h2, .ref h3, .ref h4, .ref h5, .int 1, .int 3, .int 50, .int (-1), .int (-1), .int (-1), .int (-1), .int 0, .int 100, .int 1000, .long 0])), (h3, .inr (4, [.int 0, .ref (E.2.2 0), .int 0]))] H locs := hw
  refine lv_goto (tgt := 42) hx hb dX7_ofChange_34 (by decide) ?_
  exact rc_iret (v := (-1)) hx hb hr hlocks hw [(h0, .inr (12, [.int 0, .ref h1, .ref h2, .ref h3, .ref h4, .ref h5, .int 1, .int 3, .int 50, .int (-1), .int (-1), .int (-1), .int (-1), .int 0, .int 100, .int 1000, .long 0])), (h3, .inr (4, [.int 0, .ref (E.2.2 0), .int 0]))] (⟨rfl, rfl⟩) [0, 1] rfl (by decide) (Nat.le_of_ble_eq_true rfl) (Nat.le_of_ble_eq_true rfl) dX7_ofChange_42
set_option maxHeartbeats 4000000 in
set_option maxRecDepth 100000 in
theorem cw_X7_is_58 (l : Launch) (E : rc_E) (sz : Nat) : rc_Mi l yX7_is [Cond.code yX7_is cX7_is 3 (some FieldType.boolean)] { frames := 0, cells := 0, slots := 0, locals := 0 } E [.int 3, .int 0, .int 5] [] sz (S := va_W) (fun (r : Int32) (u : va_W) => (1 = r ∧ u = [])) (fun u => u) 0 0 := by
  refine rc_ini (cc := cX7_is) (maxL := 3) (ret := (some FieldType.boolean)) (by decide) rfl (Nat.le_of_ble_eq_true rfl) ?_
  intro p e s m args below meth c ls A hx hb hr hml _ hown hlocks hin hA hAm hw hl
  have hown : s.vm.findClass RX7 = some m.cls := hown
  have hl : lv_has ls 3 [(0, .int 3), (1, .int 0), (2, .int 5)] := hl
  refine lv_iload_n hx hb dX7_is_0 rfl (lv_at hl 0 rfl) ?_
  refine lv_iload_n hx hb dX7_is_1 rfl (lv_at hl 1 rfl) ?_
  refine lv_icmp_lt (tgt := 14) hx hb dX7_is_2 (by decide) (fun c9 => absurd c9 (by decide)) (fun _ => ?_)
  refine lv_iload_n hx hb dX7_is_5 rfl (lv_at hl 0 rfl) ?_
  refine lv_iload_n hx hb dX7_is_6 rfl (lv_at hl 2 rfl) ?_
  refine lv_icmp_gt (tgt := 14) hx hb dX7_is_7 (by decide) (fun c9 => absurd c9 (by decide)) (fun _ => ?_)
  refine lv_iconst (v := 1) hx hb dX7_is_10 (by decide) ?_
  refine lv_goto (tgt := 15) hx hb dX7_is_11 (by decide) ?_
  exact rc_zret (v := 1) hx hb hr hlocks hw rfl [] (⟨rfl, rfl⟩) [] rfl (by decide) (Nat.le_of_ble_eq_true rfl) (Nat.le_of_ble_eq_true rfl) dX7_is_15
set_option maxHeartbeats 4000000 in
set_option maxRecDepth 100000 in
theorem cw_X7_ofChangeNow_11 (l : Launch) (E : rc_E) (sz : Nat) (h0 : Nat) (h1 : Nat) (h2 : Nat) (h3 : Nat) (h4 : Nat) (h5 : Nat) : rc_Mi l yX7_ofChangeNow [Cond.code yX7_ofChangeNow cX7_ofChangeNow 6 (some FieldType.int)] { frames := 5, cells := 3, slots := 10, locals := 132 } E [.ref h0, .int 0, .int 3] [(h0, .inr (12, [.int 0, .ref h1, .ref h2, .ref h3, .ref h4, .ref h5, .int 1, .int 3, .int 50, .int (-1), .int (-1), .int (-1), .int (-1), .int 0, .int 100, .int 1000, .long 0])), (h3, .inr (4, [.int 0, .ref (E.2.2 0), .int 0]))] sz (S := va_W) (fun (r : Int32) (u : va_W) => ((-1) = r ∧ u = [(h0, .inr (12, [.int 0, .ref h1, .ref h2, .ref h3, .ref h4, .ref h5, .int 1, .int 3, .int 50, .int (-1), .int (-1), .int (-1), .int (-1), .int 0, .int 100, .int 1000, .long 0])), (h3, .inr (4, [.int 0, .ref (E.2.2 0), .int 0]))])) (fun u => u) 3 10 := by
  refine rc_ini (cc := cX7_ofChangeNow) (maxL := 6) (ret := (some FieldType.int)) (by decide) rfl (Nat.le_of_ble_eq_true rfl) ?_
  intro p e s m args below meth c ls A hx hb hr hml _ hown hlocks hin hA hAm hw hl
  have hown : s.vm.findClass RX7 = some m.cls := hown
  have hl : lv_has ls 6 [(0, .ref h0), (1, .int 0), (2, .int 3)] := hl
  refine lv_iconst (v := 0) hx hb dX7_ofChangeNow_0 (by decide) ?_
  refine lv_istore_n (lv' := [(3, .int 0), (0, .ref h0), (1, .int 0), (2, .int 3)]) hx hb dX7_ofChangeNow_1 rfl hl (by decide) rfl (fun ls hl => ?_)
  refine lv_aload_n hx hb dX7_ofChangeNow_2 rfl (lv_at hl 1 rfl) ?_
  refine rc_get (v := .ref h3) hx hb hown hAm hw lyX7 0 rfl rfl 3 (by decide) qw_863 (fun _ h9 => h9) rfl dX7_ofChangeNow_3 ?_
  refine rc_callr (wr := [(h0, .inr (12, [.int 0, .ref h1, .ref h2, .ref h3, .ref h4, .ref h5, .int 1, .int 3, .int 50, .int (-1), .int (-1), .int (-1), .int (-1), .int 0, .int 100, .int 1000, .long 0]))]) (va_runV (As := []) (rest := []) (Ts := []) ⟨hx, hb, hml, hown, fun _ h9 => absurd h9 List.not_mem_nil⟩ (cw_Jx4a65c_iterator_32c93 l E _ h3) (rc_cwV hAm qw_1295 qw_4 qw_1298 qw_1296 qw_1297 rfl rfl hd_Jx4a65c_iterator_32c93 ⟨Nat.le_of_ble_eq_true rfl, Nat.le_of_ble_eq_true rfl⟩) (rc_preV hAm hA hw [1] rfl rfl 1 rfl (q := vwCl[4]) rfl) rfl rfl hl.1 rfl (lv_room (Nat.le_of_ble_eq_true rfl)) dX7_ofChangeNow_6 ⟨Nat.le_of_ble_eq_true rfl, Nat.le_of_ble_eq_true rfl⟩) hA hw [1] [0] rfl rfl rfl (by decide) (fun u_2 r_1 H locs hp hw => ?_)
  obtain ⟨q1, rfl, rfl⟩ := hp
  have hw : rc_W E A s [(h0, .inr (12, [.int 0, .ref h1, .ref h2, .ref h3, .ref h4, .ref h5, .int 1, .int 3, .int 50, .int (-1), .int (-1), .int (-1), .int (-1), .int 0, .int 100, .int 1000, .long 0])), (h3, .inr (4, [.int 0, .ref (E.2.2 0), .int 0])), (q1, .inr (3, [.int 0, .int (-1), .int 0, .ref h3]))] H locs := hw
  refine lv_astore (lv' := [(4, .ref q1), (3, .int 0), (0, .ref h0), (1, .int 0), (2, .int 3)]) hx hb dX7_ofChangeNow_9 hl (by decide) rfl (fun ls hl => ?_)
  refine lv_aload hx hb dX7_ofChangeNow_11 (lv_at hl 0 rfl) ?_
  refine rc_callFi (wr := [(h0, .inr (12, [.int 0, .ref h1, .ref h2, .ref h3, .ref h4, .ref h5, .int 1, .int 3, .int 50, .int (-1), .int (-1), .int (-1), .int (-1), .int 0, .int 100, .int 1000, .long 0]))]) (va_runF (As := []) (rest := []) (Ts := []) ((hAm.K.1 3 _ rfl).2) ⟨hx, hb, hml, hown, fun _ h9 => absurd h9 List.not_mem_nil⟩ (cw_Jx35411_hasNext_aae02 l E _ q1 h3) (rc_cwF (C := "java/util/ArrayList$Itr") (n := 0) hAm qw_1319 qw_32 qw_1327 qw_1325 qw_1323 qw_1321 qw_1320 (by decide +kernel) qw_1326 qw_1324 qw_1322 rfl rfl (by decide +kernel) ⟨Nat.le_of_ble_eq_true rfl, Nat.le_of_ble_eq_true rfl⟩) (rc_preV hAm hA hw [2, 1] rfl rfl 2 rfl (q := vwCl[3]) rfl) rfl rfl hl.1 rfl (lv_room (Nat.le_of_ble_eq_true rfl)) dX7_ofChangeNow_13 ⟨Nat.le_of_ble_eq_true rfl, Nat.le_of_ble_eq_true rfl⟩) hA hw [2, 1] [0] rfl rfl rfl (by decide) (fun r_3 u_4 H locs hp hw => ?_)
  obtain ⟨rfl, rfl⟩ := hp
  have hw : rc_W E A s [(h0, .inr (12, [.int 0, .ref h1, .ref h2, .ref h3, .ref h4, .ref h5, .int 1, .int 3, .int 50, .int (-1), .int (-1), .int (-1), .int (-1), .int 0, .int 100, .int 1000, .long 0])), (q1, .inr (3, [.int 0, .int (-1), .int 0, .ref h3])), (h3, .inr (4, [.int 0, .ref (E.2.2 0), .int 0]))] H locs := hw
  refine lv_if_eq (tgt := 52) hx hb dX7_ofChangeNow_18 (by decide) (fun _ => ?_) (fun c9 => absurd (by decide) c9)
  refine lv_aload_n hx hb dX7_ofChangeNow_52 rfl (lv_at hl 2 rfl) ?_
  refine lv_iload_n hx hb dX7_ofChangeNow_53 rfl (lv_at hl 3 rfl) ?_
  refine rc_callr (wr := [(q1, .inr (3, [.int 0, .int (-1), .int 0, .ref h3]))]) (va_runV (As := [.int 0]) (rest := []) (Ts := []) ⟨hx, hb, hml, hown, fun _ h9 => absurd h9 List.not_mem_nil⟩ (cw_X7_sample_ l E _ h0 h1 h2 h3 h4 h5) (rc_cwV hAm qw_967 qw_13 qw_970 qw_969 qs_54 rfl rfl hd_X7_sample_ ⟨Nat.le_of_ble_eq_true rfl, Nat.le_of_ble_eq_true rfl⟩) (rc_preV hAm hA hw [0, 2] rfl rfl 0 rfl (q := vwCl[12]) rfl) rfl rfl hl.1 rfl (lv_room (Nat.le_of_ble_eq_true rfl)) dX7_ofChangeNow_54 ⟨Nat.le_of_ble_eq_true rfl, Nat.le_of_ble_eq_true rfl⟩) hA hw [0, 2] [1] rfl rfl rfl (by decide) (fun u_6 r_5 H locs hp hw => ?_)
  obtain ⟨q2, rfl, rfl⟩ := hp
  have hw : rc_W E A s [(q1, .inr (3, [.int 0, .int (-1), .int 0, .ref h3])), (h0, .inr (12, [.int 0, .ref h1, .ref h2, .ref h3, .ref h4, .ref h5, .int 1, .int 3, .int 50, .int (-1), .int (-1), .int (-1), .int (-1), .int 0, .int 100, .int 1000, .long 0])), (h3, .inr (4, [.int 0, .ref (E.2.2 0), .int 0])), (q2, .inl (E.2.1 0, 0, .inl (va_cpy (fun _ => 0) (fun _ => 0) 6 0 0)))] H locs := hw
  refine lv_astore (lv' := [(4, .ref q2), (3, .int 0), (0, .ref h0), (1, .int 0), (2, .int 3)]) hx hb dX7_ofChangeNow_57 hl (by decide) rfl (fun ls hl => ?_)
  refine lv_aload hx hb dX7_ofChangeNow_59 (lv_at hl 0 rfl) ?_
  refine rc_callv (wr := [(q1, .inr (3, [.int 0, .int (-1), .int 0, .ref h3])), (h0, .inr (12, [.int 0, .ref h1, .ref h2, .ref h3, .ref h4, .ref h5, .int 1, .int 3, .int 50, .int (-1), .int (-1), .int (-1), .int (-1), .int 0, .int 100, .int 1000, .long 0])), (h3, .inr (4, [.int 0, .ref (E.2.2 0), .int 0]))]) (va_runS (As := [.ref q2]) (rest := []) (Ts := []) ⟨hx, hb, hml, hown, fun _ h9 => absurd h9 List.not_mem_nil⟩ (cw_J7_sort_2022b l E _ q2 (va_cpy (fun _ => 0) (fun _ => 0) 6 0 0)) (rc_cwS hAm qw_1241 qw_11 qw_1243 qw_1242 rfl rfl hd_J7_sort_2022b ⟨Nat.le_of_ble_eq_true rfl, Nat.le_of_ble_eq_true rfl⟩) (rc_preS hAm hA hw [3] rfl rfl) rfl rfl hl.1 rfl (lv_room (Nat.le_of_ble_eq_true rfl)) dX7_ofChangeNow_61 ⟨Nat.le_of_ble_eq_true rfl, Nat.le_of_ble_eq_true rfl⟩) hA hw [3] [0, 1, 2] rfl rfl rfl (by decide) (fun u_8 H locs hp hw => ?_)
  obtain ⟨rfl⟩ := hp
  have hw : rc_W E A s [(q1, .inr (3, [.int 0, .int (-1), .int 0, .ref h3])), (h0, .inr (12, [.int 0, .ref h1, .ref h2, .ref h3, .ref h4, .ref h5, .int 1, .int 3, .int 50, .int (-1), .int (-1), .int (-1), .int (-1), .int 0, .int 100, .int 1000, .long 0])), (h3, .inr (4, [.int 0, .ref (E.2.2 0), .int 0])), (q2, .inl (E.2.1 0, 0, .inl (va_cpy (fun _ => 0) (fun _ => 0) 6 0 0)))] H locs := hw
  refine lv_aload hx hb dX7_ofChangeNow_64 (lv_at hl 0 rfl) ?_
  refine rc_alen hx hb hAm hw 3 0 rfl rfl 0 rfl dX7_ofChangeNow_66 ?_
  refine lv_iconst (v := 1) hx hb dX7_ofChangeNow_67 (by decide) ?_
  refine lv_isub hx hb dX7_ofChangeNow_68 ?_
  refine rc_topi (-1) (by decide) ?_
  refine lv_istore (lv' := [(5, .int (-1)), (4, .ref q2), (3, .int 0), (0, .ref h0), (1, .int 0), (2, .int 3)]) hx hb dX7_ofChangeNow_69 hl (by decide) rfl (fun ls hl => ?_)
  refine lv_iload_n hx hb dX7_ofChangeNow_71 rfl (lv_at hl 5 rfl) ?_
  refine lv_tableIn (tgt := 131) hx hb dX7_ofChangeNow_72 (by decide) (by decide) rfl (by decide) ?_
  refine lv_iload hx hb dX7_ofChangeNow_131 (lv_at hl 0 rfl) ?_
  refine lv_if_ge (tgt := 140) hx hb dX7_ofChangeNow_133 (by decide) (fun c9 => absurd c9 (by decide)) (fun _ => ?_)
  refine lv_iconst (v := (-1)) hx hb dX7_ofChangeNow_136 (by decide) ?_
  refine lv_goto (tgt := 144) hx hb dX7_ofChangeNow_137 (by decide) ?_
  exact rc_iret (v := (-1)) hx hb hr hlocks hw [(h0, .inr (12, [.int 0, .ref h1, .ref h2, .ref h3, .ref h4, .ref h5, .int 1, .int 3, .int 50, .int (-1), .int (-1), .int (-1), .int (-1), .int 0, .int 100, .int 1000, .long 0])), (h3, .inr (4, [.int 0, .ref (E.2.2 0), .int 0]))] (⟨rfl, rfl⟩) [1, 2] rfl (by decide) (Nat.le_of_ble_eq_true rfl) (Nat.le_of_ble_eq_true rfl) dX7_ofChangeNow_144
set_option maxHeartbeats 4000000 in
set_option maxRecDepth 100000 in
theorem cw_X7_ofChange_6 (l : Launch) (E : rc_E) (sz : Nat) (h0 : Nat) (h1 : Nat) (h2 : Nat) (h3 : Nat) (h4 : Nat) (h5 : Nat) : rc_Mi l yX7_ofChange [Cond.code yX7_ofChange cX7_ofChange 3 (some FieldType.int)] { frames := 6, cells := 3, slots := 10, locals := 157 } E [.ref h0, .int 0, .int 3] [(h0, .inr (12, [.int 0, .ref h1, .ref h2, .ref h3, .ref h4, .ref h5, .int 1, .int 3, .int 50, .int (-1), .int (-1), .int (-1), .int (-1), .int 0, .int 100, .int 1000, .long 0])), (h3, .inr (4, [.int 0, .ref (E.2.2 0), .int 0]))] sz (S := va_W) (fun (r : Int32) (u : va_W) => ((-1) = r ∧ u = [(h0, .inr (12, [.int 0, .ref h1, .ref h2, .ref h3, .ref h4, .ref h5, .int 1, .int 3, .int 50, .int (-1), .int (-1), .int (-1), .int (-1), .int 0, .int 100, .int 1000, .long 0])), (h3, .inr (4, [.int 0, .ref (E.2.2 0), .int 0]))])) (fun u => u) 3 10 := by
  refine rc_ini (cc := cX7_ofChange) (maxL := 3) (ret := (some FieldType.int)) (by decide) rfl (Nat.le_of_ble_eq_true rfl) ?_
  intro p e s m args below meth c ls A hx hb hr hml _ hown hlocks hin hA hAm hw hl
  have hown : s.vm.findClass RX7 = some m.cls := hown
  have hl : lv_has ls 3 [(0, .ref h0), (1, .int 0), (2, .int 3)] := hl
  refine lv_aload_n hx hb dX7_ofChange_0 rfl (lv_at hl 0 rfl) ?_
  refine lv_iconst (v := 0) hx hb dX7_ofChange_1 (by decide) ?_
  refine rc_put hx hb hown hAm hw lyX7 tyX7 tyX7_ok nmX7 0 rfl rfl 0 (by decide) qw_860 (fun _ h9 => h9) rfl rfl (by decide +kernel) (Nat.le_of_ble_eq_true rfl) [(h0, .inr (12, [.int 0, .ref h1, .ref h2, .ref h3, .ref h4, .ref h5, .int 1, .int 3, .int 50, .int (-1), .int (-1), .int (-1), .int (-1), .int 0, .int 100, .int 1000, .long 0])), (h3, .inr (4, [.int 0, .ref (E.2.2 0), .int 0]))] rfl dX7_ofChange_2 (fun H locs hw => ?_)
  refine lv_aload_n hx hb dX7_ofChange_5 rfl (lv_at hl 0 rfl) ?_
  refine lv_iload_n hx hb dX7_ofChange_6 rfl (lv_at hl 1 rfl) ?_
  refine rc_calli (wr := [(h3, .inr (4, [.int 0, .ref (E.2.2 0), .int 0]))]) (va_runV (As := [.int 0]) (rest := []) (Ts := []) ⟨hx, hb, hml, hown, fun _ h9 => absurd h9 List.not_mem_nil⟩ (cw_X7_isChange_2 l E _ h0 h1 h2 h3 h4 h5) (rc_cwV hAm qw_1353 qw_13 qw_1356 qw_1355 qs_62 rfl rfl hd_X7_isChange ⟨Nat.le_of_ble_eq_true rfl, Nat.le_of_ble_eq_true rfl⟩) (rc_preV hAm hA hw [0] rfl rfl 0 rfl (q := vwCl[12]) rfl) rfl rfl hl.1 rfl (lv_room (Nat.le_of_ble_eq_true rfl)) dX7_ofChange_7 ⟨Nat.le_of_ble_eq_true rfl, Nat.le_of_ble_eq_true rfl⟩) hA hw [0] [1] rfl rfl rfl (by decide) (fun r_1 u_2 H locs hp hw => ?_)
  obtain ⟨rfl, rfl⟩ := hp
  have hw : rc_W E A s [(h3, .inr (4, [.int 0, .ref (E.2.2 0), .int 0])), (h0, .inr (12, [.int 0, .ref h1, .ref h2, .ref h3, .ref h4, .ref h5, .int 1, .int 3, .int 50, .int (-1), .int (-1), .int (-1), .int (-1), .int 0, .int 100, .int 1000, .long 0]))] H locs := hw
  refine lv_if_ne (tgt := 19) hx hb dX7_ofChange_10 (by decide) (fun _ => ?_) (fun c9 => absurd c9 (by decide))
  refine lv_iload_n hx hb dX7_ofChange_19 rfl (lv_at hl 2 rfl) ?_
  refine lv_iconst (v := 0) hx hb dX7_ofChange_20 (by decide) ?_
  refine lv_iconst (v := 5) hx hb dX7_ofChange_21 (by decide) ?_
  refine rc_calli (wr := [(h3, .inr (4, [.int 0, .ref (E.2.2 0), .int 0])), (h0, .inr (12, [.int 0, .ref h1, .ref h2, .ref h3, .ref h4, .ref h5, .int 1, .int 3, .int 50, .int (-1), .int (-1), .int (-1), .int (-1), .int 0, .int 100, .int 1000, .long 0]))]) (va_runS (As := [.int 3, .int 0, .int 5]) (rest := []) (Ts := []) ⟨hx, hb, hml, hown, fun _ h9 => absurd h9 List.not_mem_nil⟩ (cw_X7_is_58 l E _) (rc_cwS hAm qw_921 qw_13 qw_923 qw_922 rfl rfl hd_X7_is ⟨Nat.le_of_ble_eq_true rfl, Nat.le_of_ble_eq_true rfl⟩) (rc_preS hAm hA hw [] rfl rfl) rfl rfl hl.1 rfl (lv_room (Nat.le_of_ble_eq_true rfl)) dX7_ofChange_22 ⟨Nat.le_of_ble_eq_true rfl, Nat.le_of_ble_eq_true rfl⟩) hA hw [] [0, 1] rfl rfl rfl (by decide) (fun r_3 u_4 H locs hp hw => ?_)
  obtain ⟨rfl, rfl⟩ := hp
  have hw : rc_W E A s [(h3, .inr (4, [.int 0, .ref (E.2.2 0), .int 0])), (h0, .inr (12, [.int 0, .ref h1, .ref h2, .ref h3, .ref h4, .ref h5, .int 1, .int 3, .int 50, .int (-1), .int (-1), .int (-1), .int (-1), .int 0, .int 100, .int 1000, .long 0]))] H locs := hw
  refine lv_if_eq (tgt := 37) hx hb dX7_ofChange_25 (by decide) (fun c9 => absurd c9 (by decide)) (fun _ => ?_)
  refine lv_aload_n hx hb dX7_ofChange_28 rfl (lv_at hl 0 rfl) ?_
  refine lv_iload_n hx hb dX7_ofChange_29 rfl (lv_at hl 1 rfl) ?_
  refine lv_iload_n hx hb dX7_ofChange_30 rfl (lv_at hl 2 rfl) ?_
  refine rc_calli (wr := []) (va_runV (As := [.int 0, .int 3]) (rest := []) (Ts := []) ⟨hx, hb, hml, hown, fun _ h9 => absurd h9 List.not_mem_nil⟩ (cw_X7_ofChangeNow_11 l E _ h0 h1 h2 h3 h4 h5) (rc_cwV hAm qw_1377 qw_13 qw_1380 qw_1379 qs_65 rfl rfl hd_X7_ofChangeNow ⟨Nat.le_of_ble_eq_true rfl, Nat.le_of_ble_eq_true rfl⟩) (rc_preV hAm hA hw [1, 0] rfl rfl 1 rfl (q := vwCl[12]) rfl) rfl rfl hl.1 rfl (lv_room (Nat.le_of_ble_eq_true rfl)) dX7_ofChange_31 ⟨Nat.le_of_ble_eq_true rfl, Nat.le_of_ble_eq_true rfl⟩) hA hw [1, 0] [] rfl rfl rfl (by decide) (fun r_5 u_6 H locs hp hw => ?_)
  obtain ⟨rfl, rfl⟩ := hp
  have hw : rc_W E A s [(h0, .inr (12, [.int 0, .ref h1, .ref h2, .ref h3, .ref h4, .ref h5, .int 1, .int 3, .int 50, .int (-1), .int (-1), .int (-1), .int (-1), .int 0, .int 100, .int 1000, .long 0])), (h3, .inr (4, [.int 0, .ref (E.2.2 0), .int 0]))] H locs := hw
  refine lv_goto (tgt := 42) hx hb dX7_ofChange_34 (by decide) ?_
  exact rc_iret (v := (-1)) hx hb hr hlocks hw [(h0, .inr (12, [.int 0, .ref h1, .ref h2, .ref h3, .ref h4, .ref h5, .int 1, .int 3, .int 50, .int (-1), .int (-1), .int (-1), .int (-1), .int 0, .int 100, .int 1000, .long 0])), (h3, .inr (4, [.int 0, .ref (E.2.2 0), .int 0]))] (⟨rfl, rfl⟩) [0, 1] rfl (by decide) (Nat.le_of_ble_eq_true rfl) (Nat.le_of_ble_eq_true rfl) dX7_ofChange_42
set_option maxHeartbeats 4000000 in
set_option maxRecDepth 100000 in
theorem cw_X7_is_59 (l : Launch) (E : rc_E) (sz : Nat) : rc_Mi l yX7_is [Cond.code yX7_is cX7_is 3 (some FieldType.boolean)] { frames := 0, cells := 0, slots := 0, locals := 0 } E [.int 4, .int 0, .int 5] [] sz (S := va_W) (fun (r : Int32) (u : va_W) => (1 = r ∧ u = [])) (fun u => u) 0 0 := by
  refine rc_ini (cc := cX7_is) (maxL := 3) (ret := (some FieldType.boolean)) (by decide) rfl (Nat.le_of_ble_eq_true rfl) ?_
  intro p e s m args below meth c ls A hx hb hr hml _ hown hlocks hin hA hAm hw hl
  have hown : s.vm.findClass RX7 = some m.cls := hown
  have hl : lv_has ls 3 [(0, .int 4), (1, .int 0), (2, .int 5)] := hl
  refine lv_iload_n hx hb dX7_is_0 rfl (lv_at hl 0 rfl) ?_
  refine lv_iload_n hx hb dX7_is_1 rfl (lv_at hl 1 rfl) ?_
  refine lv_icmp_lt (tgt := 14) hx hb dX7_is_2 (by decide) (fun c9 => absurd c9 (by decide)) (fun _ => ?_)
  refine lv_iload_n hx hb dX7_is_5 rfl (lv_at hl 0 rfl) ?_
  refine lv_iload_n hx hb dX7_is_6 rfl (lv_at hl 2 rfl) ?_
  refine lv_icmp_gt (tgt := 14) hx hb dX7_is_7 (by decide) (fun c9 => absurd c9 (by decide)) (fun _ => ?_)
  refine lv_iconst (v := 1) hx hb dX7_is_10 (by decide) ?_
  refine lv_goto (tgt := 15) hx hb dX7_is_11 (by decide) ?_
  exact rc_zret (v := 1) hx hb hr hlocks hw rfl [] (⟨rfl, rfl⟩) [] rfl (by decide) (Nat.le_of_ble_eq_true rfl) (Nat.le_of_ble_eq_true rfl) dX7_is_15
set_option maxHeartbeats 4000000 in
set_option maxRecDepth 100000 in
theorem cw_X7_ofChangeNow_12 (l : Launch) (E : rc_E) (sz : Nat) (h0 : Nat) (h1 : Nat) (h2 : Nat) (h3 : Nat) (h4 : Nat) (h5 : Nat) : rc_Mi l yX7_ofChangeNow [Cond.code yX7_ofChangeNow cX7_ofChangeNow 6 (some FieldType.int)] { frames := 5, cells := 3, slots := 10, locals := 132 } E [.ref h0, .int 0, .int 4] [(h0, .inr (12, [.int 0, .ref h1, .ref h2, .ref h3, .ref h4, .ref h5, .int 1, .int 3, .int 50, .int (-1), .int (-1), .int (-1), .int (-1), .int 0, .int 100, .int 1000, .long 0])), (h3, .inr (4, [.int 0, .ref (E.2.2 0), .int 0]))] sz (S := va_W) (fun (r : Int32) (u : va_W) => ((-1) = r ∧ u = [(h0, .inr (12, [.int 0, .ref h1, .ref h2, .ref h3, .ref h4, .ref h5, .int 1, .int 3, .int 50, .int (-1), .int (-1), .int (-1), .int (-1), .int 0, .int 100, .int 1000, .long 0])), (h3, .inr (4, [.int 0, .ref (E.2.2 0), .int 0]))])) (fun u => u) 3 10 := by
  refine rc_ini (cc := cX7_ofChangeNow) (maxL := 6) (ret := (some FieldType.int)) (by decide) rfl (Nat.le_of_ble_eq_true rfl) ?_
  intro p e s m args below meth c ls A hx hb hr hml _ hown hlocks hin hA hAm hw hl
  have hown : s.vm.findClass RX7 = some m.cls := hown
  have hl : lv_has ls 6 [(0, .ref h0), (1, .int 0), (2, .int 4)] := hl
  refine lv_iconst (v := 0) hx hb dX7_ofChangeNow_0 (by decide) ?_
  refine lv_istore_n (lv' := [(3, .int 0), (0, .ref h0), (1, .int 0), (2, .int 4)]) hx hb dX7_ofChangeNow_1 rfl hl (by decide) rfl (fun ls hl => ?_)
  refine lv_aload_n hx hb dX7_ofChangeNow_2 rfl (lv_at hl 1 rfl) ?_
  refine rc_get (v := .ref h3) hx hb hown hAm hw lyX7 0 rfl rfl 3 (by decide) qw_863 (fun _ h9 => h9) rfl dX7_ofChangeNow_3 ?_
  refine rc_callr (wr := [(h0, .inr (12, [.int 0, .ref h1, .ref h2, .ref h3, .ref h4, .ref h5, .int 1, .int 3, .int 50, .int (-1), .int (-1), .int (-1), .int (-1), .int 0, .int 100, .int 1000, .long 0]))]) (va_runV (As := []) (rest := []) (Ts := []) ⟨hx, hb, hml, hown, fun _ h9 => absurd h9 List.not_mem_nil⟩ (cw_Jx4a65c_iterator_32c93 l E _ h3) (rc_cwV hAm qw_1295 qw_4 qw_1298 qw_1296 qw_1297 rfl rfl hd_Jx4a65c_iterator_32c93 ⟨Nat.le_of_ble_eq_true rfl, Nat.le_of_ble_eq_true rfl⟩) (rc_preV hAm hA hw [1] rfl rfl 1 rfl (q := vwCl[4]) rfl) rfl rfl hl.1 rfl (lv_room (Nat.le_of_ble_eq_true rfl)) dX7_ofChangeNow_6 ⟨Nat.le_of_ble_eq_true rfl, Nat.le_of_ble_eq_true rfl⟩) hA hw [1] [0] rfl rfl rfl (by decide) (fun u_2 r_1 H locs hp hw => ?_)
  obtain ⟨q1, rfl, rfl⟩ := hp
  have hw : rc_W E A s [(h0, .inr (12, [.int 0, .ref h1, .ref h2, .ref h3, .ref h4, .ref h5, .int 1, .int 3, .int 50, .int (-1), .int (-1), .int (-1), .int (-1), .int 0, .int 100, .int 1000, .long 0])), (h3, .inr (4, [.int 0, .ref (E.2.2 0), .int 0])), (q1, .inr (3, [.int 0, .int (-1), .int 0, .ref h3]))] H locs := hw
  refine lv_astore (lv' := [(4, .ref q1), (3, .int 0), (0, .ref h0), (1, .int 0), (2, .int 4)]) hx hb dX7_ofChangeNow_9 hl (by decide) rfl (fun ls hl => ?_)
  refine lv_aload hx hb dX7_ofChangeNow_11 (lv_at hl 0 rfl) ?_
  refine rc_callFi (wr := [(h0, .inr (12, [.int 0, .ref h1, .ref h2, .ref h3, .ref h4, .ref h5, .int 1, .int 3, .int 50, .int (-1), .int (-1), .int (-1), .int (-1), .int 0, .int 100, .int 1000, .long 0]))]) (va_runF (As := []) (rest := []) (Ts := []) ((hAm.K.1 3 _ rfl).2) ⟨hx, hb, hml, hown, fun _ h9 => absurd h9 List.not_mem_nil⟩ (cw_Jx35411_hasNext_aae02 l E _ q1 h3) (rc_cwF (C := "java/util/ArrayList$Itr") (n := 0) hAm qw_1319 qw_32 qw_1327 qw_1325 qw_1323 qw_1321 qw_1320 (by decide +kernel) qw_1326 qw_1324 qw_1322 rfl rfl (by decide +kernel) ⟨Nat.le_of_ble_eq_true rfl, Nat.le_of_ble_eq_true rfl⟩) (rc_preV hAm hA hw [2, 1] rfl rfl 2 rfl (q := vwCl[3]) rfl) rfl rfl hl.1 rfl (lv_room (Nat.le_of_ble_eq_true rfl)) dX7_ofChangeNow_13 ⟨Nat.le_of_ble_eq_true rfl, Nat.le_of_ble_eq_true rfl⟩) hA hw [2, 1] [0] rfl rfl rfl (by decide) (fun r_3 u_4 H locs hp hw => ?_)
  obtain ⟨rfl, rfl⟩ := hp
  have hw : rc_W E A s [(h0, .inr (12, [.int 0, .ref h1, .ref h2, .ref h3, .ref h4, .ref h5, .int 1, .int 3, .int 50, .int (-1), .int (-1), .int (-1), .int (-1), .int 0, .int 100, .int 1000, .long 0])), (q1, .inr (3, [.int 0, .int (-1), .int 0, .ref h3])), (h3, .inr (4, [.int 0, .ref (E.2.2 0), .int 0]))] H locs := hw
  refine lv_if_eq (tgt := 52) hx hb dX7_ofChangeNow_18 (by decide) (fun _ => ?_) (fun c9 => absurd (by decide) c9)
  refine lv_aload_n hx hb dX7_ofChangeNow_52 rfl (lv_at hl 2 rfl) ?_
  refine lv_iload_n hx hb dX7_ofChangeNow_53 rfl (lv_at hl 3 rfl) ?_
  refine rc_callr (wr := [(q1, .inr (3, [.int 0, .int (-1), .int 0, .ref h3]))]) (va_runV (As := [.int 0]) (rest := []) (Ts := []) ⟨hx, hb, hml, hown, fun _ h9 => absurd h9 List.not_mem_nil⟩ (cw_X7_sample_ l E _ h0 h1 h2 h3 h4 h5) (rc_cwV hAm qw_967 qw_13 qw_970 qw_969 qs_54 rfl rfl hd_X7_sample_ ⟨Nat.le_of_ble_eq_true rfl, Nat.le_of_ble_eq_true rfl⟩) (rc_preV hAm hA hw [0, 2] rfl rfl 0 rfl (q := vwCl[12]) rfl) rfl rfl hl.1 rfl (lv_room (Nat.le_of_ble_eq_true rfl)) dX7_ofChangeNow_54 ⟨Nat.le_of_ble_eq_true rfl, Nat.le_of_ble_eq_true rfl⟩) hA hw [0, 2] [1] rfl rfl rfl (by decide) (fun u_6 r_5 H locs hp hw => ?_)
  obtain ⟨q2, rfl, rfl⟩ := hp
  have hw : rc_W E A s [(q1, .inr (3, [.int 0, .int (-1), .int 0, .ref h3])), (h0, .inr (12, [.int 0, .ref h1, .ref h2, .ref h3, .ref h4, .ref h5, .int 1, .int 3, .int 50, .int (-1), .int (-1), .int (-1), .int (-1), .int 0, .int 100, .int 1000, .long 0])), (h3, .inr (4, [.int 0, .ref (E.2.2 0), .int 0])), (q2, .inl (E.2.1 0, 0, .inl (va_cpy (fun _ => 0) (fun _ => 0) 6 0 0)))] H locs := hw
  refine lv_astore (lv' := [(4, .ref q2), (3, .int 0), (0, .ref h0), (1, .int 0), (2, .int 4)]) hx hb dX7_ofChangeNow_57 hl (by decide) rfl (fun ls hl => ?_)
  refine lv_aload hx hb dX7_ofChangeNow_59 (lv_at hl 0 rfl) ?_
  refine rc_callv (wr := [(q1, .inr (3, [.int 0, .int (-1), .int 0, .ref h3])), (h0, .inr (12, [.int 0, .ref h1, .ref h2, .ref h3, .ref h4, .ref h5, .int 1, .int 3, .int 50, .int (-1), .int (-1), .int (-1), .int (-1), .int 0, .int 100, .int 1000, .long 0])), (h3, .inr (4, [.int 0, .ref (E.2.2 0), .int 0]))]) (va_runS (As := [.ref q2]) (rest := []) (Ts := []) ⟨hx, hb, hml, hown, fun _ h9 => absurd h9 List.not_mem_nil⟩ (cw_J7_sort_2022b l E _ q2 (va_cpy (fun _ => 0) (fun _ => 0) 6 0 0)) (rc_cwS hAm qw_1241 qw_11 qw_1243 qw_1242 rfl rfl hd_J7_sort_2022b ⟨Nat.le_of_ble_eq_true rfl, Nat.le_of_ble_eq_true rfl⟩) (rc_preS hAm hA hw [3] rfl rfl) rfl rfl hl.1 rfl (lv_room (Nat.le_of_ble_eq_true rfl)) dX7_ofChangeNow_61 ⟨Nat.le_of_ble_eq_true rfl, Nat.le_of_ble_eq_true rfl⟩) hA hw [3] [0, 1, 2] rfl rfl rfl (by decide) (fun u_8 H locs hp hw => ?_)
  obtain ⟨rfl⟩ := hp
  have hw : rc_W E A s [(q1, .inr (3, [.int 0, .int (-1), .int 0, .ref h3])), (h0, .inr (12, [.int 0, .ref h1, .ref h2, .ref h3, .ref h4, .ref h5, .int 1, .int 3, .int 50, .int (-1), .int (-1), .int (-1), .int (-1), .int 0, .int 100, .int 1000, .long 0])), (h3, .inr (4, [.int 0, .ref (E.2.2 0), .int 0])), (q2, .inl (E.2.1 0, 0, .inl (va_cpy (fun _ => 0) (fun _ => 0) 6 0 0)))] H locs := hw
  refine lv_aload hx hb dX7_ofChangeNow_64 (lv_at hl 0 rfl) ?_
  refine rc_alen hx hb hAm hw 3 0 rfl rfl 0 rfl dX7_ofChangeNow_66 ?_
  refine lv_iconst (v := 1) hx hb dX7_ofChangeNow_67 (by decide) ?_
  refine lv_isub hx hb dX7_ofChangeNow_68 ?_
  refine rc_topi (-1) (by decide) ?_
  refine lv_istore (lv' := [(5, .int (-1)), (4, .ref q2), (3, .int 0), (0, .ref h0), (1, .int 0), (2, .int 4)]) hx hb dX7_ofChangeNow_69 hl (by decide) rfl (fun ls hl => ?_)
  refine lv_iload_n hx hb dX7_ofChangeNow_71 rfl (lv_at hl 5 rfl) ?_
  refine lv_tableIn (tgt := 145) hx hb dX7_ofChangeNow_72 (by decide) (by decide) rfl (by decide) ?_
  refine lv_iload hx hb dX7_ofChangeNow_145 (lv_at hl 0 rfl) ?_
  refine lv_if_ge (tgt := 154) hx hb dX7_ofChangeNow_147 (by decide) (fun c9 => absurd c9 (by decide)) (fun _ => ?_)
  refine lv_iconst (v := (-1)) hx hb dX7_ofChangeNow_150 (by decide) ?_
  refine lv_goto (tgt := 159) hx hb dX7_ofChangeNow_151 (by decide) ?_
  exact rc_iret (v := (-1)) hx hb hr hlocks hw [(h0, .inr (12, [.int 0, .ref h1, .ref h2, .ref h3, .ref h4, .ref h5, .int 1, .int 3, .int 50, .int (-1), .int (-1), .int (-1), .int (-1), .int 0, .int 100, .int 1000, .long 0])), (h3, .inr (4, [.int 0, .ref (E.2.2 0), .int 0]))] (⟨rfl, rfl⟩) [1, 2] rfl (by decide) (Nat.le_of_ble_eq_true rfl) (Nat.le_of_ble_eq_true rfl) dX7_ofChangeNow_159
set_option maxHeartbeats 4000000 in
set_option maxRecDepth 100000 in
theorem cw_X7_ofChange_7 (l : Launch) (E : rc_E) (sz : Nat) (h0 : Nat) (h1 : Nat) (h2 : Nat) (h3 : Nat) (h4 : Nat) (h5 : Nat) : rc_Mi l yX7_ofChange [Cond.code yX7_ofChange cX7_ofChange 3 (some FieldType.int)] { frames := 6, cells := 3, slots := 10, locals := 157 } E [.ref h0, .int 0, .int 4] [(h0, .inr (12, [.int 0, .ref h1, .ref h2, .ref h3, .ref h4, .ref h5, .int 1, .int 3, .int 50, .int (-1), .int (-1), .int (-1), .int (-1), .int 0, .int 100, .int 1000, .long 0])), (h3, .inr (4, [.int 0, .ref (E.2.2 0), .int 0]))] sz (S := va_W) (fun (r : Int32) (u : va_W) => ((-1) = r ∧ u = [(h0, .inr (12, [.int 0, .ref h1, .ref h2, .ref h3, .ref h4, .ref h5, .int 1, .int 3, .int 50, .int (-1), .int (-1), .int (-1), .int (-1), .int 0, .int 100, .int 1000, .long 0])), (h3, .inr (4, [.int 0, .ref (E.2.2 0), .int 0]))])) (fun u => u) 3 10 := by
  refine rc_ini (cc := cX7_ofChange) (maxL := 3) (ret := (some FieldType.int)) (by decide) rfl (Nat.le_of_ble_eq_true rfl) ?_
  intro p e s m args below meth c ls A hx hb hr hml _ hown hlocks hin hA hAm hw hl
  have hown : s.vm.findClass RX7 = some m.cls := hown
  have hl : lv_has ls 3 [(0, .ref h0), (1, .int 0), (2, .int 4)] := hl
  refine lv_aload_n hx hb dX7_ofChange_0 rfl (lv_at hl 0 rfl) ?_
  refine lv_iconst (v := 0) hx hb dX7_ofChange_1 (by decide) ?_
  refine rc_put hx hb hown hAm hw lyX7 tyX7 tyX7_ok nmX7 0 rfl rfl 0 (by decide) qw_860 (fun _ h9 => h9) rfl rfl (by decide +kernel) (Nat.le_of_ble_eq_true rfl) [(h0, .inr (12, [.int 0, .ref h1, .ref h2, .ref h3, .ref h4, .ref h5, .int 1, .int 3, .int 50, .int (-1), .int (-1), .int (-1), .int (-1), .int 0, .int 100, .int 1000, .long 0])), (h3, .inr (4, [.int 0, .ref (E.2.2 0), .int 0]))] rfl dX7_ofChange_2 (fun H locs hw => ?_)
  refine lv_aload_n hx hb dX7_ofChange_5 rfl (lv_at hl 0 rfl) ?_
  refine lv_iload_n hx hb dX7_ofChange_6 rfl (lv_at hl 1 rfl) ?_
  refine rc_calli (wr := [(h3, .inr (4, [.int 0, .ref (E.2.2 0), .int 0]))]) (va_runV (As := [.int 0]) (rest := []) (Ts := []) ⟨hx, hb, hml, hown, fun _ h9 => absurd h9 List.not_mem_nil⟩ (cw_X7_isChange_2 l E _ h0 h1 h2 h3 h4 h5) (rc_cwV hAm qw_1353 qw_13 qw_1356 qw_1355 qs_62 rfl rfl hd_X7_isChange ⟨Nat.le_of_ble_eq_true rfl, Nat.le_of_ble_eq_true rfl⟩) (rc_preV hAm hA hw [0] rfl rfl 0 rfl (q := vwCl[12]) rfl) rfl rfl hl.1 rfl (lv_room (Nat.le_of_ble_eq_true rfl)) dX7_ofChange_7 ⟨Nat.le_of_ble_eq_true rfl, Nat.le_of_ble_eq_true rfl⟩) hA hw [0] [1] rfl rfl rfl (by decide) (fun r_1 u_2 H locs hp hw => ?_)
  obtain ⟨rfl, rfl⟩ := hp
  have hw : rc_W E A s [(h3, .inr (4, [.int 0, .ref (E.2.2 0), .int 0])), (h0, .inr (12, [.int 0, .ref h1, .ref h2, .ref h3, .ref h4, .ref h5, .int 1, .int 3, .int 50, .int (-1), .int (-1), .int (-1), .int (-1), .int 0, .int 100, .int 1000, .long 0]))] H locs := hw
  refine lv_if_ne (tgt := 19) hx hb dX7_ofChange_10 (by decide) (fun _ => ?_) (fun c9 => absurd c9 (by decide))
  refine lv_iload_n hx hb dX7_ofChange_19 rfl (lv_at hl 2 rfl) ?_
  refine lv_iconst (v := 0) hx hb dX7_ofChange_20 (by decide) ?_
  refine lv_iconst (v := 5) hx hb dX7_ofChange_21 (by decide) ?_
  refine rc_calli (wr := [(h3, .inr (4, [.int 0, .ref (E.2.2 0), .int 0])), (h0, .inr (12, [.int 0, .ref h1, .ref h2, .ref h3, .ref h4, .ref h5, .int 1, .int 3, .int 50, .int (-1), .int (-1), .int (-1), .int (-1), .int 0, .int 100, .int 1000, .long 0]))]) (va_runS (As := [.int 4, .int 0, .int 5]) (rest := []) (Ts := []) ⟨hx, hb, hml, hown, fun _ h9 => absurd h9 List.not_mem_nil⟩ (cw_X7_is_59 l E _) (rc_cwS hAm qw_921 qw_13 qw_923 qw_922 rfl rfl hd_X7_is ⟨Nat.le_of_ble_eq_true rfl, Nat.le_of_ble_eq_true rfl⟩) (rc_preS hAm hA hw [] rfl rfl) rfl rfl hl.1 rfl (lv_room (Nat.le_of_ble_eq_true rfl)) dX7_ofChange_22 ⟨Nat.le_of_ble_eq_true rfl, Nat.le_of_ble_eq_true rfl⟩) hA hw [] [0, 1] rfl rfl rfl (by decide) (fun r_3 u_4 H locs hp hw => ?_)
  obtain ⟨rfl, rfl⟩ := hp
  have hw : rc_W E A s [(h3, .inr (4, [.int 0, .ref (E.2.2 0), .int 0])), (h0, .inr (12, [.int 0, .ref h1, .ref h2, .ref h3, .ref h4, .ref h5, .int 1, .int 3, .int 50, .int (-1), .int (-1), .int (-1), .int (-1), .int 0, .int 100, .int 1000, .long 0]))] H locs := hw
  refine lv_if_eq (tgt := 37) hx hb dX7_ofChange_25 (by decide) (fun c9 => absurd c9 (by decide)) (fun _ => ?_)
  refine lv_aload_n hx hb dX7_ofChange_28 rfl (lv_at hl 0 rfl) ?_
  refine lv_iload_n hx hb dX7_ofChange_29 rfl (lv_at hl 1 rfl) ?_
  refine lv_iload_n hx hb dX7_ofChange_30 rfl (lv_at hl 2 rfl) ?_
  refine rc_calli (wr := []) (va_runV (As := [.int 0, .int 4]) (rest := []) (Ts := []) ⟨hx, hb, hml, hown, fun _ h9 => absurd h9 List.not_mem_nil⟩ (cw_X7_ofChangeNow_12 l E _ h0 h1 h2 h3 h4 h5) (rc_cwV hAm qw_1377 qw_13 qw_1380 qw_1379 qs_65 rfl rfl hd_X7_ofChangeNow ⟨Nat.le_of_ble_eq_true rfl, Nat.le_of_ble_eq_true rfl⟩) (rc_preV hAm hA hw [1, 0] rfl rfl 1 rfl (q := vwCl[12]) rfl) rfl rfl hl.1 rfl (lv_room (Nat.le_of_ble_eq_true rfl)) dX7_ofChange_31 ⟨Nat.le_of_ble_eq_true rfl, Nat.le_of_ble_eq_true rfl⟩) hA hw [1, 0] [] rfl rfl rfl (by decide) (fun r_5 u_6 H locs hp hw => ?_)
  obtain ⟨rfl, rfl⟩ := hp
  have hw : rc_W E A s [(h0, .inr (12, [.int 0, .ref h1, .ref h2, .ref h3, .ref h4, .ref h5, .int 1, .int 3, .int 50, .int (-1), .int (-1), .int (-1), .int (-1), .int 0, .int 100, .int 1000, .long 0])), (h3, .inr (4, [.int 0, .ref (E.2.2 0), .int 0]))] H locs := hw
  refine lv_goto (tgt := 42) hx hb dX7_ofChange_34 (by decide) ?_
  exact rc_iret (v := (-1)) hx hb hr hlocks hw [(h0, .inr (12, [.int 0, .ref h1, .ref h2, .ref h3, .ref h4, .ref h5, .int 1, .int 3, .int 50, .int (-1), .int (-1), .int (-1), .int (-1), .int 0, .int 100, .int 1000, .long 0])), (h3, .inr (4, [.int 0, .ref (E.2.2 0), .int 0]))] (⟨rfl, rfl⟩) [0, 1] rfl (by decide) (Nat.le_of_ble_eq_true rfl) (Nat.le_of_ble_eq_true rfl) dX7_ofChange_42
set_option maxHeartbeats 4000000 in
set_option maxRecDepth 100000 in
theorem cw_X7_is_60 (l : Launch) (E : rc_E) (sz : Nat) : rc_Mi l yX7_is [Cond.code yX7_is cX7_is 3 (some FieldType.boolean)] { frames := 0, cells := 0, slots := 0, locals := 0 } E [.int 5, .int 0, .int 5] [] sz (S := va_W) (fun (r : Int32) (u : va_W) => (1 = r ∧ u = [])) (fun u => u) 0 0 := by
  refine rc_ini (cc := cX7_is) (maxL := 3) (ret := (some FieldType.boolean)) (by decide) rfl (Nat.le_of_ble_eq_true rfl) ?_
  intro p e s m args below meth c ls A hx hb hr hml _ hown hlocks hin hA hAm hw hl
  have hown : s.vm.findClass RX7 = some m.cls := hown
  have hl : lv_has ls 3 [(0, .int 5), (1, .int 0), (2, .int 5)] := hl
  refine lv_iload_n hx hb dX7_is_0 rfl (lv_at hl 0 rfl) ?_
  refine lv_iload_n hx hb dX7_is_1 rfl (lv_at hl 1 rfl) ?_
  refine lv_icmp_lt (tgt := 14) hx hb dX7_is_2 (by decide) (fun c9 => absurd c9 (by decide)) (fun _ => ?_)
  refine lv_iload_n hx hb dX7_is_5 rfl (lv_at hl 0 rfl) ?_
  refine lv_iload_n hx hb dX7_is_6 rfl (lv_at hl 2 rfl) ?_
  refine lv_icmp_gt (tgt := 14) hx hb dX7_is_7 (by decide) (fun c9 => absurd c9 (by decide)) (fun _ => ?_)
  refine lv_iconst (v := 1) hx hb dX7_is_10 (by decide) ?_
  refine lv_goto (tgt := 15) hx hb dX7_is_11 (by decide) ?_
  exact rc_zret (v := 1) hx hb hr hlocks hw rfl [] (⟨rfl, rfl⟩) [] rfl (by decide) (Nat.le_of_ble_eq_true rfl) (Nat.le_of_ble_eq_true rfl) dX7_is_15
set_option maxHeartbeats 4000000 in
set_option maxRecDepth 100000 in
theorem cw_X7_ofChangeNow_13 (l : Launch) (E : rc_E) (sz : Nat) (h0 : Nat) (h1 : Nat) (h2 : Nat) (h3 : Nat) (h4 : Nat) (h5 : Nat) : rc_Mi l yX7_ofChangeNow [Cond.code yX7_ofChangeNow cX7_ofChangeNow 6 (some FieldType.int)] { frames := 5, cells := 3, slots := 10, locals := 132 } E [.ref h0, .int 0, .int 5] [(h0, .inr (12, [.int 0, .ref h1, .ref h2, .ref h3, .ref h4, .ref h5, .int 1, .int 3, .int 50, .int (-1), .int (-1), .int (-1), .int (-1), .int 0, .int 100, .int 1000, .long 0])), (h3, .inr (4, [.int 0, .ref (E.2.2 0), .int 0])), (h4, .inl (E.2.1 3, 40, .inl (fun _ => 0))), (h5, .inl (E.2.1 3, 40, .inl (fun _ => 0)))] sz (S := va_W) (fun (r : Int32) (u : va_W) => (0 = r ∧ u = [(h0, .inr (12, [.int 0, .ref h1, .ref h2, .ref h3, .ref h4, .ref h5, .int 1, .int 3, .int 50, .int (-1), .int (-1), .int (-1), .int (-1), .int 0, .int 100, .int 1000, .long 0])), (h3, .inr (4, [.int 0, .ref (E.2.2 0), .int 0])), (h4, .inl (E.2.1 3, 40, .inl (fun _ => 0))), (h5, .inl (E.2.1 3, 40, .inl (fun _ => 0)))])) (fun u => u) 3 10 := by
  refine rc_ini (cc := cX7_ofChangeNow) (maxL := 6) (ret := (some FieldType.int)) (by decide) rfl (Nat.le_of_ble_eq_true rfl) ?_
  intro p e s m args below meth c ls A hx hb hr hml _ hown hlocks hin hA hAm hw hl
  have hown : s.vm.findClass RX7 = some m.cls := hown
  have hl : lv_has ls 6 [(0, .ref h0), (1, .int 0), (2, .int 5)] := hl
  refine lv_iconst (v := 0) hx hb dX7_ofChangeNow_0 (by decide) ?_
  refine lv_istore_n (lv' := [(3, .int 0), (0, .ref h0), (1, .int 0), (2, .int 5)]) hx hb dX7_ofChangeNow_1 rfl hl (by decide) rfl (fun ls hl => ?_)
  refine lv_aload_n hx hb dX7_ofChangeNow_2 rfl (lv_at hl 1 rfl) ?_
  refine rc_get (v := .ref h3) hx hb hown hAm hw lyX7 0 rfl rfl 3 (by decide) qw_863 (fun _ h9 => h9) rfl dX7_ofChangeNow_3 ?_
  refine rc_callr (wr := [(h0, .inr (12, [.int 0, .ref h1, .ref h2, .ref h3, .ref h4, .ref h5, .int 1, .int 3, .int 50, .int (-1), .int (-1), .int (-1), .int (-1), .int 0, .int 100, .int 1000, .long 0])), (h4, .inl (E.2.1 3, 40, .inl (fun _ => 0))), (h5, .inl (E.2.1 3, 40, .inl (fun _ => 0)))]) (va_runV (As := []) (rest := []) (Ts := []) ⟨hx, hb, hml, hown, fun _ h9 => absurd h9 List.not_mem_nil⟩ (cw_Jx4a65c_iterator_32c93 l E _ h3) (rc_cwV hAm qw_1295 qw_4 qw_1298 qw_1296 qw_1297 rfl rfl hd_Jx4a65c_iterator_32c93 ⟨Nat.le_of_ble_eq_true rfl, Nat.le_of_ble_eq_true rfl⟩) (rc_preV hAm hA hw [1] rfl rfl 1 rfl (q := vwCl[4]) rfl) rfl rfl hl.1 rfl (lv_room (Nat.le_of_ble_eq_true rfl)) dX7_ofChangeNow_6 ⟨Nat.le_of_ble_eq_true rfl, Nat.le_of_ble_eq_true rfl⟩) hA hw [1] [0, 2, 3] rfl rfl rfl (by decide) (fun u_2 r_1 H locs hp hw => ?_)
  obtain ⟨q1, rfl, rfl⟩ := hp
  have hw : rc_W E A s [(h0, .inr (12, [.int 0, .ref h1, .ref h2, .ref h3, .ref h4, .ref h5, .int 1, .int 3, .int 50, .int (-1), .int (-1), .int (-1), .int (-1), .int 0, .int 100, .int 1000, .long 0])), (h4, .inl (E.2.1 3, 40, .inl (fun _ => 0))), (h5, .inl (E.2.1 3, 40, .inl (fun _ => 0))), (h3, .inr (4, [.int 0, .ref (E.2.2 0), .int 0])), (q1, .inr (3, [.int 0, .int (-1), .int 0, .ref h3]))] H locs := hw
  refine lv_astore (lv' := [(4, .ref q1), (3, .int 0), (0, .ref h0), (1, .int 0), (2, .int 5)]) hx hb dX7_ofChangeNow_9 hl (by decide) rfl (fun ls hl => ?_)
  refine lv_aload hx hb dX7_ofChangeNow_11 (lv_at hl 0 rfl) ?_
  refine rc_callFi (wr := [(h0, .inr (12, [.int 0, .ref h1, .ref h2, .ref h3, .ref h4, .ref h5, .int 1, .int 3, .int 50, .int (-1), .int (-1), .int (-1), .int (-1), .int 0, .int 100, .int 1000, .long 0])), (h4, .inl (E.2.1 3, 40, .inl (fun _ => 0))), (h5, .inl (E.2.1 3, 40, .inl (fun _ => 0)))]) (va_runF (As := []) (rest := []) (Ts := []) ((hAm.K.1 3 _ rfl).2) ⟨hx, hb, hml, hown, fun _ h9 => absurd h9 List.not_mem_nil⟩ (cw_Jx35411_hasNext_aae02 l E _ q1 h3) (rc_cwF (C := "java/util/ArrayList$Itr") (n := 0) hAm qw_1319 qw_32 qw_1327 qw_1325 qw_1323 qw_1321 qw_1320 (by decide +kernel) qw_1326 qw_1324 qw_1322 rfl rfl (by decide +kernel) ⟨Nat.le_of_ble_eq_true rfl, Nat.le_of_ble_eq_true rfl⟩) (rc_preV hAm hA hw [4, 3] rfl rfl 4 rfl (q := vwCl[3]) rfl) rfl rfl hl.1 rfl (lv_room (Nat.le_of_ble_eq_true rfl)) dX7_ofChangeNow_13 ⟨Nat.le_of_ble_eq_true rfl, Nat.le_of_ble_eq_true rfl⟩) hA hw [4, 3] [0, 1, 2] rfl rfl rfl (by decide) (fun r_3 u_4 H locs hp hw => ?_)
  obtain ⟨rfl, rfl⟩ := hp
  have hw : rc_W E A s [(h0, .inr (12, [.int 0, .ref h1, .ref h2, .ref h3, .ref h4, .ref h5, .int 1, .int 3, .int 50, .int (-1), .int (-1), .int (-1), .int (-1), .int 0, .int 100, .int 1000, .long 0])), (h4, .inl (E.2.1 3, 40, .inl (fun _ => 0))), (h5, .inl (E.2.1 3, 40, .inl (fun _ => 0))), (q1, .inr (3, [.int 0, .int (-1), .int 0, .ref h3])), (h3, .inr (4, [.int 0, .ref (E.2.2 0), .int 0]))] H locs := hw
  refine lv_if_eq (tgt := 52) hx hb dX7_ofChangeNow_18 (by decide) (fun _ => ?_) (fun c9 => absurd (by decide) c9)
  refine lv_aload_n hx hb dX7_ofChangeNow_52 rfl (lv_at hl 2 rfl) ?_
  refine lv_iload_n hx hb dX7_ofChangeNow_53 rfl (lv_at hl 3 rfl) ?_
  refine rc_callr (wr := [(h4, .inl (E.2.1 3, 40, .inl (fun _ => 0))), (h5, .inl (E.2.1 3, 40, .inl (fun _ => 0))), (q1, .inr (3, [.int 0, .int (-1), .int 0, .ref h3]))]) (va_runV (As := [.int 0]) (rest := []) (Ts := []) ⟨hx, hb, hml, hown, fun _ h9 => absurd h9 List.not_mem_nil⟩ (cw_X7_sample_ l E _ h0 h1 h2 h3 h4 h5) (rc_cwV hAm qw_967 qw_13 qw_970 qw_969 qs_54 rfl rfl hd_X7_sample_ ⟨Nat.le_of_ble_eq_true rfl, Nat.le_of_ble_eq_true rfl⟩) (rc_preV hAm hA hw [0, 4] rfl rfl 0 rfl (q := vwCl[12]) rfl) rfl rfl hl.1 rfl (lv_room (Nat.le_of_ble_eq_true rfl)) dX7_ofChangeNow_54 ⟨Nat.le_of_ble_eq_true rfl, Nat.le_of_ble_eq_true rfl⟩) hA hw [0, 4] [1, 2, 3] rfl rfl rfl (by decide) (fun u_6 r_5 H locs hp hw => ?_)
  obtain ⟨q2, rfl, rfl⟩ := hp
  have hw : rc_W E A s [(h4, .inl (E.2.1 3, 40, .inl (fun _ => 0))), (h5, .inl (E.2.1 3, 40, .inl (fun _ => 0))), (q1, .inr (3, [.int 0, .int (-1), .int 0, .ref h3])), (h0, .inr (12, [.int 0, .ref h1, .ref h2, .ref h3, .ref h4, .ref h5, .int 1, .int 3, .int 50, .int (-1), .int (-1), .int (-1), .int (-1), .int 0, .int 100, .int 1000, .long 0])), (h3, .inr (4, [.int 0, .ref (E.2.2 0), .int 0])), (q2, .inl (E.2.1 0, 0, .inl (va_cpy (fun _ => 0) (fun _ => 0) 6 0 0)))] H locs := hw
  refine lv_astore (lv' := [(4, .ref q2), (3, .int 0), (0, .ref h0), (1, .int 0), (2, .int 5)]) hx hb dX7_ofChangeNow_57 hl (by decide) rfl (fun ls hl => ?_)
  refine lv_aload hx hb dX7_ofChangeNow_59 (lv_at hl 0 rfl) ?_
  refine rc_callv (wr := [(h4, .inl (E.2.1 3, 40, .inl (fun _ => 0))), (h5, .inl (E.2.1 3, 40, .inl (fun _ => 0))), (q1, .inr (3, [.int 0, .int (-1), .int 0, .ref h3])), (h0, .inr (12, [.int 0, .ref h1, .ref h2, .ref h3, .ref h4, .ref h5, .int 1, .int 3, .int 50, .int (-1), .int (-1), .int (-1), .int (-1), .int 0, .int 100, .int 1000, .long 0])), (h3, .inr (4, [.int 0, .ref (E.2.2 0), .int 0]))]) (va_runS (As := [.ref q2]) (rest := []) (Ts := []) ⟨hx, hb, hml, hown, fun _ h9 => absurd h9 List.not_mem_nil⟩ (cw_J7_sort_2022b l E _ q2 (va_cpy (fun _ => 0) (fun _ => 0) 6 0 0)) (rc_cwS hAm qw_1241 qw_11 qw_1243 qw_1242 rfl rfl hd_J7_sort_2022b ⟨Nat.le_of_ble_eq_true rfl, Nat.le_of_ble_eq_true rfl⟩) (rc_preS hAm hA hw [5] rfl rfl) rfl rfl hl.1 rfl (lv_room (Nat.le_of_ble_eq_true rfl)) dX7_ofChangeNow_61 ⟨Nat.le_of_ble_eq_true rfl, Nat.le_of_ble_eq_true rfl⟩) hA hw [5] [0, 1, 2, 3, 4] rfl rfl rfl (by decide) (fun u_8 H locs hp hw => ?_)
  obtain ⟨rfl⟩ := hp
  have hw : rc_W E A s [(h4, .inl (E.2.1 3, 40, .inl (fun _ => 0))), (h5, .inl (E.2.1 3, 40, .inl (fun _ => 0))), (q1, .inr (3, [.int 0, .int (-1), .int 0, .ref h3])), (h0, .inr (12, [.int 0, .ref h1, .ref h2, .ref h3, .ref h4, .ref h5, .int 1, .int 3, .int 50, .int (-1), .int (-1), .int (-1), .int (-1), .int 0, .int 100, .int 1000, .long 0])), (h3, .inr (4, [.int 0, .ref (E.2.2 0), .int 0])), (q2, .inl (E.2.1 0, 0, .inl (va_cpy (fun _ => 0) (fun _ => 0) 6 0 0)))] H locs := hw
  refine lv_aload hx hb dX7_ofChangeNow_64 (lv_at hl 0 rfl) ?_
  refine rc_alen hx hb hAm hw 5 0 rfl rfl 0 rfl dX7_ofChangeNow_66 ?_
  refine lv_iconst (v := 1) hx hb dX7_ofChangeNow_67 (by decide) ?_
  refine lv_isub hx hb dX7_ofChangeNow_68 ?_
  refine rc_topi (-1) (by decide) ?_
  refine lv_istore (lv' := [(5, .int (-1)), (4, .ref q2), (3, .int 0), (0, .ref h0), (1, .int 0), (2, .int 5)]) hx hb dX7_ofChangeNow_69 hl (by decide) rfl (fun ls hl => ?_)
  refine lv_iload_n hx hb dX7_ofChangeNow_71 rfl (lv_at hl 5 rfl) ?_
  refine lv_tableOut (tgt := 160) hx hb dX7_ofChangeNow_72 (by decide) (by decide) ?_
  refine lv_aload_n hx hb dX7_ofChangeNow_160 rfl (lv_at hl 3 rfl) ?_
  refine rc_get (v := .ref h5) hx hb hown hAm hw lyX7 3 rfl rfl 5 (by decide) qw_865 (fun _ h9 => h9) rfl dX7_ofChangeNow_161 ?_
  refine lv_iload_n hx hb dX7_ofChangeNow_164 rfl (lv_at hl 4 rfl) ?_
  refine rc_zald hx hb hAm hw 1 rfl (vp_in_iff.mpr (by decide)) dX7_ofChangeNow_165 ?_
  refine rc_topi 0 rfl ?_
  refine lv_if_eq (tgt := 173) hx hb dX7_ofChangeNow_166 (by decide) (fun _ => ?_) (fun c9 => absurd (by decide) c9)
  refine lv_aload_n hx hb dX7_ofChangeNow_173 rfl (lv_at hl 3 rfl) ?_
  refine rc_get (v := .ref h4) hx hb hown hAm hw lyX7 3 rfl rfl 4 (by decide) qw_864 (fun _ h9 => h9) rfl dX7_ofChangeNow_174 ?_
  refine lv_iload_n hx hb dX7_ofChangeNow_177 rfl (lv_at hl 4 rfl) ?_
  refine rc_zald hx hb hAm hw 0 rfl (vp_in_iff.mpr (by decide)) dX7_ofChangeNow_178 ?_
  refine rc_topi 0 rfl ?_
  refine lv_if_eq (tgt := 186) hx hb dX7_ofChangeNow_179 (by decide) (fun _ => ?_) (fun c9 => absurd (by decide) c9)
  refine lv_iconst (v := 0) hx hb dX7_ofChangeNow_186 (by decide) ?_
  exact rc_iret (v := 0) hx hb hr hlocks hw [(h0, .inr (12, [.int 0, .ref h1, .ref h2, .ref h3, .ref h4, .ref h5, .int 1, .int 3, .int 50, .int (-1), .int (-1), .int (-1), .int (-1), .int 0, .int 100, .int 1000, .long 0])), (h3, .inr (4, [.int 0, .ref (E.2.2 0), .int 0])), (h4, .inl (E.2.1 3, 40, .inl (fun _ => 0))), (h5, .inl (E.2.1 3, 40, .inl (fun _ => 0)))] (⟨rfl, rfl⟩) [3, 4, 0, 1] rfl (by decide) (Nat.le_of_ble_eq_true rfl) (Nat.le_of_ble_eq_true rfl) dX7_ofChangeNow_187
