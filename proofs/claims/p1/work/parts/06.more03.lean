set_option maxHeartbeats 4000000 in
set_option maxRecDepth 100000 in
theorem cw_X7_ofChange_8 (l : Launch) (E : rc_E) (sz : Nat) (h0 : Nat) (h1 : Nat) (h2 : Nat) (h3 : Nat) (h4 : Nat) (h5 : Nat) : rc_Mi l yX7_ofChange [Cond.code yX7_ofChange cX7_ofChange 3 (some FieldType.int)] { frames := 6, cells := 3, slots := 10, locals := 157 } E [.ref h0, .int 0, .int 5] [(h0, .inr (12, [.int 0, .ref h1, .ref h2, .ref h3, .ref h4, .ref h5, .int 1, .int 3, .int 50, .int (-1), .int (-1), .int (-1), .int (-1), .int 0, .int 100, .int 1000, .long 0])), (h3, .inr (4, [.int 0, .ref (E.2.2 0), .int 0])), (h4, .inl (E.2.1 3, 40, .inl (fun _ => 0))), (h5, .inl (E.2.1 3, 40, .inl (fun _ => 0)))] sz (S := va_W) (fun (r : Int32) (u : va_W) => (0 = r ∧ u = [(h0, .inr (12, [.int 0, .ref h1, .ref h2, .ref h3, .ref h4, .ref h5, .int 1, .int 3, .int 50, .int (-1), .int (-1), .int (-1), .int (-1), .int 0, .int 100, .int 1000, .long 0])), (h3, .inr (4, [.int 0, .ref (E.2.2 0), .int 0])), (h4, .inl (E.2.1 3, 40, .inl (fun _ => 0))), (h5, .inl (E.2.1 3, 40, .inl (fun _ => 0)))])) (fun u => u) 3 10 := by
  refine rc_ini (cc := cX7_ofChange) (maxL := 3) (ret := (some FieldType.int)) (by decide) rfl (Nat.le_of_ble_eq_true rfl) ?_
  intro p e s m args below meth c ls A hx hb hr hml _ hown hlocks hin hA hAm hw hl
  have hown : s.vm.findClass RX7 = some m.cls := hown
  have hl : lv_has ls 3 [(0, .ref h0), (1, .int 0), (2, .int 5)] := hl
  refine lv_aload_n hx hb dX7_ofChange_0 rfl (lv_at hl 0 rfl) ?_
  refine lv_iconst (v := 0) hx hb dX7_ofChange_1 (by decide) ?_
  refine rc_put hx hb hown hAm hw lyX7 tyX7 tyX7_ok nmX7 0 rfl rfl 0 (by decide) qw_860 (fun _ h9 => h9) rfl rfl (by decide +kernel) (Nat.le_of_ble_eq_true rfl) [(h0, .inr (12, [.int 0, .ref h1, .ref h2, .ref h3, .ref h4, .ref h5, .int 1, .int 3, .int 50, .int (-1), .int (-1), .int (-1), .int (-1), .int 0, .int 100, .int 1000, .long 0])), (h3, .inr (4, [.int 0, .ref (E.2.2 0), .int 0])), (h4, .inl (E.2.1 3, 40, .inl (fun _ => 0))), (h5, .inl (E.2.1 3, 40, .inl (fun _ => 0)))] rfl dX7_ofChange_2 (fun H locs hw => ?_)
  refine lv_aload_n hx hb dX7_ofChange_5 rfl (lv_at hl 0 rfl) ?_
  refine lv_iload_n hx hb dX7_ofChange_6 rfl (lv_at hl 1 rfl) ?_
  refine rc_calli (wr := [(h3, .inr (4, [.int 0, .ref (E.2.2 0), .int 0])), (h4, .inl (E.2.1 3, 40, .inl (fun _ => 0))), (h5, .inl (E.2.1 3, 40, .inl (fun _ => 0)))]) (va_runV (As := [.int 0]) (rest := []) (Ts := []) ⟨hx, hb, hml, hown, fun _ h9 => absurd h9 List.not_mem_nil⟩ (cw_X7_isChange_2 l E _ h0 h1 h2 h3 h4 h5) (rc_cwV hAm qw_1353 qw_13 qw_1356 qw_1355 qs_62 rfl rfl hd_X7_isChange ⟨Nat.le_of_ble_eq_true rfl, Nat.le_of_ble_eq_true rfl⟩) (rc_preV hAm hA hw [0] rfl rfl 0 rfl (q := vwCl[12]) rfl) rfl rfl hl.1 rfl (lv_room (Nat.le_of_ble_eq_true rfl)) dX7_ofChange_7 ⟨Nat.le_of_ble_eq_true rfl, Nat.le_of_ble_eq_true rfl⟩) hA hw [0] [1, 2, 3] rfl rfl rfl (by decide) (fun r_1 u_2 H locs hp hw => ?_)
  obtain ⟨rfl, rfl⟩ := hp
  have hw : rc_W E A s [(h3, .inr (4, [.int 0, .ref (E.2.2 0), .int 0])), (h4, .inl (E.2.1 3, 40, .inl (fun _ => 0))), (h5, .inl (E.2.1 3, 40, .inl (fun _ => 0))), (h0, .inr (12, [.int 0, .ref h1, .ref h2, .ref h3, .ref h4, .ref h5, .int 1, .int 3, .int 50, .int (-1), .int (-1), .int (-1), .int (-1), .int 0, .int 100, .int 1000, .long 0]))] H locs := hw
  refine lv_if_ne (tgt := 19) hx hb dX7_ofChange_10 (by decide) (fun _ => ?_) (fun c9 => absurd c9 (by decide))
  refine lv_iload_n hx hb dX7_ofChange_19 rfl (lv_at hl 2 rfl) ?_
  refine lv_iconst (v := 0) hx hb dX7_ofChange_20 (by decide) ?_
  refine lv_iconst (v := 5) hx hb dX7_ofChange_21 (by decide) ?_
  refine rc_calli (wr := [(h3, .inr (4, [.int 0, .ref (E.2.2 0), .int 0])), (h4, .inl (E.2.1 3, 40, .inl (fun _ => 0))), (h5, .inl (E.2.1 3, 40, .inl (fun _ => 0))), (h0, .inr (12, [.int 0, .ref h1, .ref h2, .ref h3, .ref h4, .ref h5, .int 1, .int 3, .int 50, .int (-1), .int (-1), .int (-1), .int (-1), .int 0, .int 100, .int 1000, .long 0]))]) (va_runS (As := [.int 5, .int 0, .int 5]) (rest := []) (Ts := []) ⟨hx, hb, hml, hown, fun _ h9 => absurd h9 List.not_mem_nil⟩ (cw_X7_is_60 l E _) (rc_cwS hAm qw_921 qw_13 qw_923 qw_922 rfl rfl hd_X7_is ⟨Nat.le_of_ble_eq_true rfl, Nat.le_of_ble_eq_true rfl⟩) (rc_preS hAm hA hw [] rfl rfl) rfl rfl hl.1 rfl (lv_room (Nat.le_of_ble_eq_true rfl)) dX7_ofChange_22 ⟨Nat.le_of_ble_eq_true rfl, Nat.le_of_ble_eq_true rfl⟩) hA hw [] [0, 1, 2, 3] rfl rfl rfl (by decide) (fun r_3 u_4 H locs hp hw => ?_)
  obtain ⟨rfl, rfl⟩ := hp
  have hw : rc_W E A s [(h3, .inr (4, [.int 0, .ref (E.2.2 0), .int 0])), (h4, .inl (E.2.1 3, 40, .inl (fun _ => 0))), (h5, .inl (E.2.1 3, 40, .inl (fun _ => 0))), (h0, .inr (12, [.int 0, .ref h1, .ref h2, .ref h3, .ref h4, .ref h5, .int 1, .int 3, .int 50, .int (-1), .int (-1), .int (-1), .int (-1), .int 0, .int 100, .int 1000, .long 0]))] H locs := hw
  refine lv_if_eq (tgt := 37) hx hb dX7_ofChange_25 (by decide) (fun c9 => absurd c9 (by decide)) (fun _ => ?_)
  refine lv_aload_n hx hb dX7_ofChange_28 rfl (lv_at hl 0 rfl) ?_
  refine lv_iload_n hx hb dX7_ofChange_29 rfl (lv_at hl 1 rfl) ?_
  refine lv_iload_n hx hb dX7_ofChange_30 rfl (lv_at hl 2 rfl) ?_
  refine rc_calli (wr := []) (va_runV (As := [.int 0, .int 5]) (rest := []) (Ts := []) ⟨hx, hb, hml, hown, fun _ h9 => absurd h9 List.not_mem_nil⟩ (cw_X7_ofChangeNow_13 l E _ h0 h1 h2 h3 h4 h5) (rc_cwV hAm qw_1377 qw_13 qw_1380 qw_1379 qs_65 rfl rfl hd_X7_ofChangeNow ⟨Nat.le_of_ble_eq_true rfl, Nat.le_of_ble_eq_true rfl⟩) (rc_preV hAm hA hw [3, 0, 1, 2] rfl rfl 3 rfl (q := vwCl[12]) rfl) rfl rfl hl.1 rfl (lv_room (Nat.le_of_ble_eq_true rfl)) dX7_ofChange_31 ⟨Nat.le_of_ble_eq_true rfl, Nat.le_of_ble_eq_true rfl⟩) hA hw [3, 0, 1, 2] [] rfl rfl rfl (by decide) (fun r_5 u_6 H locs hp hw => ?_)
  obtain ⟨rfl, rfl⟩ := hp
  have hw : rc_W E A s [(h0, .inr (12, [.int 0, .ref h1, .ref h2, .ref h3, .ref h4, .ref h5, .int 1, .int 3, .int 50, .int (-1), .int (-1), .int (-1), .int (-1), .int 0, .int 100, .int 1000, .long 0])), (h3, .inr (4, [.int 0, .ref (E.2.2 0), .int 0])), (h4, .inl (E.2.1 3, 40, .inl (fun _ => 0))), (h5, .inl (E.2.1 3, 40, .inl (fun _ => 0)))] H locs := hw
  refine lv_goto (tgt := 42) hx hb dX7_ofChange_34 (by decide) ?_
  exact rc_iret (v := 0) hx hb hr hlocks hw [(h0, .inr (12, [.int 0, .ref h1, .ref h2, .ref h3, .ref h4, .ref h5, .int 1, .int 3, .int 50, .int (-1), .int (-1), .int (-1), .int (-1), .int 0, .int 100, .int 1000, .long 0])), (h3, .inr (4, [.int 0, .ref (E.2.2 0), .int 0])), (h4, .inl (E.2.1 3, 40, .inl (fun _ => 0))), (h5, .inl (E.2.1 3, 40, .inl (fun _ => 0)))] (⟨rfl, rfl⟩) [0, 1, 2, 3] rfl (by decide) (Nat.le_of_ble_eq_true rfl) (Nat.le_of_ble_eq_true rfl) dX7_ofChange_42
theorem hd_L_verdict : yL_verdict.cls ≠ "java/lang/invoke/MethodHandle" ∧ yL_verdict.cls ≠ "java/lang/invoke/VarHandle" ∧ (parseMethodDescriptor yL_verdict.desc).map (fun d => d.parameters.length) = some 5 := by decide +kernel
theorem hd_X7_verdict : yX7_verdict.cls ≠ "java/lang/invoke/MethodHandle" ∧ yX7_verdict.cls ≠ "java/lang/invoke/VarHandle" ∧ (parseMethodDescriptor yX7_verdict.desc).map (fun d => d.parameters.length) = some 3 := by decide +kernel
set_option maxHeartbeats 4000000 in
set_option maxRecDepth 100000 in
theorem cw_X7_verdict_2 (l : Launch) (E : rc_E) (sz : Nat) (h0 : Nat) (x0 : Int32) (x1 : Int32) (h1 : Nat) (h2 : Nat) (h3 : Nat) (h4 : Nat) (h5 : Nat) : rc_Mi l yX7_verdict [Cond.code yX7_verdict cX7_verdict 4 (some FieldType.int)] { frames := 7, cells := 8, slots := 18, locals := 185 } E [.ref h0, .int 0, .int x0, .int x1] [(h0, .inr (12, [.int 0, .ref h1, .ref h2, .ref h3, .ref h4, .ref h5, .int 1, .int 3, .int 50, .int (-1), .int (-1), .int (-1), .int (-1), .int 0, .int 100, .int 1000, .long 0])), (h3, .inr (4, [.int 0, .ref (E.2.2 0), .int 0]))] sz (S := va_W) (fun (r : Int32) (u : va_W) => (x0 < 0 ∧ 0 = r ∧ u = [(h0, .inr (12, [.int 1, .ref h1, .ref h2, .ref h3, .ref h4, .ref h5, .int 1, .int 3, .int 50, .int (-1), .int (-1), .int (-1), .int (-1), .int 0, .int 100, .int 1000, .long 0])), (h3, .inr (4, [.int 0, .ref (E.2.2 0), .int 0]))]) ∨ (¬ x0 < 0 ∧ 0 < x0 ∧ 0 = r ∧ u = [(h0, .inr (12, [.int 1, .ref h1, .ref h2, .ref h3, .ref h4, .ref h5, .int 1, .int 3, .int 50, .int (-1), .int (-1), .int (-1), .int (-1), .int 0, .int 100, .int 1000, .long 0])), (h3, .inr (4, [.int 0, .ref (E.2.2 0), .int 0]))]) ∨ (x1 < 0 ∧ x0 = 0 ∧ 0 = r ∧ u = [(h0, .inr (12, [.int 2, .ref h1, .ref h2, .ref h3, .ref h4, .ref h5, .int 1, .int 3, .int 50, .int (-1), .int (-1), .int (-1), .int (-1), .int 0, .int 100, .int 1000, .long 0])), (h3, .inr (4, [.int 0, .ref (E.2.2 0), .int 0]))]) ∨ (¬ x1 < 0 ∧ 4 < x1 ∧ x0 = 0 ∧ 0 = r ∧ u = [(h0, .inr (12, [.int 2, .ref h1, .ref h2, .ref h3, .ref h4, .ref h5, .int 1, .int 3, .int 50, .int (-1), .int (-1), .int (-1), .int (-1), .int 0, .int 100, .int 1000, .long 0])), (h3, .inr (4, [.int 0, .ref (E.2.2 0), .int 0]))]) ∨ (x0 = 0 ∧ x1 = 0 ∧ 0 = r ∧ u = [(h0, .inr (12, [.int 0, .ref h1, .ref h2, .ref h3, .ref h4, .ref h5, .int 1, .int 3, .int 50, .int (-1), .int (-1), .int (-1), .int (-1), .int 0, .int 100, .int 1000, .long 0])), (h3, .inr (4, [.int 0, .ref (E.2.2 0), .int 0]))]) ∨ (x0 = 0 ∧ x1 = 1 ∧ 0 = r ∧ u = [(h0, .inr (12, [.int 0, .ref h1, .ref h2, .ref h3, .ref h4, .ref h5, .int 1, .int 3, .int 50, .int (-1), .int (-1), .int (-1), .int (-1), .int 0, .int 100, .int 1000, .long 0])), (h3, .inr (4, [.int 0, .ref (E.2.2 0), .int 0]))]) ∨ (x0 = 0 ∧ x1 = 2 ∧ 1 = r ∧ u = [(h0, .inr (12, [.int 0, .ref h1, .ref h2, .ref h3, .ref h4, .ref h5, .int 1, .int 3, .int 50, .int (-1), .int (-1), .int (-1), .int (-1), .int 0, .int 100, .int 1000, .long 0])), (h3, .inr (4, [.int 0, .ref (E.2.2 0), .int 0]))]) ∨ (x0 = 0 ∧ x1 = 3 ∧ 1 = r ∧ u = [(h0, .inr (12, [.int 0, .ref h1, .ref h2, .ref h3, .ref h4, .ref h5, .int 1, .int 3, .int 50, .int (-1), .int (-1), .int (-1), .int (-1), .int 0, .int 100, .int 1000, .long 0])), (h3, .inr (4, [.int 0, .ref (E.2.2 0), .int 0]))]) ∨ (x0 = 0 ∧ x1 = 4 ∧ 1 = r ∧ u = [(h0, .inr (12, [.int 0, .ref h1, .ref h2, .ref h3, .ref h4, .ref h5, .int 1, .int 3, .int 50, .int (-1), .int (-1), .int (-1), .int (-1), .int 0, .int 100, .int 1000, .long 0])), (h3, .inr (4, [.int 0, .ref (E.2.2 0), .int 0]))])) (fun u => u) 8 18 := by
  refine rc_ini (cc := cX7_verdict) (maxL := 4) (ret := (some FieldType.int)) (by decide) rfl (Nat.le_of_ble_eq_true rfl) ?_
  intro p e s m args below meth c ls A hx hb hr hml _ hown hlocks hin hA hAm hw hl
  have hown : s.vm.findClass RX7 = some m.cls := hown
  have hl : lv_has ls 4 [(0, .ref h0), (1, .int 0), (2, .int x0), (3, .int x1)] := hl
  refine lv_aload_n hx hb dX7_verdict_0 rfl (lv_at hl 0 rfl) ?_
  refine lv_iconst (v := 0) hx hb dX7_verdict_1 (by decide) ?_
  refine rc_put hx hb hown hAm hw lyX7 tyX7 tyX7_ok nmX7 0 rfl rfl 0 (by decide) qw_860 (fun _ h9 => h9) rfl rfl (by decide +kernel) (Nat.le_of_ble_eq_true rfl) [(h0, .inr (12, [.int 0, .ref h1, .ref h2, .ref h3, .ref h4, .ref h5, .int 1, .int 3, .int 50, .int (-1), .int (-1), .int (-1), .int (-1), .int 0, .int 100, .int 1000, .long 0])), (h3, .inr (4, [.int 0, .ref (E.2.2 0), .int 0]))] rfl dX7_verdict_2 (fun H locs hw => ?_)
  refine lv_aload_n hx hb dX7_verdict_5 rfl (lv_at hl 0 rfl) ?_
  refine lv_iload_n hx hb dX7_verdict_6 rfl (lv_at hl 1 rfl) ?_
  refine rc_calli (wr := [(h3, .inr (4, [.int 0, .ref (E.2.2 0), .int 0]))]) (va_runV (As := [.int 0]) (rest := []) (Ts := []) ⟨hx, hb, hml, hown, fun _ h9 => absurd h9 List.not_mem_nil⟩ (cw_X7_isChange_2 l E _ h0 h1 h2 h3 h4 h5) (rc_cwV hAm qw_1353 qw_13 qw_1356 qw_1355 qs_62 rfl rfl hd_X7_isChange ⟨Nat.le_of_ble_eq_true rfl, Nat.le_of_ble_eq_true rfl⟩) (rc_preV hAm hA hw [0] rfl rfl 0 rfl (q := vwCl[12]) rfl) rfl rfl hl.1 rfl (lv_room (Nat.le_of_ble_eq_true rfl)) dX7_verdict_7 ⟨Nat.le_of_ble_eq_true rfl, Nat.le_of_ble_eq_true rfl⟩) hA hw [0] [1] rfl rfl rfl (by decide) (fun r_1 u_2 H locs hp hw => ?_)
  obtain ⟨rfl, rfl⟩ := hp
  have hw : rc_W E A s [(h3, .inr (4, [.int 0, .ref (E.2.2 0), .int 0])), (h0, .inr (12, [.int 0, .ref h1, .ref h2, .ref h3, .ref h4, .ref h5, .int 1, .int 3, .int 50, .int (-1), .int (-1), .int (-1), .int (-1), .int 0, .int 100, .int 1000, .long 0]))] H locs := hw
  refine lv_if_eq (tgt := 21) hx hb dX7_verdict_10 (by decide) (fun c9 => absurd c9 (by decide)) (fun _ => ?_)
  refine lv_aload_n hx hb dX7_verdict_13 rfl (lv_at hl 0 rfl) ?_
  refine lv_iload_n hx hb dX7_verdict_14 rfl (lv_at hl 2 rfl) ?_
  refine rc_calli (wr := [(h3, .inr (4, [.int 0, .ref (E.2.2 0), .int 0]))]) (va_runV (As := [.int x0]) (rest := []) (Ts := []) ⟨hx, hb, hml, hown, fun _ h9 => absurd h9 List.not_mem_nil⟩ (cw_X7_isChange l E _ h0 x0 h1 h2 h3 h4 h5) (rc_cwV hAm qw_1353 qw_13 qw_1356 qw_1355 qs_62 rfl rfl hd_X7_isChange ⟨Nat.le_of_ble_eq_true rfl, Nat.le_of_ble_eq_true rfl⟩) (rc_preV hAm hA hw [1] rfl rfl 1 rfl (q := vwCl[12]) rfl) rfl rfl hl.1 rfl (lv_room (Nat.le_of_ble_eq_true rfl)) dX7_verdict_15 ⟨Nat.le_of_ble_eq_true rfl, Nat.le_of_ble_eq_true rfl⟩) hA hw [1] [0] rfl rfl rfl (by decide) (fun r_3 u_4 H locs hp hw => ?_)
  rcases hp with ⟨c_5, rfl, rfl⟩ | ⟨c_6, c_7, rfl, rfl⟩ | ⟨c_8, rfl, rfl⟩
  · have hw : rc_W E A s [(h3, .inr (4, [.int 0, .ref (E.2.2 0), .int 0])), (h0, .inr (12, [.int 0, .ref h1, .ref h2, .ref h3, .ref h4, .ref h5, .int 1, .int 3, .int 50, .int (-1), .int (-1), .int (-1), .int (-1), .int 0, .int 100, .int 1000, .long 0]))] H locs := hw
    refine lv_if_ne (tgt := 27) hx hb dX7_verdict_18 (by decide) (fun c9 => absurd (by decide) c9) (fun _ => ?_)
    refine lv_aload_n hx hb dX7_verdict_21 rfl (lv_at hl 0 rfl) ?_
    refine lv_iconst (v := 1) hx hb dX7_verdict_22 (by decide) ?_
    refine rc_calli (wr := [(h3, .inr (4, [.int 0, .ref (E.2.2 0), .int 0]))]) (va_runV (As := [.int 1]) (rest := []) (Ts := []) ⟨hx, hb, hml, hown, fun _ h9 => absurd h9 List.not_mem_nil⟩ (cw_X7_refuse l E _ h0 h1 h2 h3 h4 h5) (rc_cwV hAm qw_924 qw_13 qw_927 qw_926 qs_50 rfl rfl hd_X7_refuse ⟨Nat.le_of_ble_eq_true rfl, Nat.le_of_ble_eq_true rfl⟩) (rc_preV hAm hA hw [1] rfl rfl 1 rfl (q := vwCl[12]) rfl) rfl rfl hl.1 rfl (lv_room (Nat.le_of_ble_eq_true rfl)) dX7_verdict_23 ⟨Nat.le_of_ble_eq_true rfl, Nat.le_of_ble_eq_true rfl⟩) hA hw [1] [0] rfl rfl rfl (by decide) (fun r_9 u_10 H locs hp hw => ?_)
    obtain ⟨rfl, rfl⟩ := hp
    have hw : rc_W E A s [(h3, .inr (4, [.int 0, .ref (E.2.2 0), .int 0])), (h0, .inr (12, [.int 1, .ref h1, .ref h2, .ref h3, .ref h4, .ref h5, .int 1, .int 3, .int 50, .int (-1), .int (-1), .int (-1), .int (-1), .int 0, .int 100, .int 1000, .long 0]))] H locs := hw
    exact rc_iret (v := 0) hx hb hr hlocks hw [(h0, .inr (12, [.int 1, .ref h1, .ref h2, .ref h3, .ref h4, .ref h5, .int 1, .int 3, .int 50, .int (-1), .int (-1), .int (-1), .int (-1), .int 0, .int 100, .int 1000, .long 0])), (h3, .inr (4, [.int 0, .ref (E.2.2 0), .int 0]))] (Or.inl ⟨c_5, rfl, rfl⟩) [1, 0] rfl (by decide) (Nat.le_of_ble_eq_true rfl) (Nat.le_of_ble_eq_true rfl) dX7_verdict_26
  · have hw : rc_W E A s [(h3, .inr (4, [.int 0, .ref (E.2.2 0), .int 0])), (h0, .inr (12, [.int 0, .ref h1, .ref h2, .ref h3, .ref h4, .ref h5, .int 1, .int 3, .int 50, .int (-1), .int (-1), .int (-1), .int (-1), .int 0, .int 100, .int 1000, .long 0]))] H locs := hw
    refine lv_if_ne (tgt := 27) hx hb dX7_verdict_18 (by decide) (fun c9 => absurd (by decide) c9) (fun _ => ?_)
    refine lv_aload_n hx hb dX7_verdict_21 rfl (lv_at hl 0 rfl) ?_
    refine lv_iconst (v := 1) hx hb dX7_verdict_22 (by decide) ?_
    refine rc_calli (wr := [(h3, .inr (4, [.int 0, .ref (E.2.2 0), .int 0]))]) (va_runV (As := [.int 1]) (rest := []) (Ts := []) ⟨hx, hb, hml, hown, fun _ h9 => absurd h9 List.not_mem_nil⟩ (cw_X7_refuse l E _ h0 h1 h2 h3 h4 h5) (rc_cwV hAm qw_924 qw_13 qw_927 qw_926 qs_50 rfl rfl hd_X7_refuse ⟨Nat.le_of_ble_eq_true rfl, Nat.le_of_ble_eq_true rfl⟩) (rc_preV hAm hA hw [1] rfl rfl 1 rfl (q := vwCl[12]) rfl) rfl rfl hl.1 rfl (lv_room (Nat.le_of_ble_eq_true rfl)) dX7_verdict_23 ⟨Nat.le_of_ble_eq_true rfl, Nat.le_of_ble_eq_true rfl⟩) hA hw [1] [0] rfl rfl rfl (by decide) (fun r_11 u_12 H locs hp hw => ?_)
    obtain ⟨rfl, rfl⟩ := hp
    have hw : rc_W E A s [(h3, .inr (4, [.int 0, .ref (E.2.2 0), .int 0])), (h0, .inr (12, [.int 1, .ref h1, .ref h2, .ref h3, .ref h4, .ref h5, .int 1, .int 3, .int 50, .int (-1), .int (-1), .int (-1), .int (-1), .int 0, .int 100, .int 1000, .long 0]))] H locs := hw
    exact rc_iret (v := 0) hx hb hr hlocks hw [(h0, .inr (12, [.int 1, .ref h1, .ref h2, .ref h3, .ref h4, .ref h5, .int 1, .int 3, .int 50, .int (-1), .int (-1), .int (-1), .int (-1), .int 0, .int 100, .int 1000, .long 0])), (h3, .inr (4, [.int 0, .ref (E.2.2 0), .int 0]))] (Or.inr (Or.inl ⟨c_6, c_7, rfl, rfl⟩)) [1, 0] rfl (by decide) (Nat.le_of_ble_eq_true rfl) (Nat.le_of_ble_eq_true rfl) dX7_verdict_26
  · obtain rfl : x0 = 0 := rc_eqc (b := 0) rfl (by have g_c_8 := rc_g5 (b := 0) c_8 rfl; omega)
    have hw : rc_W E A s [(h3, .inr (4, [.int 0, .ref (E.2.2 0), .int 0])), (h0, .inr (12, [.int 0, .ref h1, .ref h2, .ref h3, .ref h4, .ref h5, .int 1, .int 3, .int 50, .int (-1), .int (-1), .int (-1), .int (-1), .int 0, .int 100, .int 1000, .long 0]))] H locs := hw
    refine lv_if_ne (tgt := 27) hx hb dX7_verdict_18 (by decide) (fun _ => ?_) (fun c9 => absurd c9 (by decide))
    refine lv_iload_n hx hb dX7_verdict_27 rfl (lv_at hl 3 rfl) ?_
    refine lv_iconst (v := 0) hx hb dX7_verdict_28 (by decide) ?_
    refine lv_iconst (v := 4) hx hb dX7_verdict_29 (by decide) ?_
    refine rc_calli (wr := [(h3, .inr (4, [.int 0, .ref (E.2.2 0), .int 0])), (h0, .inr (12, [.int 0, .ref h1, .ref h2, .ref h3, .ref h4, .ref h5, .int 1, .int 3, .int 50, .int (-1), .int (-1), .int (-1), .int (-1), .int 0, .int 100, .int 1000, .long 0]))]) (va_runS (As := [.int x1, .int 0, .int 4]) (rest := []) (Ts := []) ⟨hx, hb, hml, hown, fun _ h9 => absurd h9 List.not_mem_nil⟩ (cw_X7_is_4 l E _ x1) (rc_cwS hAm qw_921 qw_13 qw_923 qw_922 rfl rfl hd_X7_is ⟨Nat.le_of_ble_eq_true rfl, Nat.le_of_ble_eq_true rfl⟩) (rc_preS hAm hA hw [] rfl rfl) rfl rfl hl.1 rfl (lv_room (Nat.le_of_ble_eq_true rfl)) dX7_verdict_30 ⟨Nat.le_of_ble_eq_true rfl, Nat.le_of_ble_eq_true rfl⟩) hA hw [] [0, 1] rfl rfl rfl (by decide) (fun r_13 u_14 H locs hp hw => ?_)
    rcases hp with ⟨c_15, rfl, rfl⟩ | ⟨c_16, c_17, rfl, rfl⟩ | ⟨c_18, c_19, rfl, rfl⟩
    · have hw : rc_W E A s [(h3, .inr (4, [.int 0, .ref (E.2.2 0), .int 0])), (h0, .inr (12, [.int 0, .ref h1, .ref h2, .ref h3, .ref h4, .ref h5, .int 1, .int 3, .int 50, .int (-1), .int (-1), .int (-1), .int (-1), .int 0, .int 100, .int 1000, .long 0]))] H locs := hw
      refine lv_if_eq (tgt := 46) hx hb dX7_verdict_33 (by decide) (fun _ => ?_) (fun c9 => absurd (by decide) c9)
      refine lv_aload_n hx hb dX7_verdict_46 rfl (lv_at hl 0 rfl) ?_
      refine lv_iconst (v := 2) hx hb dX7_verdict_47 (by decide) ?_
      refine rc_calli (wr := [(h3, .inr (4, [.int 0, .ref (E.2.2 0), .int 0]))]) (va_runV (As := [.int 2]) (rest := []) (Ts := []) ⟨hx, hb, hml, hown, fun _ h9 => absurd h9 List.not_mem_nil⟩ (cw_X7_refuse_2 l E _ h0 h1 h2 h3 h4 h5) (rc_cwV hAm qw_924 qw_13 qw_927 qw_926 qs_50 rfl rfl hd_X7_refuse ⟨Nat.le_of_ble_eq_true rfl, Nat.le_of_ble_eq_true rfl⟩) (rc_preV hAm hA hw [1] rfl rfl 1 rfl (q := vwCl[12]) rfl) rfl rfl hl.1 rfl (lv_room (Nat.le_of_ble_eq_true rfl)) dX7_verdict_48 ⟨Nat.le_of_ble_eq_true rfl, Nat.le_of_ble_eq_true rfl⟩) hA hw [1] [0] rfl rfl rfl (by decide) (fun r_20 u_21 H locs hp hw => ?_)
      obtain ⟨rfl, rfl⟩ := hp
      have hw : rc_W E A s [(h3, .inr (4, [.int 0, .ref (E.2.2 0), .int 0])), (h0, .inr (12, [.int 2, .ref h1, .ref h2, .ref h3, .ref h4, .ref h5, .int 1, .int 3, .int 50, .int (-1), .int (-1), .int (-1), .int (-1), .int 0, .int 100, .int 1000, .long 0]))] H locs := hw
      exact rc_iret (v := 0) hx hb hr hlocks hw [(h0, .inr (12, [.int 2, .ref h1, .ref h2, .ref h3, .ref h4, .ref h5, .int 1, .int 3, .int 50, .int (-1), .int (-1), .int (-1), .int (-1), .int 0, .int 100, .int 1000, .long 0])), (h3, .inr (4, [.int 0, .ref (E.2.2 0), .int 0]))] (Or.inr (Or.inr (Or.inl ⟨c_15, rfl, rfl, rfl⟩))) [1, 0] rfl (by decide) (Nat.le_of_ble_eq_true rfl) (Nat.le_of_ble_eq_true rfl) dX7_verdict_51
    · have hw : rc_W E A s [(h3, .inr (4, [.int 0, .ref (E.2.2 0), .int 0])), (h0, .inr (12, [.int 0, .ref h1, .ref h2, .ref h3, .ref h4, .ref h5, .int 1, .int 3, .int 50, .int (-1), .int (-1), .int (-1), .int (-1), .int 0, .int 100, .int 1000, .long 0]))] H locs := hw
      refine lv_if_eq (tgt := 46) hx hb dX7_verdict_33 (by decide) (fun _ => ?_) (fun c9 => absurd (by decide) c9)
      refine lv_aload_n hx hb dX7_verdict_46 rfl (lv_at hl 0 rfl) ?_
      refine lv_iconst (v := 2) hx hb dX7_verdict_47 (by decide) ?_
      refine rc_calli (wr := [(h3, .inr (4, [.int 0, .ref (E.2.2 0), .int 0]))]) (va_runV (As := [.int 2]) (rest := []) (Ts := []) ⟨hx, hb, hml, hown, fun _ h9 => absurd h9 List.not_mem_nil⟩ (cw_X7_refuse_2 l E _ h0 h1 h2 h3 h4 h5) (rc_cwV hAm qw_924 qw_13 qw_927 qw_926 qs_50 rfl rfl hd_X7_refuse ⟨Nat.le_of_ble_eq_true rfl, Nat.le_of_ble_eq_true rfl⟩) (rc_preV hAm hA hw [1] rfl rfl 1 rfl (q := vwCl[12]) rfl) rfl rfl hl.1 rfl (lv_room (Nat.le_of_ble_eq_true rfl)) dX7_verdict_48 ⟨Nat.le_of_ble_eq_true rfl, Nat.le_of_ble_eq_true rfl⟩) hA hw [1] [0] rfl rfl rfl (by decide) (fun r_22 u_23 H locs hp hw => ?_)
      obtain ⟨rfl, rfl⟩ := hp
      have hw : rc_W E A s [(h3, .inr (4, [.int 0, .ref (E.2.2 0), .int 0])), (h0, .inr (12, [.int 2, .ref h1, .ref h2, .ref h3, .ref h4, .ref h5, .int 1, .int 3, .int 50, .int (-1), .int (-1), .int (-1), .int (-1), .int 0, .int 100, .int 1000, .long 0]))] H locs := hw
      exact rc_iret (v := 0) hx hb hr hlocks hw [(h0, .inr (12, [.int 2, .ref h1, .ref h2, .ref h3, .ref h4, .ref h5, .int 1, .int 3, .int 50, .int (-1), .int (-1), .int (-1), .int (-1), .int 0, .int 100, .int 1000, .long 0])), (h3, .inr (4, [.int 0, .ref (E.2.2 0), .int 0]))] (Or.inr (Or.inr (Or.inr (Or.inl ⟨c_16, c_17, rfl, rfl, rfl⟩)))) [1, 0] rfl (by decide) (Nat.le_of_ble_eq_true rfl) (Nat.le_of_ble_eq_true rfl) dX7_verdict_51
    · have hw : rc_W E A s [(h3, .inr (4, [.int 0, .ref (E.2.2 0), .int 0])), (h0, .inr (12, [.int 0, .ref h1, .ref h2, .ref h3, .ref h4, .ref h5, .int 1, .int 3, .int 50, .int (-1), .int (-1), .int (-1), .int (-1), .int 0, .int 100, .int 1000, .long 0]))] H locs := hw
      refine lv_if_eq (tgt := 46) hx hb dX7_verdict_33 (by decide) (fun c9 => absurd c9 (by decide)) (fun _ => ?_)
      refine lv_aload_n hx hb dX7_verdict_36 rfl (lv_at hl 0 rfl) ?_
      refine lv_iload_n hx hb dX7_verdict_37 rfl (lv_at hl 1 rfl) ?_
      refine lv_iload_n hx hb dX7_verdict_38 rfl (lv_at hl 2 rfl) ?_
      refine lv_iload_n hx hb dX7_verdict_39 rfl (lv_at hl 3 rfl) ?_
      rcases Decidable.em (x1 = 0) with c_24 | c_24
      · obtain rfl : x1 = 0 := rc_eqc (b := 0) rfl (rc_g5 c_24 rfl)
        refine rc_calli (wr := []) (va_runV (As := [.int 0, .int 0, .int 0]) (rest := []) (Ts := []) ⟨hx, hb, hml, hown, fun _ h9 => absurd h9 List.not_mem_nil⟩ (cw_X7_verdictNow l E _ h0 h1 h2 h3 h4 h5) (rc_cwV hAm qw_963 qw_13 qw_966 qw_965 qs_53 rfl rfl hd_X7_verdictNow ⟨Nat.le_of_ble_eq_true rfl, Nat.le_of_ble_eq_true rfl⟩) (rc_preV hAm hA hw [1, 0] rfl rfl 1 rfl (q := vwCl[12]) rfl) rfl rfl hl.1 rfl (lv_room (Nat.le_of_ble_eq_true rfl)) dX7_verdict_40 ⟨Nat.le_of_ble_eq_true rfl, Nat.le_of_ble_eq_true rfl⟩) hA hw [1, 0] [] rfl rfl rfl (by decide) (fun r_25 u_26 H locs hp hw => ?_)
        obtain ⟨rfl, rfl⟩ := hp
        have hw : rc_W E A s [(h0, .inr (12, [.int 0, .ref h1, .ref h2, .ref h3, .ref h4, .ref h5, .int 1, .int 3, .int 50, .int (-1), .int (-1), .int (-1), .int (-1), .int 0, .int 100, .int 1000, .long 0])), (h3, .inr (4, [.int 0, .ref (E.2.2 0), .int 0]))] H locs := hw
        refine lv_goto (tgt := 51) hx hb dX7_verdict_43 (by decide) ?_
        exact rc_iret (v := 0) hx hb hr hlocks hw [(h0, .inr (12, [.int 0, .ref h1, .ref h2, .ref h3, .ref h4, .ref h5, .int 1, .int 3, .int 50, .int (-1), .int (-1), .int (-1), .int (-1), .int 0, .int 100, .int 1000, .long 0])), (h3, .inr (4, [.int 0, .ref (E.2.2 0), .int 0]))] (Or.inr (Or.inr (Or.inr (Or.inr (Or.inl ⟨rfl, rfl, rfl, rfl⟩))))) [0, 1] rfl (by decide) (Nat.le_of_ble_eq_true rfl) (Nat.le_of_ble_eq_true rfl) dX7_verdict_51
      · rcases Decidable.em (x1 = 1) with c_27 | c_27
        · obtain rfl : x1 = 1 := rc_eqc (b := 1) rfl (rc_g5 c_27 rfl)
          refine rc_calli (wr := []) (va_runV (As := [.int 0, .int 0, .int 1]) (rest := []) (Ts := []) ⟨hx, hb, hml, hown, fun _ h9 => absurd h9 List.not_mem_nil⟩ (cw_X7_verdictNow_2 l E _ h0 h1 h2 h3 h4 h5) (rc_cwV hAm qw_963 qw_13 qw_966 qw_965 qs_53 rfl rfl hd_X7_verdictNow ⟨Nat.le_of_ble_eq_true rfl, Nat.le_of_ble_eq_true rfl⟩) (rc_preV hAm hA hw [1, 0] rfl rfl 1 rfl (q := vwCl[12]) rfl) rfl rfl hl.1 rfl (lv_room (Nat.le_of_ble_eq_true rfl)) dX7_verdict_40 ⟨Nat.le_of_ble_eq_true rfl, Nat.le_of_ble_eq_true rfl⟩) hA hw [1, 0] [] rfl rfl rfl (by decide) (fun r_28 u_29 H locs hp hw => ?_)
          obtain ⟨rfl, rfl⟩ := hp
          have hw : rc_W E A s [(h0, .inr (12, [.int 0, .ref h1, .ref h2, .ref h3, .ref h4, .ref h5, .int 1, .int 3, .int 50, .int (-1), .int (-1), .int (-1), .int (-1), .int 0, .int 100, .int 1000, .long 0])), (h3, .inr (4, [.int 0, .ref (E.2.2 0), .int 0]))] H locs := hw
          refine lv_goto (tgt := 51) hx hb dX7_verdict_43 (by decide) ?_
          exact rc_iret (v := 0) hx hb hr hlocks hw [(h0, .inr (12, [.int 0, .ref h1, .ref h2, .ref h3, .ref h4, .ref h5, .int 1, .int 3, .int 50, .int (-1), .int (-1), .int (-1), .int (-1), .int 0, .int 100, .int 1000, .long 0])), (h3, .inr (4, [.int 0, .ref (E.2.2 0), .int 0]))] (Or.inr (Or.inr (Or.inr (Or.inr (Or.inr (Or.inl ⟨rfl, rfl, rfl, rfl⟩)))))) [0, 1] rfl (by decide) (Nat.le_of_ble_eq_true rfl) (Nat.le_of_ble_eq_true rfl) dX7_verdict_51
        · rcases Decidable.em (x1 = 2) with c_30 | c_30
          · obtain rfl : x1 = 2 := rc_eqc (b := 2) rfl (rc_g5 c_30 rfl)
            refine rc_calli (wr := []) (va_runV (As := [.int 0, .int 0, .int 2]) (rest := []) (Ts := []) ⟨hx, hb, hml, hown, fun _ h9 => absurd h9 List.not_mem_nil⟩ (cw_X7_verdictNow_3 l E _ h0 h1 h2 h3 h4 h5) (rc_cwV hAm qw_963 qw_13 qw_966 qw_965 qs_53 rfl rfl hd_X7_verdictNow ⟨Nat.le_of_ble_eq_true rfl, Nat.le_of_ble_eq_true rfl⟩) (rc_preV hAm hA hw [1, 0] rfl rfl 1 rfl (q := vwCl[12]) rfl) rfl rfl hl.1 rfl (lv_room (Nat.le_of_ble_eq_true rfl)) dX7_verdict_40 ⟨Nat.le_of_ble_eq_true rfl, Nat.le_of_ble_eq_true rfl⟩) hA hw [1, 0] [] rfl rfl rfl (by decide) (fun r_31 u_32 H locs hp hw => ?_)
            obtain ⟨rfl, rfl⟩ := hp
            have hw : rc_W E A s [(h0, .inr (12, [.int 0, .ref h1, .ref h2, .ref h3, .ref h4, .ref h5, .int 1, .int 3, .int 50, .int (-1), .int (-1), .int (-1), .int (-1), .int 0, .int 100, .int 1000, .long 0])), (h3, .inr (4, [.int 0, .ref (E.2.2 0), .int 0]))] H locs := hw
            refine lv_goto (tgt := 51) hx hb dX7_verdict_43 (by decide) ?_
            exact rc_iret (v := 1) hx hb hr hlocks hw [(h0, .inr (12, [.int 0, .ref h1, .ref h2, .ref h3, .ref h4, .ref h5, .int 1, .int 3, .int 50, .int (-1), .int (-1), .int (-1), .int (-1), .int 0, .int 100, .int 1000, .long 0])), (h3, .inr (4, [.int 0, .ref (E.2.2 0), .int 0]))] (Or.inr (Or.inr (Or.inr (Or.inr (Or.inr (Or.inr (Or.inl ⟨rfl, rfl, rfl, rfl⟩))))))) [0, 1] rfl (by decide) (Nat.le_of_ble_eq_true rfl) (Nat.le_of_ble_eq_true rfl) dX7_verdict_51
          · rcases Decidable.em (x1 = 3) with c_33 | c_33
            · obtain rfl : x1 = 3 := rc_eqc (b := 3) rfl (rc_g5 c_33 rfl)
              refine rc_calli (wr := []) (va_runV (As := [.int 0, .int 0, .int 3]) (rest := []) (Ts := []) ⟨hx, hb, hml, hown, fun _ h9 => absurd h9 List.not_mem_nil⟩ (cw_X7_verdictNow_4 l E _ h0 h1 h2 h3 h4 h5) (rc_cwV hAm qw_963 qw_13 qw_966 qw_965 qs_53 rfl rfl hd_X7_verdictNow ⟨Nat.le_of_ble_eq_true rfl, Nat.le_of_ble_eq_true rfl⟩) (rc_preV hAm hA hw [1, 0] rfl rfl 1 rfl (q := vwCl[12]) rfl) rfl rfl hl.1 rfl (lv_room (Nat.le_of_ble_eq_true rfl)) dX7_verdict_40 ⟨Nat.le_of_ble_eq_true rfl, Nat.le_of_ble_eq_true rfl⟩) hA hw [1, 0] [] rfl rfl rfl (by decide) (fun r_34 u_35 H locs hp hw => ?_)
              obtain ⟨rfl, rfl⟩ := hp
              have hw : rc_W E A s [(h0, .inr (12, [.int 0, .ref h1, .ref h2, .ref h3, .ref h4, .ref h5, .int 1, .int 3, .int 50, .int (-1), .int (-1), .int (-1), .int (-1), .int 0, .int 100, .int 1000, .long 0])), (h3, .inr (4, [.int 0, .ref (E.2.2 0), .int 0]))] H locs := hw
              refine lv_goto (tgt := 51) hx hb dX7_verdict_43 (by decide) ?_
              exact rc_iret (v := 1) hx hb hr hlocks hw [(h0, .inr (12, [.int 0, .ref h1, .ref h2, .ref h3, .ref h4, .ref h5, .int 1, .int 3, .int 50, .int (-1), .int (-1), .int (-1), .int (-1), .int 0, .int 100, .int 1000, .long 0])), (h3, .inr (4, [.int 0, .ref (E.2.2 0), .int 0]))] (Or.inr (Or.inr (Or.inr (Or.inr (Or.inr (Or.inr (Or.inr (Or.inl ⟨rfl, rfl, rfl, rfl⟩)))))))) [0, 1] rfl (by decide) (Nat.le_of_ble_eq_true rfl) (Nat.le_of_ble_eq_true rfl) dX7_verdict_51
            · obtain rfl : x1 = 4 := rc_eqc (b := 4) rfl (by have g_c_18 := rc_n1 (b := 0) c_18 rfl; have g_c_19 := rc_n2 (b := 4) c_19 rfl; have g_c_24 := rc_n5 (b := 0) c_24 rfl; have g_c_27 := rc_n5 (b := 1) c_27 rfl; have g_c_30 := rc_n5 (b := 2) c_30 rfl; have g_c_33 := rc_n5 (b := 3) c_33 rfl; omega)
              refine rc_calli (wr := []) (va_runV (As := [.int 0, .int 0, .int 4]) (rest := []) (Ts := []) ⟨hx, hb, hml, hown, fun _ h9 => absurd h9 List.not_mem_nil⟩ (cw_X7_verdictNow_5 l E _ h0 h1 h2 h3 h4 h5) (rc_cwV hAm qw_963 qw_13 qw_966 qw_965 qs_53 rfl rfl hd_X7_verdictNow ⟨Nat.le_of_ble_eq_true rfl, Nat.le_of_ble_eq_true rfl⟩) (rc_preV hAm hA hw [1, 0] rfl rfl 1 rfl (q := vwCl[12]) rfl) rfl rfl hl.1 rfl (lv_room (Nat.le_of_ble_eq_true rfl)) dX7_verdict_40 ⟨Nat.le_of_ble_eq_true rfl, Nat.le_of_ble_eq_true rfl⟩) hA hw [1, 0] [] rfl rfl rfl (by decide) (fun r_36 u_37 H locs hp hw => ?_)
              obtain ⟨rfl, rfl⟩ := hp
              have hw : rc_W E A s [(h0, .inr (12, [.int 0, .ref h1, .ref h2, .ref h3, .ref h4, .ref h5, .int 1, .int 3, .int 50, .int (-1), .int (-1), .int (-1), .int (-1), .int 0, .int 100, .int 1000, .long 0])), (h3, .inr (4, [.int 0, .ref (E.2.2 0), .int 0]))] H locs := hw
              refine lv_goto (tgt := 51) hx hb dX7_verdict_43 (by decide) ?_
              exact rc_iret (v := 1) hx hb hr hlocks hw [(h0, .inr (12, [.int 0, .ref h1, .ref h2, .ref h3, .ref h4, .ref h5, .int 1, .int 3, .int 50, .int (-1), .int (-1), .int (-1), .int (-1), .int 0, .int 100, .int 1000, .long 0])), (h3, .inr (4, [.int 0, .ref (E.2.2 0), .int 0]))] (Or.inr (Or.inr (Or.inr (Or.inr (Or.inr (Or.inr (Or.inr (Or.inr ⟨rfl, rfl, rfl, rfl⟩)))))))) [0, 1] rfl (by decide) (Nat.le_of_ble_eq_true rfl) (Nat.le_of_ble_eq_true rfl) dX7_verdict_51
set_option maxHeartbeats 4000000 in
set_option maxRecDepth 100000 in
theorem cw_X7_verdict_3 (l : Launch) (E : rc_E) (sz : Nat) (h0 : Nat) (x0 : Int32) (h1 : Nat) (h2 : Nat) (h3 : Nat) (h4 : Nat) (h5 : Nat) : rc_Mi l yX7_verdict [Cond.code yX7_verdict cX7_verdict 4 (some FieldType.int)] { frames := 7, cells := 8, slots := 18, locals := 185 } E [.ref h0, .int 0, .int 0, .int x0] [(h0, .inr (12, [.int 0, .ref h1, .ref h2, .ref h3, .ref h4, .ref h5, .int 1, .int 3, .int 50, .int (-1), .int (-1), .int (-1), .int (-1), .int 0, .int 100, .int 1000, .long 0])), (h3, .inr (4, [.int 0, .ref (E.2.2 0), .int 0]))] sz (S := va_W) (fun (r : Int32) (u : va_W) => (x0 < 0 ∧ 0 = r ∧ u = [(h0, .inr (12, [.int 2, .ref h1, .ref h2, .ref h3, .ref h4, .ref h5, .int 1, .int 3, .int 50, .int (-1), .int (-1), .int (-1), .int (-1), .int 0, .int 100, .int 1000, .long 0])), (h3, .inr (4, [.int 0, .ref (E.2.2 0), .int 0]))]) ∨ (¬ x0 < 0 ∧ 4 < x0 ∧ 0 = r ∧ u = [(h0, .inr (12, [.int 2, .ref h1, .ref h2, .ref h3, .ref h4, .ref h5, .int 1, .int 3, .int 50, .int (-1), .int (-1), .int (-1), .int (-1), .int 0, .int 100, .int 1000, .long 0])), (h3, .inr (4, [.int 0, .ref (E.2.2 0), .int 0]))]) ∨ (x0 = 0 ∧ 0 = r ∧ u = [(h0, .inr (12, [.int 0, .ref h1, .ref h2, .ref h3, .ref h4, .ref h5, .int 1, .int 3, .int 50, .int (-1), .int (-1), .int (-1), .int (-1), .int 0, .int 100, .int 1000, .long 0])), (h3, .inr (4, [.int 0, .ref (E.2.2 0), .int 0]))]) ∨ (x0 = 1 ∧ 0 = r ∧ u = [(h0, .inr (12, [.int 0, .ref h1, .ref h2, .ref h3, .ref h4, .ref h5, .int 1, .int 3, .int 50, .int (-1), .int (-1), .int (-1), .int (-1), .int 0, .int 100, .int 1000, .long 0])), (h3, .inr (4, [.int 0, .ref (E.2.2 0), .int 0]))]) ∨ (x0 = 2 ∧ 1 = r ∧ u = [(h0, .inr (12, [.int 0, .ref h1, .ref h2, .ref h3, .ref h4, .ref h5, .int 1, .int 3, .int 50, .int (-1), .int (-1), .int (-1), .int (-1), .int 0, .int 100, .int 1000, .long 0])), (h3, .inr (4, [.int 0, .ref (E.2.2 0), .int 0]))]) ∨ (x0 = 3 ∧ 1 = r ∧ u = [(h0, .inr (12, [.int 0, .ref h1, .ref h2, .ref h3, .ref h4, .ref h5, .int 1, .int 3, .int 50, .int (-1), .int (-1), .int (-1), .int (-1), .int 0, .int 100, .int 1000, .long 0])), (h3, .inr (4, [.int 0, .ref (E.2.2 0), .int 0]))]) ∨ (x0 = 4 ∧ 1 = r ∧ u = [(h0, .inr (12, [.int 0, .ref h1, .ref h2, .ref h3, .ref h4, .ref h5, .int 1, .int 3, .int 50, .int (-1), .int (-1), .int (-1), .int (-1), .int 0, .int 100, .int 1000, .long 0])), (h3, .inr (4, [.int 0, .ref (E.2.2 0), .int 0]))])) (fun u => u) 8 18 := by
  refine rc_ini (cc := cX7_verdict) (maxL := 4) (ret := (some FieldType.int)) (by decide) rfl (Nat.le_of_ble_eq_true rfl) ?_
  intro p e s m args below meth c ls A hx hb hr hml _ hown hlocks hin hA hAm hw hl
  have hown : s.vm.findClass RX7 = some m.cls := hown
  have hl : lv_has ls 4 [(0, .ref h0), (1, .int 0), (2, .int 0), (3, .int x0)] := hl
  refine lv_aload_n hx hb dX7_verdict_0 rfl (lv_at hl 0 rfl) ?_
  refine lv_iconst (v := 0) hx hb dX7_verdict_1 (by decide) ?_
  refine rc_put hx hb hown hAm hw lyX7 tyX7 tyX7_ok nmX7 0 rfl rfl 0 (by decide) qw_860 (fun _ h9 => h9) rfl rfl (by decide +kernel) (Nat.le_of_ble_eq_true rfl) [(h0, .inr (12, [.int 0, .ref h1, .ref h2, .ref h3, .ref h4, .ref h5, .int 1, .int 3, .int 50, .int (-1), .int (-1), .int (-1), .int (-1), .int 0, .int 100, .int 1000, .long 0])), (h3, .inr (4, [.int 0, .ref (E.2.2 0), .int 0]))] rfl dX7_verdict_2 (fun H locs hw => ?_)
  refine lv_aload_n hx hb dX7_verdict_5 rfl (lv_at hl 0 rfl) ?_
  refine lv_iload_n hx hb dX7_verdict_6 rfl (lv_at hl 1 rfl) ?_
  refine rc_calli (wr := [(h3, .inr (4, [.int 0, .ref (E.2.2 0), .int 0]))]) (va_runV (As := [.int 0]) (rest := []) (Ts := []) ⟨hx, hb, hml, hown, fun _ h9 => absurd h9 List.not_mem_nil⟩ (cw_X7_isChange_2 l E _ h0 h1 h2 h3 h4 h5) (rc_cwV hAm qw_1353 qw_13 qw_1356 qw_1355 qs_62 rfl rfl hd_X7_isChange ⟨Nat.le_of_ble_eq_true rfl, Nat.le_of_ble_eq_true rfl⟩) (rc_preV hAm hA hw [0] rfl rfl 0 rfl (q := vwCl[12]) rfl) rfl rfl hl.1 rfl (lv_room (Nat.le_of_ble_eq_true rfl)) dX7_verdict_7 ⟨Nat.le_of_ble_eq_true rfl, Nat.le_of_ble_eq_true rfl⟩) hA hw [0] [1] rfl rfl rfl (by decide) (fun r_1 u_2 H locs hp hw => ?_)
  obtain ⟨rfl, rfl⟩ := hp
  have hw : rc_W E A s [(h3, .inr (4, [.int 0, .ref (E.2.2 0), .int 0])), (h0, .inr (12, [.int 0, .ref h1, .ref h2, .ref h3, .ref h4, .ref h5, .int 1, .int 3, .int 50, .int (-1), .int (-1), .int (-1), .int (-1), .int 0, .int 100, .int 1000, .long 0]))] H locs := hw
  refine lv_if_eq (tgt := 21) hx hb dX7_verdict_10 (by decide) (fun c9 => absurd c9 (by decide)) (fun _ => ?_)
  refine lv_aload_n hx hb dX7_verdict_13 rfl (lv_at hl 0 rfl) ?_
  refine lv_iload_n hx hb dX7_verdict_14 rfl (lv_at hl 2 rfl) ?_
  refine rc_calli (wr := [(h3, .inr (4, [.int 0, .ref (E.2.2 0), .int 0]))]) (va_runV (As := [.int 0]) (rest := []) (Ts := []) ⟨hx, hb, hml, hown, fun _ h9 => absurd h9 List.not_mem_nil⟩ (cw_X7_isChange_2 l E _ h0 h1 h2 h3 h4 h5) (rc_cwV hAm qw_1353 qw_13 qw_1356 qw_1355 qs_62 rfl rfl hd_X7_isChange ⟨Nat.le_of_ble_eq_true rfl, Nat.le_of_ble_eq_true rfl⟩) (rc_preV hAm hA hw [1] rfl rfl 1 rfl (q := vwCl[12]) rfl) rfl rfl hl.1 rfl (lv_room (Nat.le_of_ble_eq_true rfl)) dX7_verdict_15 ⟨Nat.le_of_ble_eq_true rfl, Nat.le_of_ble_eq_true rfl⟩) hA hw [1] [0] rfl rfl rfl (by decide) (fun r_3 u_4 H locs hp hw => ?_)
  obtain ⟨rfl, rfl⟩ := hp
  have hw : rc_W E A s [(h3, .inr (4, [.int 0, .ref (E.2.2 0), .int 0])), (h0, .inr (12, [.int 0, .ref h1, .ref h2, .ref h3, .ref h4, .ref h5, .int 1, .int 3, .int 50, .int (-1), .int (-1), .int (-1), .int (-1), .int 0, .int 100, .int 1000, .long 0]))] H locs := hw
  refine lv_if_ne (tgt := 27) hx hb dX7_verdict_18 (by decide) (fun _ => ?_) (fun c9 => absurd c9 (by decide))
  refine lv_iload_n hx hb dX7_verdict_27 rfl (lv_at hl 3 rfl) ?_
  refine lv_iconst (v := 0) hx hb dX7_verdict_28 (by decide) ?_
  refine lv_iconst (v := 4) hx hb dX7_verdict_29 (by decide) ?_
  refine rc_calli (wr := [(h3, .inr (4, [.int 0, .ref (E.2.2 0), .int 0])), (h0, .inr (12, [.int 0, .ref h1, .ref h2, .ref h3, .ref h4, .ref h5, .int 1, .int 3, .int 50, .int (-1), .int (-1), .int (-1), .int (-1), .int 0, .int 100, .int 1000, .long 0]))]) (va_runS (As := [.int x0, .int 0, .int 4]) (rest := []) (Ts := []) ⟨hx, hb, hml, hown, fun _ h9 => absurd h9 List.not_mem_nil⟩ (cw_X7_is_4 l E _ x0) (rc_cwS hAm qw_921 qw_13 qw_923 qw_922 rfl rfl hd_X7_is ⟨Nat.le_of_ble_eq_true rfl, Nat.le_of_ble_eq_true rfl⟩) (rc_preS hAm hA hw [] rfl rfl) rfl rfl hl.1 rfl (lv_room (Nat.le_of_ble_eq_true rfl)) dX7_verdict_30 ⟨Nat.le_of_ble_eq_true rfl, Nat.le_of_ble_eq_true rfl⟩) hA hw [] [0, 1] rfl rfl rfl (by decide) (fun r_5 u_6 H locs hp hw => ?_)
  rcases hp with ⟨c_7, rfl, rfl⟩ | ⟨c_8, c_9, rfl, rfl⟩ | ⟨c_10, c_11, rfl, rfl⟩
  · have hw : rc_W E A s [(h3, .inr (4, [.int 0, .ref (E.2.2 0), .int 0])), (h0, .inr (12, [.int 0, .ref h1, .ref h2, .ref h3, .ref h4, .ref h5, .int 1, .int 3, .int 50, .int (-1), .int (-1), .int (-1), .int (-1), .int 0, .int 100, .int 1000, .long 0]))] H locs := hw
    refine lv_if_eq (tgt := 46) hx hb dX7_verdict_33 (by decide) (fun _ => ?_) (fun c9 => absurd (by decide) c9)
    refine lv_aload_n hx hb dX7_verdict_46 rfl (lv_at hl 0 rfl) ?_
    refine lv_iconst (v := 2) hx hb dX7_verdict_47 (by decide) ?_
    refine rc_calli (wr := [(h3, .inr (4, [.int 0, .ref (E.2.2 0), .int 0]))]) (va_runV (As := [.int 2]) (rest := []) (Ts := []) ⟨hx, hb, hml, hown, fun _ h9 => absurd h9 List.not_mem_nil⟩ (cw_X7_refuse_2 l E _ h0 h1 h2 h3 h4 h5) (rc_cwV hAm qw_924 qw_13 qw_927 qw_926 qs_50 rfl rfl hd_X7_refuse ⟨Nat.le_of_ble_eq_true rfl, Nat.le_of_ble_eq_true rfl⟩) (rc_preV hAm hA hw [1] rfl rfl 1 rfl (q := vwCl[12]) rfl) rfl rfl hl.1 rfl (lv_room (Nat.le_of_ble_eq_true rfl)) dX7_verdict_48 ⟨Nat.le_of_ble_eq_true rfl, Nat.le_of_ble_eq_true rfl⟩) hA hw [1] [0] rfl rfl rfl (by decide) (fun r_12 u_13 H locs hp hw => ?_)
    obtain ⟨rfl, rfl⟩ := hp
    have hw : rc_W E A s [(h3, .inr (4, [.int 0, .ref (E.2.2 0), .int 0])), (h0, .inr (12, [.int 2, .ref h1, .ref h2, .ref h3, .ref h4, .ref h5, .int 1, .int 3, .int 50, .int (-1), .int (-1), .int (-1), .int (-1), .int 0, .int 100, .int 1000, .long 0]))] H locs := hw
    exact rc_iret (v := 0) hx hb hr hlocks hw [(h0, .inr (12, [.int 2, .ref h1, .ref h2, .ref h3, .ref h4, .ref h5, .int 1, .int 3, .int 50, .int (-1), .int (-1), .int (-1), .int (-1), .int 0, .int 100, .int 1000, .long 0])), (h3, .inr (4, [.int 0, .ref (E.2.2 0), .int 0]))] (Or.inl ⟨c_7, rfl, rfl⟩) [1, 0] rfl (by decide) (Nat.le_of_ble_eq_true rfl) (Nat.le_of_ble_eq_true rfl) dX7_verdict_51
  · have hw : rc_W E A s [(h3, .inr (4, [.int 0, .ref (E.2.2 0), .int 0])), (h0, .inr (12, [.int 0, .ref h1, .ref h2, .ref h3, .ref h4, .ref h5, .int 1, .int 3, .int 50, .int (-1), .int (-1), .int (-1), .int (-1), .int 0, .int 100, .int 1000, .long 0]))] H locs := hw
    refine lv_if_eq (tgt := 46) hx hb dX7_verdict_33 (by decide) (fun _ => ?_) (fun c9 => absurd (by decide) c9)
    refine lv_aload_n hx hb dX7_verdict_46 rfl (lv_at hl 0 rfl) ?_
    refine lv_iconst (v := 2) hx hb dX7_verdict_47 (by decide) ?_
    refine rc_calli (wr := [(h3, .inr (4, [.int 0, .ref (E.2.2 0), .int 0]))]) (va_runV (As := [.int 2]) (rest := []) (Ts := []) ⟨hx, hb, hml, hown, fun _ h9 => absurd h9 List.not_mem_nil⟩ (cw_X7_refuse_2 l E _ h0 h1 h2 h3 h4 h5) (rc_cwV hAm qw_924 qw_13 qw_927 qw_926 qs_50 rfl rfl hd_X7_refuse ⟨Nat.le_of_ble_eq_true rfl, Nat.le_of_ble_eq_true rfl⟩) (rc_preV hAm hA hw [1] rfl rfl 1 rfl (q := vwCl[12]) rfl) rfl rfl hl.1 rfl (lv_room (Nat.le_of_ble_eq_true rfl)) dX7_verdict_48 ⟨Nat.le_of_ble_eq_true rfl, Nat.le_of_ble_eq_true rfl⟩) hA hw [1] [0] rfl rfl rfl (by decide) (fun r_14 u_15 H locs hp hw => ?_)
    obtain ⟨rfl, rfl⟩ := hp
    have hw : rc_W E A s [(h3, .inr (4, [.int 0, .ref (E.2.2 0), .int 0])), (h0, .inr (12, [.int 2, .ref h1, .ref h2, .ref h3, .ref h4, .ref h5, .int 1, .int 3, .int 50, .int (-1), .int (-1), .int (-1), .int (-1), .int 0, .int 100, .int 1000, .long 0]))] H locs := hw
    exact rc_iret (v := 0) hx hb hr hlocks hw [(h0, .inr (12, [.int 2, .ref h1, .ref h2, .ref h3, .ref h4, .ref h5, .int 1, .int 3, .int 50, .int (-1), .int (-1), .int (-1), .int (-1), .int 0, .int 100, .int 1000, .long 0])), (h3, .inr (4, [.int 0, .ref (E.2.2 0), .int 0]))] (Or.inr (Or.inl ⟨c_8, c_9, rfl, rfl⟩)) [1, 0] rfl (by decide) (Nat.le_of_ble_eq_true rfl) (Nat.le_of_ble_eq_true rfl) dX7_verdict_51
  · have hw : rc_W E A s [(h3, .inr (4, [.int 0, .ref (E.2.2 0), .int 0])), (h0, .inr (12, [.int 0, .ref h1, .ref h2, .ref h3, .ref h4, .ref h5, .int 1, .int 3, .int 50, .int (-1), .int (-1), .int (-1), .int (-1), .int 0, .int 100, .int 1000, .long 0]))] H locs := hw
    refine lv_if_eq (tgt := 46) hx hb dX7_verdict_33 (by decide) (fun c9 => absurd c9 (by decide)) (fun _ => ?_)
    refine lv_aload_n hx hb dX7_verdict_36 rfl (lv_at hl 0 rfl) ?_
    refine lv_iload_n hx hb dX7_verdict_37 rfl (lv_at hl 1 rfl) ?_
    refine lv_iload_n hx hb dX7_verdict_38 rfl (lv_at hl 2 rfl) ?_
    refine lv_iload_n hx hb dX7_verdict_39 rfl (lv_at hl 3 rfl) ?_
    rcases Decidable.em (x0 = 0) with c_16 | c_16
    · obtain rfl : x0 = 0 := rc_eqc (b := 0) rfl (rc_g5 c_16 rfl)
      refine rc_calli (wr := []) (va_runV (As := [.int 0, .int 0, .int 0]) (rest := []) (Ts := []) ⟨hx, hb, hml, hown, fun _ h9 => absurd h9 List.not_mem_nil⟩ (cw_X7_verdictNow l E _ h0 h1 h2 h3 h4 h5) (rc_cwV hAm qw_963 qw_13 qw_966 qw_965 qs_53 rfl rfl hd_X7_verdictNow ⟨Nat.le_of_ble_eq_true rfl, Nat.le_of_ble_eq_true rfl⟩) (rc_preV hAm hA hw [1, 0] rfl rfl 1 rfl (q := vwCl[12]) rfl) rfl rfl hl.1 rfl (lv_room (Nat.le_of_ble_eq_true rfl)) dX7_verdict_40 ⟨Nat.le_of_ble_eq_true rfl, Nat.le_of_ble_eq_true rfl⟩) hA hw [1, 0] [] rfl rfl rfl (by decide) (fun r_17 u_18 H locs hp hw => ?_)
      obtain ⟨rfl, rfl⟩ := hp
      have hw : rc_W E A s [(h0, .inr (12, [.int 0, .ref h1, .ref h2, .ref h3, .ref h4, .ref h5, .int 1, .int 3, .int 50, .int (-1), .int (-1), .int (-1), .int (-1), .int 0, .int 100, .int 1000, .long 0])), (h3, .inr (4, [.int 0, .ref (E.2.2 0), .int 0]))] H locs := hw
      refine lv_goto (tgt := 51) hx hb dX7_verdict_43 (by decide) ?_
      exact rc_iret (v := 0) hx hb hr hlocks hw [(h0, .inr (12, [.int 0, .ref h1, .ref h2, .ref h3, .ref h4, .ref h5, .int 1, .int 3, .int 50, .int (-1), .int (-1), .int (-1), .int (-1), .int 0, .int 100, .int 1000, .long 0])), (h3, .inr (4, [.int 0, .ref (E.2.2 0), .int 0]))] (Or.inr (Or.inr (Or.inl ⟨rfl, rfl, rfl⟩))) [0, 1] rfl (by decide) (Nat.le_of_ble_eq_true rfl) (Nat.le_of_ble_eq_true rfl) dX7_verdict_51
    · rcases Decidable.em (x0 = 1) with c_19 | c_19
      · obtain rfl : x0 = 1 := rc_eqc (b := 1) rfl (rc_g5 c_19 rfl)
        refine rc_calli (wr := []) (va_runV (As := [.int 0, .int 0, .int 1]) (rest := []) (Ts := []) ⟨hx, hb, hml, hown, fun _ h9 => absurd h9 List.not_mem_nil⟩ (cw_X7_verdictNow_2 l E _ h0 h1 h2 h3 h4 h5) (rc_cwV hAm qw_963 qw_13 qw_966 qw_965 qs_53 rfl rfl hd_X7_verdictNow ⟨Nat.le_of_ble_eq_true rfl, Nat.le_of_ble_eq_true rfl⟩) (rc_preV hAm hA hw [1, 0] rfl rfl 1 rfl (q := vwCl[12]) rfl) rfl rfl hl.1 rfl (lv_room (Nat.le_of_ble_eq_true rfl)) dX7_verdict_40 ⟨Nat.le_of_ble_eq_true rfl, Nat.le_of_ble_eq_true rfl⟩) hA hw [1, 0] [] rfl rfl rfl (by decide) (fun r_20 u_21 H locs hp hw => ?_)
        obtain ⟨rfl, rfl⟩ := hp
        have hw : rc_W E A s [(h0, .inr (12, [.int 0, .ref h1, .ref h2, .ref h3, .ref h4, .ref h5, .int 1, .int 3, .int 50, .int (-1), .int (-1), .int (-1), .int (-1), .int 0, .int 100, .int 1000, .long 0])), (h3, .inr (4, [.int 0, .ref (E.2.2 0), .int 0]))] H locs := hw
        refine lv_goto (tgt := 51) hx hb dX7_verdict_43 (by decide) ?_
        exact rc_iret (v := 0) hx hb hr hlocks hw [(h0, .inr (12, [.int 0, .ref h1, .ref h2, .ref h3, .ref h4, .ref h5, .int 1, .int 3, .int 50, .int (-1), .int (-1), .int (-1), .int (-1), .int 0, .int 100, .int 1000, .long 0])), (h3, .inr (4, [.int 0, .ref (E.2.2 0), .int 0]))] (Or.inr (Or.inr (Or.inr (Or.inl ⟨rfl, rfl, rfl⟩)))) [0, 1] rfl (by decide) (Nat.le_of_ble_eq_true rfl) (Nat.le_of_ble_eq_true rfl) dX7_verdict_51
      · rcases Decidable.em (x0 = 2) with c_22 | c_22
        · obtain rfl : x0 = 2 := rc_eqc (b := 2) rfl (rc_g5 c_22 rfl)
          refine rc_calli (wr := []) (va_runV (As := [.int 0, .int 0, .int 2]) (rest := []) (Ts := []) ⟨hx, hb, hml, hown, fun _ h9 => absurd h9 List.not_mem_nil⟩ (cw_X7_verdictNow_3 l E _ h0 h1 h2 h3 h4 h5) (rc_cwV hAm qw_963 qw_13 qw_966 qw_965 qs_53 rfl rfl hd_X7_verdictNow ⟨Nat.le_of_ble_eq_true rfl, Nat.le_of_ble_eq_true rfl⟩) (rc_preV hAm hA hw [1, 0] rfl rfl 1 rfl (q := vwCl[12]) rfl) rfl rfl hl.1 rfl (lv_room (Nat.le_of_ble_eq_true rfl)) dX7_verdict_40 ⟨Nat.le_of_ble_eq_true rfl, Nat.le_of_ble_eq_true rfl⟩) hA hw [1, 0] [] rfl rfl rfl (by decide) (fun r_23 u_24 H locs hp hw => ?_)
          obtain ⟨rfl, rfl⟩ := hp
          have hw : rc_W E A s [(h0, .inr (12, [.int 0, .ref h1, .ref h2, .ref h3, .ref h4, .ref h5, .int 1, .int 3, .int 50, .int (-1), .int (-1), .int (-1), .int (-1), .int 0, .int 100, .int 1000, .long 0])), (h3, .inr (4, [.int 0, .ref (E.2.2 0), .int 0]))] H locs := hw
          refine lv_goto (tgt := 51) hx hb dX7_verdict_43 (by decide) ?_
          exact rc_iret (v := 1) hx hb hr hlocks hw [(h0, .inr (12, [.int 0, .ref h1, .ref h2, .ref h3, .ref h4, .ref h5, .int 1, .int 3, .int 50, .int (-1), .int (-1), .int (-1), .int (-1), .int 0, .int 100, .int 1000, .long 0])), (h3, .inr (4, [.int 0, .ref (E.2.2 0), .int 0]))] (Or.inr (Or.inr (Or.inr (Or.inr (Or.inl ⟨rfl, rfl, rfl⟩))))) [0, 1] rfl (by decide) (Nat.le_of_ble_eq_true rfl) (Nat.le_of_ble_eq_true rfl) dX7_verdict_51
        · rcases Decidable.em (x0 = 3) with c_25 | c_25
          · obtain rfl : x0 = 3 := rc_eqc (b := 3) rfl (rc_g5 c_25 rfl)
            refine rc_calli (wr := []) (va_runV (As := [.int 0, .int 0, .int 3]) (rest := []) (Ts := []) ⟨hx, hb, hml, hown, fun _ h9 => absurd h9 List.not_mem_nil⟩ (cw_X7_verdictNow_4 l E _ h0 h1 h2 h3 h4 h5) (rc_cwV hAm qw_963 qw_13 qw_966 qw_965 qs_53 rfl rfl hd_X7_verdictNow ⟨Nat.le_of_ble_eq_true rfl, Nat.le_of_ble_eq_true rfl⟩) (rc_preV hAm hA hw [1, 0] rfl rfl 1 rfl (q := vwCl[12]) rfl) rfl rfl hl.1 rfl (lv_room (Nat.le_of_ble_eq_true rfl)) dX7_verdict_40 ⟨Nat.le_of_ble_eq_true rfl, Nat.le_of_ble_eq_true rfl⟩) hA hw [1, 0] [] rfl rfl rfl (by decide) (fun r_26 u_27 H locs hp hw => ?_)
            obtain ⟨rfl, rfl⟩ := hp
            have hw : rc_W E A s [(h0, .inr (12, [.int 0, .ref h1, .ref h2, .ref h3, .ref h4, .ref h5, .int 1, .int 3, .int 50, .int (-1), .int (-1), .int (-1), .int (-1), .int 0, .int 100, .int 1000, .long 0])), (h3, .inr (4, [.int 0, .ref (E.2.2 0), .int 0]))] H locs := hw
            refine lv_goto (tgt := 51) hx hb dX7_verdict_43 (by decide) ?_
            exact rc_iret (v := 1) hx hb hr hlocks hw [(h0, .inr (12, [.int 0, .ref h1, .ref h2, .ref h3, .ref h4, .ref h5, .int 1, .int 3, .int 50, .int (-1), .int (-1), .int (-1), .int (-1), .int 0, .int 100, .int 1000, .long 0])), (h3, .inr (4, [.int 0, .ref (E.2.2 0), .int 0]))] (Or.inr (Or.inr (Or.inr (Or.inr (Or.inr (Or.inl ⟨rfl, rfl, rfl⟩)))))) [0, 1] rfl (by decide) (Nat.le_of_ble_eq_true rfl) (Nat.le_of_ble_eq_true rfl) dX7_verdict_51
          · obtain rfl : x0 = 4 := rc_eqc (b := 4) rfl (by have g_c_10 := rc_n1 (b := 0) c_10 rfl; have g_c_11 := rc_n2 (b := 4) c_11 rfl; have g_c_16 := rc_n5 (b := 0) c_16 rfl; have g_c_19 := rc_n5 (b := 1) c_19 rfl; have g_c_22 := rc_n5 (b := 2) c_22 rfl; have g_c_25 := rc_n5 (b := 3) c_25 rfl; omega)
            refine rc_calli (wr := []) (va_runV (As := [.int 0, .int 0, .int 4]) (rest := []) (Ts := []) ⟨hx, hb, hml, hown, fun _ h9 => absurd h9 List.not_mem_nil⟩ (cw_X7_verdictNow_5 l E _ h0 h1 h2 h3 h4 h5) (rc_cwV hAm qw_963 qw_13 qw_966 qw_965 qs_53 rfl rfl hd_X7_verdictNow ⟨Nat.le_of_ble_eq_true rfl, Nat.le_of_ble_eq_true rfl⟩) (rc_preV hAm hA hw [1, 0] rfl rfl 1 rfl (q := vwCl[12]) rfl) rfl rfl hl.1 rfl (lv_room (Nat.le_of_ble_eq_true rfl)) dX7_verdict_40 ⟨Nat.le_of_ble_eq_true rfl, Nat.le_of_ble_eq_true rfl⟩) hA hw [1, 0] [] rfl rfl rfl (by decide) (fun r_28 u_29 H locs hp hw => ?_)
            obtain ⟨rfl, rfl⟩ := hp
            have hw : rc_W E A s [(h0, .inr (12, [.int 0, .ref h1, .ref h2, .ref h3, .ref h4, .ref h5, .int 1, .int 3, .int 50, .int (-1), .int (-1), .int (-1), .int (-1), .int 0, .int 100, .int 1000, .long 0])), (h3, .inr (4, [.int 0, .ref (E.2.2 0), .int 0]))] H locs := hw
            refine lv_goto (tgt := 51) hx hb dX7_verdict_43 (by decide) ?_
            exact rc_iret (v := 1) hx hb hr hlocks hw [(h0, .inr (12, [.int 0, .ref h1, .ref h2, .ref h3, .ref h4, .ref h5, .int 1, .int 3, .int 50, .int (-1), .int (-1), .int (-1), .int (-1), .int 0, .int 100, .int 1000, .long 0])), (h3, .inr (4, [.int 0, .ref (E.2.2 0), .int 0]))] (Or.inr (Or.inr (Or.inr (Or.inr (Or.inr (Or.inr ⟨rfl, rfl, rfl⟩)))))) [0, 1] rfl (by decide) (Nat.le_of_ble_eq_true rfl) (Nat.le_of_ble_eq_true rfl) dX7_verdict_51
set_option maxHeartbeats 4000000 in
set_option maxRecDepth 100000 in
theorem cw_X7_is_61 (l : Launch) (E : rc_E) (sz : Nat) : rc_Mi l yX7_is [Cond.code yX7_is cX7_is 3 (some FieldType.boolean)] { frames := 0, cells := 0, slots := 0, locals := 0 } E [.int 0, .int 0, .int 4] [] sz (S := va_W) (fun (r : Int32) (u : va_W) => (1 = r ∧ u = [])) (fun u => u) 0 0 := by
  refine rc_ini (cc := cX7_is) (maxL := 3) (ret := (some FieldType.boolean)) (by decide) rfl (Nat.le_of_ble_eq_true rfl) ?_
  intro p e s m args below meth c ls A hx hb hr hml _ hown hlocks hin hA hAm hw hl
  have hown : s.vm.findClass RX7 = some m.cls := hown
  have hl : lv_has ls 3 [(0, .int 0), (1, .int 0), (2, .int 4)] := hl
  refine lv_iload_n hx hb dX7_is_0 rfl (lv_at hl 0 rfl) ?_
  refine lv_iload_n hx hb dX7_is_1 rfl (lv_at hl 1 rfl) ?_
  refine lv_icmp_lt (tgt := 14) hx hb dX7_is_2 (by decide) (fun c9 => absurd c9 (by decide)) (fun _ => ?_)
  refine lv_iload_n hx hb dX7_is_5 rfl (lv_at hl 0 rfl) ?_
  refine lv_iload_n hx hb dX7_is_6 rfl (lv_at hl 2 rfl) ?_
  refine lv_icmp_gt (tgt := 14) hx hb dX7_is_7 (by decide) (fun c9 => absurd c9 (by decide)) (fun _ => ?_)
  refine lv_iconst (v := 1) hx hb dX7_is_10 (by decide) ?_
  refine lv_goto (tgt := 15) hx hb dX7_is_11 (by decide) ?_
  exact rc_zret (v := 1) hx hb hr hlocks hw rfl [] (⟨rfl, rfl⟩) [] rfl (by decide) (Nat.le_of_ble_eq_true rfl) (Nat.le_of_ble_eq_true rfl) dX7_is_15
set_option maxHeartbeats 4000000 in
set_option maxRecDepth 100000 in
theorem cw_X7_verdict_4 (l : Launch) (E : rc_E) (sz : Nat) (h0 : Nat) (h1 : Nat) (h2 : Nat) (h3 : Nat) (h4 : Nat) (h5 : Nat) : rc_Mi l yX7_verdict [Cond.code yX7_verdict cX7_verdict 4 (some FieldType.int)] { frames := 6, cells := 4, slots := 12, locals := 155 } E [.ref h0, .int 0, .int 0, .int 0] [(h0, .inr (12, [.int 0, .ref h1, .ref h2, .ref h3, .ref h4, .ref h5, .int 1, .int 3, .int 50, .int (-1), .int (-1), .int (-1), .int (-1), .int 0, .int 100, .int 1000, .long 0])), (h3, .inr (4, [.int 0, .ref (E.2.2 0), .int 0]))] sz (S := va_W) (fun (r : Int32) (u : va_W) => (0 = r ∧ u = [(h0, .inr (12, [.int 0, .ref h1, .ref h2, .ref h3, .ref h4, .ref h5, .int 1, .int 3, .int 50, .int (-1), .int (-1), .int (-1), .int (-1), .int 0, .int 100, .int 1000, .long 0])), (h3, .inr (4, [.int 0, .ref (E.2.2 0), .int 0]))])) (fun u => u) 4 12 := by
  refine rc_ini (cc := cX7_verdict) (maxL := 4) (ret := (some FieldType.int)) (by decide) rfl (Nat.le_of_ble_eq_true rfl) ?_
  intro p e s m args below meth c ls A hx hb hr hml _ hown hlocks hin hA hAm hw hl
  have hown : s.vm.findClass RX7 = some m.cls := hown
  have hl : lv_has ls 4 [(0, .ref h0), (1, .int 0), (2, .int 0), (3, .int 0)] := hl
  refine lv_aload_n hx hb dX7_verdict_0 rfl (lv_at hl 0 rfl) ?_
  refine lv_iconst (v := 0) hx hb dX7_verdict_1 (by decide) ?_
  refine rc_put hx hb hown hAm hw lyX7 tyX7 tyX7_ok nmX7 0 rfl rfl 0 (by decide) qw_860 (fun _ h9 => h9) rfl rfl (by decide +kernel) (Nat.le_of_ble_eq_true rfl) [(h0, .inr (12, [.int 0, .ref h1, .ref h2, .ref h3, .ref h4, .ref h5, .int 1, .int 3, .int 50, .int (-1), .int (-1), .int (-1), .int (-1), .int 0, .int 100, .int 1000, .long 0])), (h3, .inr (4, [.int 0, .ref (E.2.2 0), .int 0]))] rfl dX7_verdict_2 (fun H locs hw => ?_)
  refine lv_aload_n hx hb dX7_verdict_5 rfl (lv_at hl 0 rfl) ?_
  refine lv_iload_n hx hb dX7_verdict_6 rfl (lv_at hl 1 rfl) ?_
  refine rc_calli (wr := [(h3, .inr (4, [.int 0, .ref (E.2.2 0), .int 0]))]) (va_runV (As := [.int 0]) (rest := []) (Ts := []) ⟨hx, hb, hml, hown, fun _ h9 => absurd h9 List.not_mem_nil⟩ (cw_X7_isChange_2 l E _ h0 h1 h2 h3 h4 h5) (rc_cwV hAm qw_1353 qw_13 qw_1356 qw_1355 qs_62 rfl rfl hd_X7_isChange ⟨Nat.le_of_ble_eq_true rfl, Nat.le_of_ble_eq_true rfl⟩) (rc_preV hAm hA hw [0] rfl rfl 0 rfl (q := vwCl[12]) rfl) rfl rfl hl.1 rfl (lv_room (Nat.le_of_ble_eq_true rfl)) dX7_verdict_7 ⟨Nat.le_of_ble_eq_true rfl, Nat.le_of_ble_eq_true rfl⟩) hA hw [0] [1] rfl rfl rfl (by decide) (fun r_1 u_2 H locs hp hw => ?_)
  obtain ⟨rfl, rfl⟩ := hp
  have hw : rc_W E A s [(h3, .inr (4, [.int 0, .ref (E.2.2 0), .int 0])), (h0, .inr (12, [.int 0, .ref h1, .ref h2, .ref h3, .ref h4, .ref h5, .int 1, .int 3, .int 50, .int (-1), .int (-1), .int (-1), .int (-1), .int 0, .int 100, .int 1000, .long 0]))] H locs := hw
  refine lv_if_eq (tgt := 21) hx hb dX7_verdict_10 (by decide) (fun c9 => absurd c9 (by decide)) (fun _ => ?_)
  refine lv_aload_n hx hb dX7_verdict_13 rfl (lv_at hl 0 rfl) ?_
  refine lv_iload_n hx hb dX7_verdict_14 rfl (lv_at hl 2 rfl) ?_
  refine rc_calli (wr := [(h3, .inr (4, [.int 0, .ref (E.2.2 0), .int 0]))]) (va_runV (As := [.int 0]) (rest := []) (Ts := []) ⟨hx, hb, hml, hown, fun _ h9 => absurd h9 List.not_mem_nil⟩ (cw_X7_isChange_2 l E _ h0 h1 h2 h3 h4 h5) (rc_cwV hAm qw_1353 qw_13 qw_1356 qw_1355 qs_62 rfl rfl hd_X7_isChange ⟨Nat.le_of_ble_eq_true rfl, Nat.le_of_ble_eq_true rfl⟩) (rc_preV hAm hA hw [1] rfl rfl 1 rfl (q := vwCl[12]) rfl) rfl rfl hl.1 rfl (lv_room (Nat.le_of_ble_eq_true rfl)) dX7_verdict_15 ⟨Nat.le_of_ble_eq_true rfl, Nat.le_of_ble_eq_true rfl⟩) hA hw [1] [0] rfl rfl rfl (by decide) (fun r_3 u_4 H locs hp hw => ?_)
  obtain ⟨rfl, rfl⟩ := hp
  have hw : rc_W E A s [(h3, .inr (4, [.int 0, .ref (E.2.2 0), .int 0])), (h0, .inr (12, [.int 0, .ref h1, .ref h2, .ref h3, .ref h4, .ref h5, .int 1, .int 3, .int 50, .int (-1), .int (-1), .int (-1), .int (-1), .int 0, .int 100, .int 1000, .long 0]))] H locs := hw
  refine lv_if_ne (tgt := 27) hx hb dX7_verdict_18 (by decide) (fun _ => ?_) (fun c9 => absurd c9 (by decide))
  refine lv_iload_n hx hb dX7_verdict_27 rfl (lv_at hl 3 rfl) ?_
  refine lv_iconst (v := 0) hx hb dX7_verdict_28 (by decide) ?_
  refine lv_iconst (v := 4) hx hb dX7_verdict_29 (by decide) ?_
  refine rc_calli (wr := [(h3, .inr (4, [.int 0, .ref (E.2.2 0), .int 0])), (h0, .inr (12, [.int 0, .ref h1, .ref h2, .ref h3, .ref h4, .ref h5, .int 1, .int 3, .int 50, .int (-1), .int (-1), .int (-1), .int (-1), .int 0, .int 100, .int 1000, .long 0]))]) (va_runS (As := [.int 0, .int 0, .int 4]) (rest := []) (Ts := []) ⟨hx, hb, hml, hown, fun _ h9 => absurd h9 List.not_mem_nil⟩ (cw_X7_is_61 l E _) (rc_cwS hAm qw_921 qw_13 qw_923 qw_922 rfl rfl hd_X7_is ⟨Nat.le_of_ble_eq_true rfl, Nat.le_of_ble_eq_true rfl⟩) (rc_preS hAm hA hw [] rfl rfl) rfl rfl hl.1 rfl (lv_room (Nat.le_of_ble_eq_true rfl)) dX7_verdict_30 ⟨Nat.le_of_ble_eq_true rfl, Nat.le_of_ble_eq_true rfl⟩) hA hw [] [0, 1] rfl rfl rfl (by decide) (fun r_5 u_6 H locs hp hw => ?_)
  obtain ⟨rfl, rfl⟩ := hp
  have hw : rc_W E A s [(h3, .inr (4, [.int 0, .ref (E.2.2 0), .int 0])), (h0, .inr (12, [.int 0, .ref h1, .ref h2, .ref h3, .ref h4, .ref h5, .int 1, .int 3, .int 50, .int (-1), .int (-1), .int (-1), .int (-1), .int 0, .int 100, .int 1000, .long 0]))] H locs := hw
  refine lv_if_eq (tgt := 46) hx hb dX7_verdict_33 (by decide) (fun c9 => absurd c9 (by decide)) (fun _ => ?_)
  refine lv_aload_n hx hb dX7_verdict_36 rfl (lv_at hl 0 rfl) ?_
  refine lv_iload_n hx hb dX7_verdict_37 rfl (lv_at hl 1 rfl) ?_
  refine lv_iload_n hx hb dX7_verdict_38 rfl (lv_at hl 2 rfl) ?_
  refine lv_iload_n hx hb dX7_verdict_39 rfl (lv_at hl 3 rfl) ?_
  refine rc_calli (wr := []) (va_runV (As := [.int 0, .int 0, .int 0]) (rest := []) (Ts := []) ⟨hx, hb, hml, hown, fun _ h9 => absurd h9 List.not_mem_nil⟩ (cw_X7_verdictNow l E _ h0 h1 h2 h3 h4 h5) (rc_cwV hAm qw_963 qw_13 qw_966 qw_965 qs_53 rfl rfl hd_X7_verdictNow ⟨Nat.le_of_ble_eq_true rfl, Nat.le_of_ble_eq_true rfl⟩) (rc_preV hAm hA hw [1, 0] rfl rfl 1 rfl (q := vwCl[12]) rfl) rfl rfl hl.1 rfl (lv_room (Nat.le_of_ble_eq_true rfl)) dX7_verdict_40 ⟨Nat.le_of_ble_eq_true rfl, Nat.le_of_ble_eq_true rfl⟩) hA hw [1, 0] [] rfl rfl rfl (by decide) (fun r_7 u_8 H locs hp hw => ?_)
  obtain ⟨rfl, rfl⟩ := hp
  have hw : rc_W E A s [(h0, .inr (12, [.int 0, .ref h1, .ref h2, .ref h3, .ref h4, .ref h5, .int 1, .int 3, .int 50, .int (-1), .int (-1), .int (-1), .int (-1), .int 0, .int 100, .int 1000, .long 0])), (h3, .inr (4, [.int 0, .ref (E.2.2 0), .int 0]))] H locs := hw
  refine lv_goto (tgt := 51) hx hb dX7_verdict_43 (by decide) ?_
  exact rc_iret (v := 0) hx hb hr hlocks hw [(h0, .inr (12, [.int 0, .ref h1, .ref h2, .ref h3, .ref h4, .ref h5, .int 1, .int 3, .int 50, .int (-1), .int (-1), .int (-1), .int (-1), .int 0, .int 100, .int 1000, .long 0])), (h3, .inr (4, [.int 0, .ref (E.2.2 0), .int 0]))] (⟨rfl, rfl⟩) [0, 1] rfl (by decide) (Nat.le_of_ble_eq_true rfl) (Nat.le_of_ble_eq_true rfl) dX7_verdict_51
set_option maxHeartbeats 4000000 in
set_option maxRecDepth 100000 in
theorem cw_X7_is_62 (l : Launch) (E : rc_E) (sz : Nat) : rc_Mi l yX7_is [Cond.code yX7_is cX7_is 3 (some FieldType.boolean)] { frames := 0, cells := 0, slots := 0, locals := 0 } E [.int 1, .int 0, .int 4] [] sz (S := va_W) (fun (r : Int32) (u : va_W) => (1 = r ∧ u = [])) (fun u => u) 0 0 := by
  refine rc_ini (cc := cX7_is) (maxL := 3) (ret := (some FieldType.boolean)) (by decide) rfl (Nat.le_of_ble_eq_true rfl) ?_
  intro p e s m args below meth c ls A hx hb hr hml _ hown hlocks hin hA hAm hw hl
  have hown : s.vm.findClass RX7 = some m.cls := hown
  have hl : lv_has ls 3 [(0, .int 1), (1, .int 0), (2, .int 4)] := hl
  refine lv_iload_n hx hb dX7_is_0 rfl (lv_at hl 0 rfl) ?_
  refine lv_iload_n hx hb dX7_is_1 rfl (lv_at hl 1 rfl) ?_
  refine lv_icmp_lt (tgt := 14) hx hb dX7_is_2 (by decide) (fun c9 => absurd c9 (by decide)) (fun _ => ?_)
  refine lv_iload_n hx hb dX7_is_5 rfl (lv_at hl 0 rfl) ?_
  refine lv_iload_n hx hb dX7_is_6 rfl (lv_at hl 2 rfl) ?_
  refine lv_icmp_gt (tgt := 14) hx hb dX7_is_7 (by decide) (fun c9 => absurd c9 (by decide)) (fun _ => ?_)
  refine lv_iconst (v := 1) hx hb dX7_is_10 (by decide) ?_
  refine lv_goto (tgt := 15) hx hb dX7_is_11 (by decide) ?_
  exact rc_zret (v := 1) hx hb hr hlocks hw rfl [] (⟨rfl, rfl⟩) [] rfl (by decide) (Nat.le_of_ble_eq_true rfl) (Nat.le_of_ble_eq_true rfl) dX7_is_15
set_option maxHeartbeats 4000000 in
set_option maxRecDepth 100000 in
theorem cw_X7_verdict_5 (l : Launch) (E : rc_E) (sz : Nat) (h0 : Nat) (h1 : Nat) (h2 : Nat) (h3 : Nat) (h4 : Nat) (h5 : Nat) : rc_Mi l yX7_verdict [Cond.code yX7_verdict cX7_verdict 4 (some FieldType.int)] { frames := 7, cells := 8, slots := 18, locals := 185 } E [.ref h0, .int 0, .int 0, .int 1] [(h0, .inr (12, [.int 0, .ref h1, .ref h2, .ref h3, .ref h4, .ref h5, .int 1, .int 3, .int 50, .int (-1), .int (-1), .int (-1), .int (-1), .int 0, .int 100, .int 1000, .long 0])), (h3, .inr (4, [.int 0, .ref (E.2.2 0), .int 0]))] sz (S := va_W) (fun (r : Int32) (u : va_W) => (0 = r ∧ u = [(h0, .inr (12, [.int 0, .ref h1, .ref h2, .ref h3, .ref h4, .ref h5, .int 1, .int 3, .int 50, .int (-1), .int (-1), .int (-1), .int (-1), .int 0, .int 100, .int 1000, .long 0])), (h3, .inr (4, [.int 0, .ref (E.2.2 0), .int 0]))])) (fun u => u) 8 18 := by
  refine rc_ini (cc := cX7_verdict) (maxL := 4) (ret := (some FieldType.int)) (by decide) rfl (Nat.le_of_ble_eq_true rfl) ?_
  intro p e s m args below meth c ls A hx hb hr hml _ hown hlocks hin hA hAm hw hl
  have hown : s.vm.findClass RX7 = some m.cls := hown
  have hl : lv_has ls 4 [(0, .ref h0), (1, .int 0), (2, .int 0), (3, .int 1)] := hl
  refine lv_aload_n hx hb dX7_verdict_0 rfl (lv_at hl 0 rfl) ?_
  refine lv_iconst (v := 0) hx hb dX7_verdict_1 (by decide) ?_
  refine rc_put hx hb hown hAm hw lyX7 tyX7 tyX7_ok nmX7 0 rfl rfl 0 (by decide) qw_860 (fun _ h9 => h9) rfl rfl (by decide +kernel) (Nat.le_of_ble_eq_true rfl) [(h0, .inr (12, [.int 0, .ref h1, .ref h2, .ref h3, .ref h4, .ref h5, .int 1, .int 3, .int 50, .int (-1), .int (-1), .int (-1), .int (-1), .int 0, .int 100, .int 1000, .long 0])), (h3, .inr (4, [.int 0, .ref (E.2.2 0), .int 0]))] rfl dX7_verdict_2 (fun H locs hw => ?_)
  refine lv_aload_n hx hb dX7_verdict_5 rfl (lv_at hl 0 rfl) ?_
  refine lv_iload_n hx hb dX7_verdict_6 rfl (lv_at hl 1 rfl) ?_
  refine rc_calli (wr := [(h3, .inr (4, [.int 0, .ref (E.2.2 0), .int 0]))]) (va_runV (As := [.int 0]) (rest := []) (Ts := []) ⟨hx, hb, hml, hown, fun _ h9 => absurd h9 List.not_mem_nil⟩ (cw_X7_isChange_2 l E _ h0 h1 h2 h3 h4 h5) (rc_cwV hAm qw_1353 qw_13 qw_1356 qw_1355 qs_62 rfl rfl hd_X7_isChange ⟨Nat.le_of_ble_eq_true rfl, Nat.le_of_ble_eq_true rfl⟩) (rc_preV hAm hA hw [0] rfl rfl 0 rfl (q := vwCl[12]) rfl) rfl rfl hl.1 rfl (lv_room (Nat.le_of_ble_eq_true rfl)) dX7_verdict_7 ⟨Nat.le_of_ble_eq_true rfl, Nat.le_of_ble_eq_true rfl⟩) hA hw [0] [1] rfl rfl rfl (by decide) (fun r_1 u_2 H locs hp hw => ?_)
  obtain ⟨rfl, rfl⟩ := hp
  have hw : rc_W E A s [(h3, .inr (4, [.int 0, .ref (E.2.2 0), .int 0])), (h0, .inr (12, [.int 0, .ref h1, .ref h2, .ref h3, .ref h4, .ref h5, .int 1, .int 3, .int 50, .int (-1), .int (-1), .int (-1), .int (-1), .int 0, .int 100, .int 1000, .long 0]))] H locs := hw
  refine lv_if_eq (tgt := 21) hx hb dX7_verdict_10 (by decide) (fun c9 => absurd c9 (by decide)) (fun _ => ?_)
  refine lv_aload_n hx hb dX7_verdict_13 rfl (lv_at hl 0 rfl) ?_
  refine lv_iload_n hx hb dX7_verdict_14 rfl (lv_at hl 2 rfl) ?_
  refine rc_calli (wr := [(h3, .inr (4, [.int 0, .ref (E.2.2 0), .int 0]))]) (va_runV (As := [.int 0]) (rest := []) (Ts := []) ⟨hx, hb, hml, hown, fun _ h9 => absurd h9 List.not_mem_nil⟩ (cw_X7_isChange_2 l E _ h0 h1 h2 h3 h4 h5) (rc_cwV hAm qw_1353 qw_13 qw_1356 qw_1355 qs_62 rfl rfl hd_X7_isChange ⟨Nat.le_of_ble_eq_true rfl, Nat.le_of_ble_eq_true rfl⟩) (rc_preV hAm hA hw [1] rfl rfl 1 rfl (q := vwCl[12]) rfl) rfl rfl hl.1 rfl (lv_room (Nat.le_of_ble_eq_true rfl)) dX7_verdict_15 ⟨Nat.le_of_ble_eq_true rfl, Nat.le_of_ble_eq_true rfl⟩) hA hw [1] [0] rfl rfl rfl (by decide) (fun r_3 u_4 H locs hp hw => ?_)
  obtain ⟨rfl, rfl⟩ := hp
  have hw : rc_W E A s [(h3, .inr (4, [.int 0, .ref (E.2.2 0), .int 0])), (h0, .inr (12, [.int 0, .ref h1, .ref h2, .ref h3, .ref h4, .ref h5, .int 1, .int 3, .int 50, .int (-1), .int (-1), .int (-1), .int (-1), .int 0, .int 100, .int 1000, .long 0]))] H locs := hw
  refine lv_if_ne (tgt := 27) hx hb dX7_verdict_18 (by decide) (fun _ => ?_) (fun c9 => absurd c9 (by decide))
  refine lv_iload_n hx hb dX7_verdict_27 rfl (lv_at hl 3 rfl) ?_
  refine lv_iconst (v := 0) hx hb dX7_verdict_28 (by decide) ?_
  refine lv_iconst (v := 4) hx hb dX7_verdict_29 (by decide) ?_
  refine rc_calli (wr := [(h3, .inr (4, [.int 0, .ref (E.2.2 0), .int 0])), (h0, .inr (12, [.int 0, .ref h1, .ref h2, .ref h3, .ref h4, .ref h5, .int 1, .int 3, .int 50, .int (-1), .int (-1), .int (-1), .int (-1), .int 0, .int 100, .int 1000, .long 0]))]) (va_runS (As := [.int 1, .int 0, .int 4]) (rest := []) (Ts := []) ⟨hx, hb, hml, hown, fun _ h9 => absurd h9 List.not_mem_nil⟩ (cw_X7_is_62 l E _) (rc_cwS hAm qw_921 qw_13 qw_923 qw_922 rfl rfl hd_X7_is ⟨Nat.le_of_ble_eq_true rfl, Nat.le_of_ble_eq_true rfl⟩) (rc_preS hAm hA hw [] rfl rfl) rfl rfl hl.1 rfl (lv_room (Nat.le_of_ble_eq_true rfl)) dX7_verdict_30 ⟨Nat.le_of_ble_eq_true rfl, Nat.le_of_ble_eq_true rfl⟩) hA hw [] [0, 1] rfl rfl rfl (by decide) (fun r_5 u_6 H locs hp hw => ?_)
  obtain ⟨rfl, rfl⟩ := hp
  have hw : rc_W E A s [(h3, .inr (4, [.int 0, .ref (E.2.2 0), .int 0])), (h0, .inr (12, [.int 0, .ref h1, .ref h2, .ref h3, .ref h4, .ref h5, .int 1, .int 3, .int 50, .int (-1), .int (-1), .int (-1), .int (-1), .int 0, .int 100, .int 1000, .long 0]))] H locs := hw
  refine lv_if_eq (tgt := 46) hx hb dX7_verdict_33 (by decide) (fun c9 => absurd c9 (by decide)) (fun _ => ?_)
  refine lv_aload_n hx hb dX7_verdict_36 rfl (lv_at hl 0 rfl) ?_
  refine lv_iload_n hx hb dX7_verdict_37 rfl (lv_at hl 1 rfl) ?_
  refine lv_iload_n hx hb dX7_verdict_38 rfl (lv_at hl 2 rfl) ?_
  refine lv_iload_n hx hb dX7_verdict_39 rfl (lv_at hl 3 rfl) ?_
  refine rc_calli (wr := []) (va_runV (As := [.int 0, .int 0, .int 1]) (rest := []) (Ts := []) ⟨hx, hb, hml, hown, fun _ h9 => absurd h9 List.not_mem_nil⟩ (cw_X7_verdictNow_2 l E _ h0 h1 h2 h3 h4 h5) (rc_cwV hAm qw_963 qw_13 qw_966 qw_965 qs_53 rfl rfl hd_X7_verdictNow ⟨Nat.le_of_ble_eq_true rfl, Nat.le_of_ble_eq_true rfl⟩) (rc_preV hAm hA hw [1, 0] rfl rfl 1 rfl (q := vwCl[12]) rfl) rfl rfl hl.1 rfl (lv_room (Nat.le_of_ble_eq_true rfl)) dX7_verdict_40 ⟨Nat.le_of_ble_eq_true rfl, Nat.le_of_ble_eq_true rfl⟩) hA hw [1, 0] [] rfl rfl rfl (by decide) (fun r_7 u_8 H locs hp hw => ?_)
  obtain ⟨rfl, rfl⟩ := hp
  have hw : rc_W E A s [(h0, .inr (12, [.int 0, .ref h1, .ref h2, .ref h3, .ref h4, .ref h5, .int 1, .int 3, .int 50, .int (-1), .int (-1), .int (-1), .int (-1), .int 0, .int 100, .int 1000, .long 0])), (h3, .inr (4, [.int 0, .ref (E.2.2 0), .int 0]))] H locs := hw
  refine lv_goto (tgt := 51) hx hb dX7_verdict_43 (by decide) ?_
  exact rc_iret (v := 0) hx hb hr hlocks hw [(h0, .inr (12, [.int 0, .ref h1, .ref h2, .ref h3, .ref h4, .ref h5, .int 1, .int 3, .int 50, .int (-1), .int (-1), .int (-1), .int (-1), .int 0, .int 100, .int 1000, .long 0])), (h3, .inr (4, [.int 0, .ref (E.2.2 0), .int 0]))] (⟨rfl, rfl⟩) [0, 1] rfl (by decide) (Nat.le_of_ble_eq_true rfl) (Nat.le_of_ble_eq_true rfl) dX7_verdict_51
set_option maxHeartbeats 4000000 in
set_option maxRecDepth 100000 in
theorem cw_X7_is_63 (l : Launch) (E : rc_E) (sz : Nat) : rc_Mi l yX7_is [Cond.code yX7_is cX7_is 3 (some FieldType.boolean)] { frames := 0, cells := 0, slots := 0, locals := 0 } E [.int 2, .int 0, .int 4] [] sz (S := va_W) (fun (r : Int32) (u : va_W) => (1 = r ∧ u = [])) (fun u => u) 0 0 := by
  refine rc_ini (cc := cX7_is) (maxL := 3) (ret := (some FieldType.boolean)) (by decide) rfl (Nat.le_of_ble_eq_true rfl) ?_
  intro p e s m args below meth c ls A hx hb hr hml _ hown hlocks hin hA hAm hw hl
  have hown : s.vm.findClass RX7 = some m.cls := hown
  have hl : lv_has ls 3 [(0, .int 2), (1, .int 0), (2, .int 4)] := hl
  refine lv_iload_n hx hb dX7_is_0 rfl (lv_at hl 0 rfl) ?_
  refine lv_iload_n hx hb dX7_is_1 rfl (lv_at hl 1 rfl) ?_
  refine lv_icmp_lt (tgt := 14) hx hb dX7_is_2 (by decide) (fun c9 => absurd c9 (by decide)) (fun _ => ?_)
  refine lv_iload_n hx hb dX7_is_5 rfl (lv_at hl 0 rfl) ?_
  refine lv_iload_n hx hb dX7_is_6 rfl (lv_at hl 2 rfl) ?_
  refine lv_icmp_gt (tgt := 14) hx hb dX7_is_7 (by decide) (fun c9 => absurd c9 (by decide)) (fun _ => ?_)
  refine lv_iconst (v := 1) hx hb dX7_is_10 (by decide) ?_
  refine lv_goto (tgt := 15) hx hb dX7_is_11 (by decide) ?_
  exact rc_zret (v := 1) hx hb hr hlocks hw rfl [] (⟨rfl, rfl⟩) [] rfl (by decide) (Nat.le_of_ble_eq_true rfl) (Nat.le_of_ble_eq_true rfl) dX7_is_15
set_option maxHeartbeats 4000000 in
set_option maxRecDepth 100000 in
theorem cw_X7_verdict_6 (l : Launch) (E : rc_E) (sz : Nat) (h0 : Nat) (h1 : Nat) (h2 : Nat) (h3 : Nat) (h4 : Nat) (h5 : Nat) : rc_Mi l yX7_verdict [Cond.code yX7_verdict cX7_verdict 4 (some FieldType.int)] { frames := 7, cells := 8, slots := 18, locals := 185 } E [.ref h0, .int 0, .int 0, .int 2] [(h0, .inr (12, [.int 0, .ref h1, .ref h2, .ref h3, .ref h4, .ref h5, .int 1, .int 3, .int 50, .int (-1), .int (-1), .int (-1), .int (-1), .int 0, .int 100, .int 1000, .long 0])), (h3, .inr (4, [.int 0, .ref (E.2.2 0), .int 0]))] sz (S := va_W) (fun (r : Int32) (u : va_W) => (1 = r ∧ u = [(h0, .inr (12, [.int 0, .ref h1, .ref h2, .ref h3, .ref h4, .ref h5, .int 1, .int 3, .int 50, .int (-1), .int (-1), .int (-1), .int (-1), .int 0, .int 100, .int 1000, .long 0])), (h3, .inr (4, [.int 0, .ref (E.2.2 0), .int 0]))])) (fun u => u) 8 18 := by
  refine rc_ini (cc := cX7_verdict) (maxL := 4) (ret := (some FieldType.int)) (by decide) rfl (Nat.le_of_ble_eq_true rfl) ?_
  intro p e s m args below meth c ls A hx hb hr hml _ hown hlocks hin hA hAm hw hl
  have hown : s.vm.findClass RX7 = some m.cls := hown
  have hl : lv_has ls 4 [(0, .ref h0), (1, .int 0), (2, .int 0), (3, .int 2)] := hl
  refine lv_aload_n hx hb dX7_verdict_0 rfl (lv_at hl 0 rfl) ?_
  refine lv_iconst (v := 0) hx hb dX7_verdict_1 (by decide) ?_
  refine rc_put hx hb hown hAm hw lyX7 tyX7 tyX7_ok nmX7 0 rfl rfl 0 (by decide) qw_860 (fun _ h9 => h9) rfl rfl (by decide +kernel) (Nat.le_of_ble_eq_true rfl) [(h0, .inr (12, [.int 0, .ref h1, .ref h2, .ref h3, .ref h4, .ref h5, .int 1, .int 3, .int 50, .int (-1), .int (-1), .int (-1), .int (-1), .int 0, .int 100, .int 1000, .long 0])), (h3, .inr (4, [.int 0, .ref (E.2.2 0), .int 0]))] rfl dX7_verdict_2 (fun H locs hw => ?_)
  refine lv_aload_n hx hb dX7_verdict_5 rfl (lv_at hl 0 rfl) ?_
  refine lv_iload_n hx hb dX7_verdict_6 rfl (lv_at hl 1 rfl) ?_
  refine rc_calli (wr := [(h3, .inr (4, [.int 0, .ref (E.2.2 0), .int 0]))]) (va_runV (As := [.int 0]) (rest := []) (Ts := []) ⟨hx, hb, hml, hown, fun _ h9 => absurd h9 List.not_mem_nil⟩ (cw_X7_isChange_2 l E _ h0 h1 h2 h3 h4 h5) (rc_cwV hAm qw_1353 qw_13 qw_1356 qw_1355 qs_62 rfl rfl hd_X7_isChange ⟨Nat.le_of_ble_eq_true rfl, Nat.le_of_ble_eq_true rfl⟩) (rc_preV hAm hA hw [0] rfl rfl 0 rfl (q := vwCl[12]) rfl) rfl rfl hl.1 rfl (lv_room (Nat.le_of_ble_eq_true rfl)) dX7_verdict_7 ⟨Nat.le_of_ble_eq_true rfl, Nat.le_of_ble_eq_true rfl⟩) hA hw [0] [1] rfl rfl rfl (by decide) (fun r_1 u_2 H locs hp hw => ?_)
  obtain ⟨rfl, rfl⟩ := hp
  have hw : rc_W E A s [(h3, .inr (4, [.int 0, .ref (E.2.2 0), .int 0])), (h0, .inr (12, [.int 0, .ref h1, .ref h2, .ref h3, .ref h4, .ref h5, .int 1, .int 3, .int 50, .int (-1), .int (-1), .int (-1), .int (-1), .int 0, .int 100, .int 1000, .long 0]))] H locs := hw
  refine lv_if_eq (tgt := 21) hx hb dX7_verdict_10 (by decide) (fun c9 => absurd c9 (by decide)) (fun _ => ?_)
  refine lv_aload_n hx hb dX7_verdict_13 rfl (lv_at hl 0 rfl) ?_
  refine lv_iload_n hx hb dX7_verdict_14 rfl (lv_at hl 2 rfl) ?_
  refine rc_calli (wr := [(h3, .inr (4, [.int 0, .ref (E.2.2 0), .int 0]))]) (va_runV (As := [.int 0]) (rest := []) (Ts := []) ⟨hx, hb, hml, hown, fun _ h9 => absurd h9 List.not_mem_nil⟩ (cw_X7_isChange_2 l E _ h0 h1 h2 h3 h4 h5) (rc_cwV hAm qw_1353 qw_13 qw_1356 qw_1355 qs_62 rfl rfl hd_X7_isChange ⟨Nat.le_of_ble_eq_true rfl, Nat.le_of_ble_eq_true rfl⟩) (rc_preV hAm hA hw [1] rfl rfl 1 rfl (q := vwCl[12]) rfl) rfl rfl hl.1 rfl (lv_room (Nat.le_of_ble_eq_true rfl)) dX7_verdict_15 ⟨Nat.le_of_ble_eq_true rfl, Nat.le_of_ble_eq_true rfl⟩) hA hw [1] [0] rfl rfl rfl (by decide) (fun r_3 u_4 H locs hp hw => ?_)
  obtain ⟨rfl, rfl⟩ := hp
  have hw : rc_W E A s [(h3, .inr (4, [.int 0, .ref (E.2.2 0), .int 0])), (h0, .inr (12, [.int 0, .ref h1, .ref h2, .ref h3, .ref h4, .ref h5, .int 1, .int 3, .int 50, .int (-1), .int (-1), .int (-1), .int (-1), .int 0, .int 100, .int 1000, .long 0]))] H locs := hw
  refine lv_if_ne (tgt := 27) hx hb dX7_verdict_18 (by decide) (fun _ => ?_) (fun c9 => absurd c9 (by decide))
  refine lv_iload_n hx hb dX7_verdict_27 rfl (lv_at hl 3 rfl) ?_
  refine lv_iconst (v := 0) hx hb dX7_verdict_28 (by decide) ?_
  refine lv_iconst (v := 4) hx hb dX7_verdict_29 (by decide) ?_
  refine rc_calli (wr := [(h3, .inr (4, [.int 0, .ref (E.2.2 0), .int 0])), (h0, .inr (12, [.int 0, .ref h1, .ref h2, .ref h3, .ref h4, .ref h5, .int 1, .int 3, .int 50, .int (-1), .int (-1), .int (-1), .int (-1), .int 0, .int 100, .int 1000, .long 0]))]) (va_runS (As := [.int 2, .int 0, .int 4]) (rest := []) (Ts := []) ⟨hx, hb, hml, hown, fun _ h9 => absurd h9 List.not_mem_nil⟩ (cw_X7_is_63 l E _) (rc_cwS hAm qw_921 qw_13 qw_923 qw_922 rfl rfl hd_X7_is ⟨Nat.le_of_ble_eq_true rfl, Nat.le_of_ble_eq_true rfl⟩) (rc_preS hAm hA hw [] rfl rfl) rfl rfl hl.1 rfl (lv_room (Nat.le_of_ble_eq_true rfl)) dX7_verdict_30 ⟨Nat.le_of_ble_eq_true rfl, Nat.le_of_ble_eq_true rfl⟩) hA hw [] [0, 1] rfl rfl rfl (by decide) (fun r_5 u_6 H locs hp hw => ?_)
  obtain ⟨rfl, rfl⟩ := hp
  have hw : rc_W E A s [(h3, .inr (4, [.int 0, .ref (E.2.2 0), .int 0])), (h0, .inr (12, [.int 0, .ref h1, .ref h2, .ref h3, .ref h4, .ref h5, .int 1, .int 3, .int 50, .int (-1), .int (-1), .int (-1), .int (-1), .int 0, .int 100, .int 1000, .long 0]))] H locs := hw
  refine lv_if_eq (tgt := 46) hx hb dX7_verdict_33 (by decide) (fun c9 => absurd c9 (by decide)) (fun _ => ?_)
  refine lv_aload_n hx hb dX7_verdict_36 rfl (lv_at hl 0 rfl) ?_
  refine lv_iload_n hx hb dX7_verdict_37 rfl (lv_at hl 1 rfl) ?_
  refine lv_iload_n hx hb dX7_verdict_38 rfl (lv_at hl 2 rfl) ?_
  refine lv_iload_n hx hb dX7_verdict_39 rfl (lv_at hl 3 rfl) ?_
  refine rc_calli (wr := []) (va_runV (As := [.int 0, .int 0, .int 2]) (rest := []) (Ts := []) ⟨hx, hb, hml, hown, fun _ h9 => absurd h9 List.not_mem_nil⟩ (cw_X7_verdictNow_3 l E _ h0 h1 h2 h3 h4 h5) (rc_cwV hAm qw_963 qw_13 qw_966 qw_965 qs_53 rfl rfl hd_X7_verdictNow ⟨Nat.le_of_ble_eq_true rfl, Nat.le_of_ble_eq_true rfl⟩) (rc_preV hAm hA hw [1, 0] rfl rfl 1 rfl (q := vwCl[12]) rfl) rfl rfl hl.1 rfl (lv_room (Nat.le_of_ble_eq_true rfl)) dX7_verdict_40 ⟨Nat.le_of_ble_eq_true rfl, Nat.le_of_ble_eq_true rfl⟩) hA hw [1, 0] [] rfl rfl rfl (by decide) (fun r_7 u_8 H locs hp hw => ?_)
  obtain ⟨rfl, rfl⟩ := hp
  have hw : rc_W E A s [(h0, .inr (12, [.int 0, .ref h1, .ref h2, .ref h3, .ref h4, .ref h5, .int 1, .int 3, .int 50, .int (-1), .int (-1), .int (-1), .int (-1), .int 0, .int 100, .int 1000, .long 0])), (h3, .inr (4, [.int 0, .ref (E.2.2 0), .int 0]))] H locs := hw
  refine lv_goto (tgt := 51) hx hb dX7_verdict_43 (by decide) ?_
  exact rc_iret (v := 1) hx hb hr hlocks hw [(h0, .inr (12, [.int 0, .ref h1, .ref h2, .ref h3, .ref h4, .ref h5, .int 1, .int 3, .int 50, .int (-1), .int (-1), .int (-1), .int (-1), .int 0, .int 100, .int 1000, .long 0])), (h3, .inr (4, [.int 0, .ref (E.2.2 0), .int 0]))] (⟨rfl, rfl⟩) [0, 1] rfl (by decide) (Nat.le_of_ble_eq_true rfl) (Nat.le_of_ble_eq_true rfl) dX7_verdict_51
set_option maxHeartbeats 4000000 in
set_option maxRecDepth 100000 in
theorem cw_X7_is_64 (l : Launch) (E : rc_E) (sz : Nat) : rc_Mi l yX7_is [Cond.code yX7_is cX7_is 3 (some FieldType.boolean)] { frames := 0, cells := 0, slots := 0, locals := 0 } E [.int 3, .int 0, .int 4] [] sz (S := va_W) (fun (r : Int32) (u : va_W) => (1 = r ∧ u = [])) (fun u => u) 0 0 := by
  refine rc_ini (cc := cX7_is) (maxL := 3) (ret := (some FieldType.boolean)) (by decide) rfl (Nat.le_of_ble_eq_true rfl) ?_
  intro p e s m args below meth c ls A hx hb hr hml _ hown hlocks hin hA hAm hw hl
  have hown : s.vm.findClass RX7 = some m.cls := hown
  have hl : lv_has ls 3 [(0, .int 3), (1, .int 0), (2, .int 4)] := hl
  refine lv_iload_n hx hb dX7_is_0 rfl (lv_at hl 0 rfl) ?_
  refine lv_iload_n hx hb dX7_is_1 rfl (lv_at hl 1 rfl) ?_
  refine lv_icmp_lt (tgt := 14) hx hb dX7_is_2 (by decide) (fun c9 => absurd c9 (by decide)) (fun _ => ?_)
  refine lv_iload_n hx hb dX7_is_5 rfl (lv_at hl 0 rfl) ?_
  refine lv_iload_n hx hb dX7_is_6 rfl (lv_at hl 2 rfl) ?_
  refine lv_icmp_gt (tgt := 14) hx hb dX7_is_7 (by decide) (fun c9 => absurd c9 (by decide)) (fun _ => ?_)
  refine lv_iconst (v := 1) hx hb dX7_is_10 (by decide) ?_
  refine lv_goto (tgt := 15) hx hb dX7_is_11 (by decide) ?_
  exact rc_zret (v := 1) hx hb hr hlocks hw rfl [] (⟨rfl, rfl⟩) [] rfl (by decide) (Nat.le_of_ble_eq_true rfl) (Nat.le_of_ble_eq_true rfl) dX7_is_15
set_option maxHeartbeats 4000000 in
set_option maxRecDepth 100000 in
theorem cw_X7_verdict_7 (l : Launch) (E : rc_E) (sz : Nat) (h0 : Nat) (h1 : Nat) (h2 : Nat) (h3 : Nat) (h4 : Nat) (h5 : Nat) : rc_Mi l yX7_verdict [Cond.code yX7_verdict cX7_verdict 4 (some FieldType.int)] { frames := 7, cells := 8, slots := 18, locals := 185 } E [.ref h0, .int 0, .int 0, .int 3] [(h0, .inr (12, [.int 0, .ref h1, .ref h2, .ref h3, .ref h4, .ref h5, .int 1, .int 3, .int 50, .int (-1), .int (-1), .int (-1), .int (-1), .int 0, .int 100, .int 1000, .long 0])), (h3, .inr (4, [.int 0, .ref (E.2.2 0), .int 0]))] sz (S := va_W) (fun (r : Int32) (u : va_W) => (1 = r ∧ u = [(h0, .inr (12, [.int 0, .ref h1, .ref h2, .ref h3, .ref h4, .ref h5, .int 1, .int 3, .int 50, .int (-1), .int (-1), .int (-1), .int (-1), .int 0, .int 100, .int 1000, .long 0])), (h3, .inr (4, [.int 0, .ref (E.2.2 0), .int 0]))])) (fun u => u) 8 18 := by
  refine rc_ini (cc := cX7_verdict) (maxL := 4) (ret := (some FieldType.int)) (by decide) rfl (Nat.le_of_ble_eq_true rfl) ?_
  intro p e s m args below meth c ls A hx hb hr hml _ hown hlocks hin hA hAm hw hl
  have hown : s.vm.findClass RX7 = some m.cls := hown
  have hl : lv_has ls 4 [(0, .ref h0), (1, .int 0), (2, .int 0), (3, .int 3)] := hl
  refine lv_aload_n hx hb dX7_verdict_0 rfl (lv_at hl 0 rfl) ?_
  refine lv_iconst (v := 0) hx hb dX7_verdict_1 (by decide) ?_
  refine rc_put hx hb hown hAm hw lyX7 tyX7 tyX7_ok nmX7 0 rfl rfl 0 (by decide) qw_860 (fun _ h9 => h9) rfl rfl (by decide +kernel) (Nat.le_of_ble_eq_true rfl) [(h0, .inr (12, [.int 0, .ref h1, .ref h2, .ref h3, .ref h4, .ref h5, .int 1, .int 3, .int 50, .int (-1), .int (-1), .int (-1), .int (-1), .int 0, .int 100, .int 1000, .long 0])), (h3, .inr (4, [.int 0, .ref (E.2.2 0), .int 0]))] rfl dX7_verdict_2 (fun H locs hw => ?_)
  refine lv_aload_n hx hb dX7_verdict_5 rfl (lv_at hl 0 rfl) ?_
  refine lv_iload_n hx hb dX7_verdict_6 rfl (lv_at hl 1 rfl) ?_
  refine rc_calli (wr := [(h3, .inr (4, [.int 0, .ref (E.2.2 0), .int 0]))]) (va_runV (As := [.int 0]) (rest := []) (Ts := []) ⟨hx, hb, hml, hown, fun _ h9 => absurd h9 List.not_mem_nil⟩ (cw_X7_isChange_2 l E _ h0 h1 h2 h3 h4 h5) (rc_cwV hAm qw_1353 qw_13 qw_1356 qw_1355 qs_62 rfl rfl hd_X7_isChange ⟨Nat.le_of_ble_eq_true rfl, Nat.le_of_ble_eq_true rfl⟩) (rc_preV hAm hA hw [0] rfl rfl 0 rfl (q := vwCl[12]) rfl) rfl rfl hl.1 rfl (lv_room (Nat.le_of_ble_eq_true rfl)) dX7_verdict_7 ⟨Nat.le_of_ble_eq_true rfl, Nat.le_of_ble_eq_true rfl⟩) hA hw [0] [1] rfl rfl rfl (by decide) (fun r_1 u_2 H locs hp hw => ?_)
  obtain ⟨rfl, rfl⟩ := hp
  have hw : rc_W E A s [(h3, .inr (4, [.int 0, .ref (E.2.2 0), .int 0])), (h0, .inr (12, [.int 0, .ref h1, .ref h2, .ref h3, .ref h4, .ref h5, .int 1, .int 3, .int 50, .int (-1), .int (-1), .int (-1), .int (-1), .int 0, .int 100, .int 1000, .long 0]))] H locs := hw
  refine lv_if_eq (tgt := 21) hx hb dX7_verdict_10 (by decide) (fun c9 => absurd c9 (by decide)) (fun _ => ?_)
  refine lv_aload_n hx hb dX7_verdict_13 rfl (lv_at hl 0 rfl) ?_
  refine lv_iload_n hx hb dX7_verdict_14 rfl (lv_at hl 2 rfl) ?_
  refine rc_calli (wr := [(h3, .inr (4, [.int 0, .ref (E.2.2 0), .int 0]))]) (va_runV (As := [.int 0]) (rest := []) (Ts := []) ⟨hx, hb, hml, hown, fun _ h9 => absurd h9 List.not_mem_nil⟩ (cw_X7_isChange_2 l E _ h0 h1 h2 h3 h4 h5) (rc_cwV hAm qw_1353 qw_13 qw_1356 qw_1355 qs_62 rfl rfl hd_X7_isChange ⟨Nat.le_of_ble_eq_true rfl, Nat.le_of_ble_eq_true rfl⟩) (rc_preV hAm hA hw [1] rfl rfl 1 rfl (q := vwCl[12]) rfl) rfl rfl hl.1 rfl (lv_room (Nat.le_of_ble_eq_true rfl)) dX7_verdict_15 ⟨Nat.le_of_ble_eq_true rfl, Nat.le_of_ble_eq_true rfl⟩) hA hw [1] [0] rfl rfl rfl (by decide) (fun r_3 u_4 H locs hp hw => ?_)
  obtain ⟨rfl, rfl⟩ := hp
  have hw : rc_W E A s [(h3, .inr (4, [.int 0, .ref (E.2.2 0), .int 0])), (h0, .inr (12, [.int 0, .ref h1, .ref h2, .ref h3, .ref h4, .ref h5, .int 1, .int 3, .int 50, .int (-1), .int (-1), .int (-1), .int (-1), .int 0, .int 100, .int 1000, .long 0]))] H locs := hw
  refine lv_if_ne (tgt := 27) hx hb dX7_verdict_18 (by decide) (fun _ => ?_) (fun c9 => absurd c9 (by decide))
  refine lv_iload_n hx hb dX7_verdict_27 rfl (lv_at hl 3 rfl) ?_
  refine lv_iconst (v := 0) hx hb dX7_verdict_28 (by decide) ?_
  refine lv_iconst (v := 4) hx hb dX7_verdict_29 (by decide) ?_
  refine rc_calli (wr := [(h3, .inr (4, [.int 0, .ref (E.2.2 0), .int 0])), (h0, .inr (12, [.int 0, .ref h1, .ref h2, .ref h3, .ref h4, .ref h5, .int 1, .int 3, .int 50, .int (-1), .int (-1), .int (-1), .int (-1), .int 0, .int 100, .int 1000, .long 0]))]) (va_runS (As := [.int 3, .int 0, .int 4]) (rest := []) (Ts := []) ⟨hx, hb, hml, hown, fun _ h9 => absurd h9 List.not_mem_nil⟩ (cw_X7_is_64 l E _) (rc_cwS hAm qw_921 qw_13 qw_923 qw_922 rfl rfl hd_X7_is ⟨Nat.le_of_ble_eq_true rfl, Nat.le_of_ble_eq_true rfl⟩) (rc_preS hAm hA hw [] rfl rfl) rfl rfl hl.1 rfl (lv_room (Nat.le_of_ble_eq_true rfl)) dX7_verdict_30 ⟨Nat.le_of_ble_eq_true rfl, Nat.le_of_ble_eq_true rfl⟩) hA hw [] [0, 1] rfl rfl rfl (by decide) (fun r_5 u_6 H locs hp hw => ?_)
  obtain ⟨rfl, rfl⟩ := hp
  have hw : rc_W E A s [(h3, .inr (4, [.int 0, .ref (E.2.2 0), .int 0])), (h0, .inr (12, [.int 0, .ref h1, .ref h2, .ref h3, .ref h4, .ref h5, .int 1, .int 3, .int 50, .int (-1), .int (-1), .int (-1), .int (-1), .int 0, .int 100, .int 1000, .long 0]))] H locs := hw
  refine lv_if_eq (tgt := 46) hx hb dX7_verdict_33 (by decide) (fun c9 => absurd c9 (by decide)) (fun _ => ?_)
  refine lv_aload_n hx hb dX7_verdict_36 rfl (lv_at hl 0 rfl) ?_
  refine lv_iload_n hx hb dX7_verdict_37 rfl (lv_at hl 1 rfl) ?_
  refine lv_iload_n hx hb dX7_verdict_38 rfl (lv_at hl 2 rfl) ?_
  refine lv_iload_n hx hb dX7_verdict_39 rfl (lv_at hl 3 rfl) ?_
  refine rc_calli (wr := []) (va_runV (As := [.int 0, .int 0, .int 3]) (rest := []) (Ts := []) ⟨hx, hb, hml, hown, fun _ h9 => absurd h9 List.not_mem_nil⟩ (cw_X7_verdictNow_4 l E _ h0 h1 h2 h3 h4 h5) (rc_cwV hAm qw_963 qw_13 qw_966 qw_965 qs_53 rfl rfl hd_X7_verdictNow ⟨Nat.le_of_ble_eq_true rfl, Nat.le_of_ble_eq_true rfl⟩) (rc_preV hAm hA hw [1, 0] rfl rfl 1 rfl (q := vwCl[12]) rfl) rfl rfl hl.1 rfl (lv_room (Nat.le_of_ble_eq_true rfl)) dX7_verdict_40 ⟨Nat.le_of_ble_eq_true rfl, Nat.le_of_ble_eq_true rfl⟩) hA hw [1, 0] [] rfl rfl rfl (by decide) (fun r_7 u_8 H locs hp hw => ?_)
  obtain ⟨rfl, rfl⟩ := hp
  have hw : rc_W E A s [(h0, .inr (12, [.int 0, .ref h1, .ref h2, .ref h3, .ref h4, .ref h5, .int 1, .int 3, .int 50, .int (-1), .int (-1), .int (-1), .int (-1), .int 0, .int 100, .int 1000, .long 0])), (h3, .inr (4, [.int 0, .ref (E.2.2 0), .int 0]))] H locs := hw
  refine lv_goto (tgt := 51) hx hb dX7_verdict_43 (by decide) ?_
  exact rc_iret (v := 1) hx hb hr hlocks hw [(h0, .inr (12, [.int 0, .ref h1, .ref h2, .ref h3, .ref h4, .ref h5, .int 1, .int 3, .int 50, .int (-1), .int (-1), .int (-1), .int (-1), .int 0, .int 100, .int 1000, .long 0])), (h3, .inr (4, [.int 0, .ref (E.2.2 0), .int 0]))] (⟨rfl, rfl⟩) [0, 1] rfl (by decide) (Nat.le_of_ble_eq_true rfl) (Nat.le_of_ble_eq_true rfl) dX7_verdict_51
set_option maxHeartbeats 4000000 in
set_option maxRecDepth 100000 in
theorem cw_X7_is_65 (l : Launch) (E : rc_E) (sz : Nat) : rc_Mi l yX7_is [Cond.code yX7_is cX7_is 3 (some FieldType.boolean)] { frames := 0, cells := 0, slots := 0, locals := 0 } E [.int 4, .int 0, .int 4] [] sz (S := va_W) (fun (r : Int32) (u : va_W) => (1 = r ∧ u = [])) (fun u => u) 0 0 := by
  refine rc_ini (cc := cX7_is) (maxL := 3) (ret := (some FieldType.boolean)) (by decide) rfl (Nat.le_of_ble_eq_true rfl) ?_
  intro p e s m args below meth c ls A hx hb hr hml _ hown hlocks hin hA hAm hw hl
  have hown : s.vm.findClass RX7 = some m.cls := hown
  have hl : lv_has ls 3 [(0, .int 4), (1, .int 0), (2, .int 4)] := hl
  refine lv_iload_n hx hb dX7_is_0 rfl (lv_at hl 0 rfl) ?_
  refine lv_iload_n hx hb dX7_is_1 rfl (lv_at hl 1 rfl) ?_
  refine lv_icmp_lt (tgt := 14) hx hb dX7_is_2 (by decide) (fun c9 => absurd c9 (by decide)) (fun _ => ?_)
  refine lv_iload_n hx hb dX7_is_5 rfl (lv_at hl 0 rfl) ?_
  refine lv_iload_n hx hb dX7_is_6 rfl (lv_at hl 2 rfl) ?_
  refine lv_icmp_gt (tgt := 14) hx hb dX7_is_7 (by decide) (fun c9 => absurd c9 (by decide)) (fun _ => ?_)
  refine lv_iconst (v := 1) hx hb dX7_is_10 (by decide) ?_
  refine lv_goto (tgt := 15) hx hb dX7_is_11 (by decide) ?_
  exact rc_zret (v := 1) hx hb hr hlocks hw rfl [] (⟨rfl, rfl⟩) [] rfl (by decide) (Nat.le_of_ble_eq_true rfl) (Nat.le_of_ble_eq_true rfl) dX7_is_15
set_option maxHeartbeats 4000000 in
set_option maxRecDepth 100000 in
theorem cw_X7_verdict_8 (l : Launch) (E : rc_E) (sz : Nat) (h0 : Nat) (h1 : Nat) (h2 : Nat) (h3 : Nat) (h4 : Nat) (h5 : Nat) : rc_Mi l yX7_verdict [Cond.code yX7_verdict cX7_verdict 4 (some FieldType.int)] { frames := 7, cells := 8, slots := 18, locals := 185 } E [.ref h0, .int 0, .int 0, .int 4] [(h0, .inr (12, [.int 0, .ref h1, .ref h2, .ref h3, .ref h4, .ref h5, .int 1, .int 3, .int 50, .int (-1), .int (-1), .int (-1), .int (-1), .int 0, .int 100, .int 1000, .long 0])), (h3, .inr (4, [.int 0, .ref (E.2.2 0), .int 0]))] sz (S := va_W) (fun (r : Int32) (u : va_W) => (1 = r ∧ u = [(h0, .inr (12, [.int 0, .ref h1, .ref h2, .ref h3, .ref h4, .ref h5, .int 1, .int 3, .int 50, .int (-1), .int (-1), .int (-1), .int (-1), .int 0, .int 100, .int 1000, .long 0])), (h3, .inr (4, [.int 0, .ref (E.2.2 0), .int 0]))])) (fun u => u) 8 18 := by
  refine rc_ini (cc := cX7_verdict) (maxL := 4) (ret := (some FieldType.int)) (by decide) rfl (Nat.le_of_ble_eq_true rfl) ?_
  intro p e s m args below meth c ls A hx hb hr hml _ hown hlocks hin hA hAm hw hl
  have hown : s.vm.findClass RX7 = some m.cls := hown
  have hl : lv_has ls 4 [(0, .ref h0), (1, .int 0), (2, .int 0), (3, .int 4)] := hl
  refine lv_aload_n hx hb dX7_verdict_0 rfl (lv_at hl 0 rfl) ?_
  refine lv_iconst (v := 0) hx hb dX7_verdict_1 (by decide) ?_
  refine rc_put hx hb hown hAm hw lyX7 tyX7 tyX7_ok nmX7 0 rfl rfl 0 (by decide) qw_860 (fun _ h9 => h9) rfl rfl (by decide +kernel) (Nat.le_of_ble_eq_true rfl) [(h0, .inr (12, [.int 0, .ref h1, .ref h2, .ref h3, .ref h4, .ref h5, .int 1, .int 3, .int 50, .int (-1), .int (-1), .int (-1), .int (-1), .int 0, .int 100, .int 1000, .long 0])), (h3, .inr (4, [.int 0, .ref (E.2.2 0), .int 0]))] rfl dX7_verdict_2 (fun H locs hw => ?_)
  refine lv_aload_n hx hb dX7_verdict_5 rfl (lv_at hl 0 rfl) ?_
  refine lv_iload_n hx hb dX7_verdict_6 rfl (lv_at hl 1 rfl) ?_
  refine rc_calli (wr := [(h3, .inr (4, [.int 0, .ref (E.2.2 0), .int 0]))]) (va_runV (As := [.int 0]) (rest := []) (Ts := []) ⟨hx, hb, hml, hown, fun _ h9 => absurd h9 List.not_mem_nil⟩ (cw_X7_isChange_2 l E _ h0 h1 h2 h3 h4 h5) (rc_cwV hAm qw_1353 qw_13 qw_1356 qw_1355 qs_62 rfl rfl hd_X7_isChange ⟨Nat.le_of_ble_eq_true rfl, Nat.le_of_ble_eq_true rfl⟩) (rc_preV hAm hA hw [0] rfl rfl 0 rfl (q := vwCl[12]) rfl) rfl rfl hl.1 rfl (lv_room (Nat.le_of_ble_eq_true rfl)) dX7_verdict_7 ⟨Nat.le_of_ble_eq_true rfl, Nat.le_of_ble_eq_true rfl⟩) hA hw [0] [1] rfl rfl rfl (by decide) (fun r_1 u_2 H locs hp hw => ?_)
  obtain ⟨rfl, rfl⟩ := hp
  have hw : rc_W E A s [(h3, .inr (4, [.int 0, .ref (E.2.2 0), .int 0])), (h0, .inr (12, [.int 0, .ref h1, .ref h2, .ref h3, .ref h4, .ref h5, .int 1, .int 3, .int 50, .int (-1), .int (-1), .int (-1), .int (-1), .int 0, .int 100, .int 1000, .long 0]))] H locs := hw
  refine lv_if_eq (tgt := 21) hx hb dX7_verdict_10 (by decide) (fun c9 => absurd c9 (by decide)) (fun _ => ?_)
  refine lv_aload_n hx hb dX7_verdict_13 rfl (lv_at hl 0 rfl) ?_
  refine lv_iload_n hx hb dX7_verdict_14 rfl (lv_at hl 2 rfl) ?_
  refine rc_calli (wr := [(h3, .inr (4, [.int 0, .ref (E.2.2 0), .int 0]))]) (va_runV (As := [.int 0]) (rest := []) (Ts := []) ⟨hx, hb, hml, hown, fun _ h9 => absurd h9 List.not_mem_nil⟩ (cw_X7_isChange_2 l E _ h0 h1 h2 h3 h4 h5) (rc_cwV hAm qw_1353 qw_13 qw_1356 qw_1355 qs_62 rfl rfl hd_X7_isChange ⟨Nat.le_of_ble_eq_true rfl, Nat.le_of_ble_eq_true rfl⟩) (rc_preV hAm hA hw [1] rfl rfl 1 rfl (q := vwCl[12]) rfl) rfl rfl hl.1 rfl (lv_room (Nat.le_of_ble_eq_true rfl)) dX7_verdict_15 ⟨Nat.le_of_ble_eq_true rfl, Nat.le_of_ble_eq_true rfl⟩) hA hw [1] [0] rfl rfl rfl (by decide) (fun r_3 u_4 H locs hp hw => ?_)
  obtain ⟨rfl, rfl⟩ := hp
  have hw : rc_W E A s [(h3, .inr (4, [.int 0, .ref (E.2.2 0), .int 0])), (h0, .inr (12, [.int 0, .ref h1, .ref h2, .ref h3, .ref h4, .ref h5, .int 1, .int 3, .int 50, .int (-1), .int (-1), .int (-1), .int (-1), .int 0, .int 100, .int 1000, .long 0]))] H locs := hw
  refine lv_if_ne (tgt := 27) hx hb dX7_verdict_18 (by decide) (fun _ => ?_) (fun c9 => absurd c9 (by decide))
  refine lv_iload_n hx hb dX7_verdict_27 rfl (lv_at hl 3 rfl) ?_
  refine lv_iconst (v := 0) hx hb dX7_verdict_28 (by decide) ?_
  refine lv_iconst (v := 4) hx hb dX7_verdict_29 (by decide) ?_
  refine rc_calli (wr := [(h3, .inr (4, [.int 0, .ref (E.2.2 0), .int 0])), (h0, .inr (12, [.int 0, .ref h1, .ref h2, .ref h3, .ref h4, .ref h5, .int 1, .int 3, .int 50, .int (-1), .int (-1), .int (-1), .int (-1), .int 0, .int 100, .int 1000, .long 0]))]) (va_runS (As := [.int 4, .int 0, .int 4]) (rest := []) (Ts := []) ⟨hx, hb, hml, hown, fun _ h9 => absurd h9 List.not_mem_nil⟩ (cw_X7_is_65 l E _) (rc_cwS hAm qw_921 qw_13 qw_923 qw_922 rfl rfl hd_X7_is ⟨Nat.le_of_ble_eq_true rfl, Nat.le_of_ble_eq_true rfl⟩) (rc_preS hAm hA hw [] rfl rfl) rfl rfl hl.1 rfl (lv_room (Nat.le_of_ble_eq_true rfl)) dX7_verdict_30 ⟨Nat.le_of_ble_eq_true rfl, Nat.le_of_ble_eq_true rfl⟩) hA hw [] [0, 1] rfl rfl rfl (by decide) (fun r_5 u_6 H locs hp hw => ?_)
  obtain ⟨rfl, rfl⟩ := hp
  have hw : rc_W E A s [(h3, .inr (4, [.int 0, .ref (E.2.2 0), .int 0])), (h0, .inr (12, [.int 0, .ref h1, .ref h2, .ref h3, .ref h4, .ref h5, .int 1, .int 3, .int 50, .int (-1), .int (-1), .int (-1), .int (-1), .int 0, .int 100, .int 1000, .long 0]))] H locs := hw
  refine lv_if_eq (tgt := 46) hx hb dX7_verdict_33 (by decide) (fun c9 => absurd c9 (by decide)) (fun _ => ?_)
  refine lv_aload_n hx hb dX7_verdict_36 rfl (lv_at hl 0 rfl) ?_
  refine lv_iload_n hx hb dX7_verdict_37 rfl (lv_at hl 1 rfl) ?_
  refine lv_iload_n hx hb dX7_verdict_38 rfl (lv_at hl 2 rfl) ?_
  refine lv_iload_n hx hb dX7_verdict_39 rfl (lv_at hl 3 rfl) ?_
  refine rc_calli (wr := []) (va_runV (As := [.int 0, .int 0, .int 4]) (rest := []) (Ts := []) ⟨hx, hb, hml, hown, fun _ h9 => absurd h9 List.not_mem_nil⟩ (cw_X7_verdictNow_5 l E _ h0 h1 h2 h3 h4 h5) (rc_cwV hAm qw_963 qw_13 qw_966 qw_965 qs_53 rfl rfl hd_X7_verdictNow ⟨Nat.le_of_ble_eq_true rfl, Nat.le_of_ble_eq_true rfl⟩) (rc_preV hAm hA hw [1, 0] rfl rfl 1 rfl (q := vwCl[12]) rfl) rfl rfl hl.1 rfl (lv_room (Nat.le_of_ble_eq_true rfl)) dX7_verdict_40 ⟨Nat.le_of_ble_eq_true rfl, Nat.le_of_ble_eq_true rfl⟩) hA hw [1, 0] [] rfl rfl rfl (by decide) (fun r_7 u_8 H locs hp hw => ?_)
  obtain ⟨rfl, rfl⟩ := hp
  have hw : rc_W E A s [(h0, .inr (12, [.int 0, .ref h1, .ref h2, .ref h3, .ref h4, .ref h5, .int 1, .int 3, .int 50, .int (-1), .int (-1), .int (-1), .int (-1), .int 0, .int 100, .int 1000, .long 0])), (h3, .inr (4, [.int 0, .ref (E.2.2 0), .int 0]))] H locs := hw
  refine lv_goto (tgt := 51) hx hb dX7_verdict_43 (by decide) ?_
  exact rc_iret (v := 1) hx hb hr hlocks hw [(h0, .inr (12, [.int 0, .ref h1, .ref h2, .ref h3, .ref h4, .ref h5, .int 1, .int 3, .int 50, .int (-1), .int (-1), .int (-1), .int (-1), .int 0, .int 100, .int 1000, .long 0])), (h3, .inr (4, [.int 0, .ref (E.2.2 0), .int 0]))] (⟨rfl, rfl⟩) [0, 1] rfl (by decide) (Nat.le_of_ble_eq_true rfl) (Nat.le_of_ble_eq_true rfl) dX7_verdict_51
theorem hd_L_doubt : yL_doubt.cls ≠ "java/lang/invoke/MethodHandle" ∧ yL_doubt.cls ≠ "java/lang/invoke/VarHandle" ∧ (parseMethodDescriptor yL_doubt.desc).map (fun d => d.parameters.length) = some 4 := by decide +kernel
theorem hd_X7_doubt : yX7_doubt.cls ≠ "java/lang/invoke/MethodHandle" ∧ yX7_doubt.cls ≠ "java/lang/invoke/VarHandle" ∧ (parseMethodDescriptor yX7_doubt.desc).map (fun d => d.parameters.length) = some 2 := by decide +kernel
set_option maxHeartbeats 4000000 in
set_option maxRecDepth 100000 in
theorem cw_X7_doubt_2 (l : Launch) (E : rc_E) (sz : Nat) (h0 : Nat) (x0 : Int32) (h1 : Nat) (h2 : Nat) (h3 : Nat) (h4 : Nat) (h5 : Nat) : rc_Md l yX7_doubt [Cond.code yX7_doubt cX7_doubt 4 (some FieldType.double)] { frames := 6, cells := 8, slots := 18, locals := 162 } E [.ref h0, .int 0, .int x0] [(h0, .inr (12, [.int 0, .ref h1, .ref h2, .ref h3, .ref h4, .ref h5, .int 1, .int 3, .int 50, .int (-1), .int (-1), .int (-1), .int (-1), .int 0, .int 100, .int 1000, .long 0])), (h3, .inr (4, [.int 0, .ref (E.2.2 0), .int 0]))] sz (S := va_W) (fun (r : UInt64) (u : va_W) => (x0 < 0 ∧ FP.dconst0 = r ∧ u = [(h0, .inr (12, [.int 1, .ref h1, .ref h2, .ref h3, .ref h4, .ref h5, .int 1, .int 3, .int 50, .int (-1), .int (-1), .int (-1), .int (-1), .int 0, .int 100, .int 1000, .long 0])), (h3, .inr (4, [.int 0, .ref (E.2.2 0), .int 0]))]) ∨ (¬ x0 < 0 ∧ 0 < x0 ∧ FP.dconst0 = r ∧ u = [(h0, .inr (12, [.int 1, .ref h1, .ref h2, .ref h3, .ref h4, .ref h5, .int 1, .int 3, .int 50, .int (-1), .int (-1), .int (-1), .int (-1), .int 0, .int 100, .int 1000, .long 0])), (h3, .inr (4, [.int 0, .ref (E.2.2 0), .int 0]))]) ∨ (x0 = 0 ∧ FP.ddiv (FP.i2d 1) (FP.i2d 1) = r ∧ u = [(h0, .inr (12, [.int 0, .ref h1, .ref h2, .ref h3, .ref h4, .ref h5, .int 1, .int 3, .int 50, .int (-1), .int (-1), .int (-1), .int (-1), .int 0, .int 100, .int 1000, .long 0])), (h3, .inr (4, [.int 0, .ref (E.2.2 0), .int 0]))])) (fun u => u) 8 18 := by
  refine rc_ind (cc := cX7_doubt) (maxL := 4) (ret := (some FieldType.double)) (by decide) rfl (Nat.le_of_ble_eq_true rfl) ?_
  intro p e s m args below meth c ls A hx hb hr hml _ hown hlocks hin hA hAm hw hl
  have hown : s.vm.findClass RX7 = some m.cls := hown
  have hl : lv_has ls 4 [(0, .ref h0), (1, .int 0), (2, .int x0)] := hl
  refine lv_aload_n hx hb dX7_doubt_0 rfl (lv_at hl 0 rfl) ?_
  refine lv_aload_n hx hb dX7_doubt_1 rfl (lv_at hl 0 rfl) ?_
  refine lv_iload_n hx hb dX7_doubt_2 rfl (lv_at hl 1 rfl) ?_
  refine rc_calli (wr := [(h3, .inr (4, [.int 0, .ref (E.2.2 0), .int 0]))]) (va_runV (As := [.int 0]) (rest := [.ref h0]) (Ts := []) ⟨hx, hb, hml, hown, fun _ h9 => absurd h9 List.not_mem_nil⟩ (cw_X7_isChange_2 l E _ h0 h1 h2 h3 h4 h5) (rc_cwV hAm qw_1353 qw_13 qw_1356 qw_1355 qs_62 rfl rfl hd_X7_isChange ⟨Nat.le_of_ble_eq_true rfl, Nat.le_of_ble_eq_true rfl⟩) (rc_preV hAm hA hw [0] rfl rfl 0 rfl (q := vwCl[12]) rfl) rfl rfl hl.1 rfl (lv_room (Nat.le_of_ble_eq_true rfl)) dX7_doubt_3 ⟨Nat.le_of_ble_eq_true rfl, Nat.le_of_ble_eq_true rfl⟩) hA hw [0] [1] rfl rfl rfl (by decide) (fun r_1 u_2 H locs hp hw => ?_)
  obtain ⟨rfl, rfl⟩ := hp
  have hw : rc_W E A s [(h3, .inr (4, [.int 0, .ref (E.2.2 0), .int 0])), (h0, .inr (12, [.int 0, .ref h1, .ref h2, .ref h3, .ref h4, .ref h5, .int 1, .int 3, .int 50, .int (-1), .int (-1), .int (-1), .int (-1), .int 0, .int 100, .int 1000, .long 0]))] H locs := hw
  refine lv_if_eq (tgt := 21) hx hb dX7_doubt_6 (by decide) (fun c9 => absurd c9 (by decide)) (fun _ => ?_)
  refine lv_aload_n hx hb dX7_doubt_9 rfl (lv_at hl 0 rfl) ?_
  refine lv_iload_n hx hb dX7_doubt_10 rfl (lv_at hl 2 rfl) ?_
  refine rc_calli (wr := [(h3, .inr (4, [.int 0, .ref (E.2.2 0), .int 0]))]) (va_runV (As := [.int x0]) (rest := [.ref h0]) (Ts := []) ⟨hx, hb, hml, hown, fun _ h9 => absurd h9 List.not_mem_nil⟩ (cw_X7_isChange l E _ h0 x0 h1 h2 h3 h4 h5) (rc_cwV hAm qw_1353 qw_13 qw_1356 qw_1355 qs_62 rfl rfl hd_X7_isChange ⟨Nat.le_of_ble_eq_true rfl, Nat.le_of_ble_eq_true rfl⟩) (rc_preV hAm hA hw [1] rfl rfl 1 rfl (q := vwCl[12]) rfl) rfl rfl hl.1 rfl (lv_room (Nat.le_of_ble_eq_true rfl)) dX7_doubt_11 ⟨Nat.le_of_ble_eq_true rfl, Nat.le_of_ble_eq_true rfl⟩) hA hw [1] [0] rfl rfl rfl (by decide) (fun r_3 u_4 H locs hp hw => ?_)
  rcases hp with ⟨c_5, rfl, rfl⟩ | ⟨c_6, c_7, rfl, rfl⟩ | ⟨c_8, rfl, rfl⟩
  · have hw : rc_W E A s [(h3, .inr (4, [.int 0, .ref (E.2.2 0), .int 0])), (h0, .inr (12, [.int 0, .ref h1, .ref h2, .ref h3, .ref h4, .ref h5, .int 1, .int 3, .int 50, .int (-1), .int (-1), .int (-1), .int (-1), .int 0, .int 100, .int 1000, .long 0]))] H locs := hw
    refine lv_if_eq (tgt := 21) hx hb dX7_doubt_14 (by decide) (fun _ => ?_) (fun c9 => absurd (by decide) c9)
    refine lv_iconst (v := 1) hx hb dX7_doubt_21 (by decide) ?_
    refine rc_put hx hb hown hAm hw lyX7 tyX7 tyX7_ok nmX7 1 rfl rfl 0 (by decide) qw_860 (fun _ h9 => h9) rfl rfl (by decide +kernel) (Nat.le_of_ble_eq_true rfl) [(h3, .inr (4, [.int 0, .ref (E.2.2 0), .int 0])), (h0, .inr (12, [.int 1, .ref h1, .ref h2, .ref h3, .ref h4, .ref h5, .int 1, .int 3, .int 50, .int (-1), .int (-1), .int (-1), .int (-1), .int 0, .int 100, .int 1000, .long 0]))] rfl dX7_doubt_22 (fun H locs hw => ?_)
    refine lv_aload_n hx hb dX7_doubt_25 rfl (lv_at hl 0 rfl) ?_
    refine rc_get (v := .int 1) hx hb hown hAm hw lyX7 1 rfl rfl 0 (by decide) qw_860 (fun _ h9 => h9) rfl dX7_doubt_26 ?_
    refine lv_if_le (tgt := 34) hx hb dX7_doubt_29 (by decide) (fun c9 => absurd c9 (by decide)) (fun _ => ?_)
    refine lv_dconst0 hx hb dX7_doubt_32 ?_
    exact rc_dret (v := FP.dconst0) hx hb hr hlocks hw [(h0, .inr (12, [.int 1, .ref h1, .ref h2, .ref h3, .ref h4, .ref h5, .int 1, .int 3, .int 50, .int (-1), .int (-1), .int (-1), .int (-1), .int 0, .int 100, .int 1000, .long 0])), (h3, .inr (4, [.int 0, .ref (E.2.2 0), .int 0]))] (Or.inl ⟨c_5, rfl, rfl⟩) [1, 0] rfl (by decide) (Nat.le_of_ble_eq_true rfl) (Nat.le_of_ble_eq_true rfl) dX7_doubt_33
  · have hw : rc_W E A s [(h3, .inr (4, [.int 0, .ref (E.2.2 0), .int 0])), (h0, .inr (12, [.int 0, .ref h1, .ref h2, .ref h3, .ref h4, .ref h5, .int 1, .int 3, .int 50, .int (-1), .int (-1), .int (-1), .int (-1), .int 0, .int 100, .int 1000, .long 0]))] H locs := hw
    refine lv_if_eq (tgt := 21) hx hb dX7_doubt_14 (by decide) (fun _ => ?_) (fun c9 => absurd (by decide) c9)
    refine lv_iconst (v := 1) hx hb dX7_doubt_21 (by decide) ?_
    refine rc_put hx hb hown hAm hw lyX7 tyX7 tyX7_ok nmX7 1 rfl rfl 0 (by decide) qw_860 (fun _ h9 => h9) rfl rfl (by decide +kernel) (Nat.le_of_ble_eq_true rfl) [(h3, .inr (4, [.int 0, .ref (E.2.2 0), .int 0])), (h0, .inr (12, [.int 1, .ref h1, .ref h2, .ref h3, .ref h4, .ref h5, .int 1, .int 3, .int 50, .int (-1), .int (-1), .int (-1), .int (-1), .int 0, .int 100, .int 1000, .long 0]))] rfl dX7_doubt_22 (fun H locs hw => ?_)
    refine lv_aload_n hx hb dX7_doubt_25 rfl (lv_at hl 0 rfl) ?_
    refine rc_get (v := .int 1) hx hb hown hAm hw lyX7 1 rfl rfl 0 (by decide) qw_860 (fun _ h9 => h9) rfl dX7_doubt_26 ?_
    refine lv_if_le (tgt := 34) hx hb dX7_doubt_29 (by decide) (fun c9 => absurd c9 (by decide)) (fun _ => ?_)
    refine lv_dconst0 hx hb dX7_doubt_32 ?_
    exact rc_dret (v := FP.dconst0) hx hb hr hlocks hw [(h0, .inr (12, [.int 1, .ref h1, .ref h2, .ref h3, .ref h4, .ref h5, .int 1, .int 3, .int 50, .int (-1), .int (-1), .int (-1), .int (-1), .int 0, .int 100, .int 1000, .long 0])), (h3, .inr (4, [.int 0, .ref (E.2.2 0), .int 0]))] (Or.inr (Or.inl ⟨c_6, c_7, rfl, rfl⟩)) [1, 0] rfl (by decide) (Nat.le_of_ble_eq_true rfl) (Nat.le_of_ble_eq_true rfl) dX7_doubt_33
  · obtain rfl : x0 = 0 := rc_eqc (b := 0) rfl (by have g_c_8 := rc_g5 (b := 0) c_8 rfl; omega)
    have hw : rc_W E A s [(h3, .inr (4, [.int 0, .ref (E.2.2 0), .int 0])), (h0, .inr (12, [.int 0, .ref h1, .ref h2, .ref h3, .ref h4, .ref h5, .int 1, .int 3, .int 50, .int (-1), .int (-1), .int (-1), .int (-1), .int 0, .int 100, .int 1000, .long 0]))] H locs := hw
    refine lv_if_eq (tgt := 21) hx hb dX7_doubt_14 (by decide) (fun c9 => absurd c9 (by decide)) (fun _ => ?_)
    refine lv_iconst (v := 0) hx hb dX7_doubt_17 (by decide) ?_
    refine lv_goto (tgt := 22) hx hb dX7_doubt_18 (by decide) ?_
    refine rc_put hx hb hown hAm hw lyX7 tyX7 tyX7_ok nmX7 1 rfl rfl 0 (by decide) qw_860 (fun _ h9 => h9) rfl rfl (by decide +kernel) (Nat.le_of_ble_eq_true rfl) [(h3, .inr (4, [.int 0, .ref (E.2.2 0), .int 0])), (h0, .inr (12, [.int 0, .ref h1, .ref h2, .ref h3, .ref h4, .ref h5, .int 1, .int 3, .int 50, .int (-1), .int (-1), .int (-1), .int (-1), .int 0, .int 100, .int 1000, .long 0]))] rfl dX7_doubt_22 (fun H locs hw => ?_)
    refine lv_aload_n hx hb dX7_doubt_25 rfl (lv_at hl 0 rfl) ?_
    refine rc_get (v := .int 0) hx hb hown hAm hw lyX7 1 rfl rfl 0 (by decide) qw_860 (fun _ h9 => h9) rfl dX7_doubt_26 ?_
    refine lv_if_le (tgt := 34) hx hb dX7_doubt_29 (by decide) (fun _ => ?_) (fun c9 => absurd (by decide) c9)
    refine lv_aload_n hx hb dX7_doubt_34 rfl (lv_at hl 0 rfl) ?_
    refine lv_iload_n hx hb dX7_doubt_35 rfl (lv_at hl 1 rfl) ?_
    refine rc_callr (wr := []) (va_runV (As := [.int 0]) (rest := []) (Ts := []) ⟨hx, hb, hml, hown, fun _ h9 => absurd h9 List.not_mem_nil⟩ (cw_X7_sample_ l E _ h0 h1 h2 h3 h4 h5) (rc_cwV hAm qw_967 qw_13 qw_970 qw_969 qs_54 rfl rfl hd_X7_sample_ ⟨Nat.le_of_ble_eq_true rfl, Nat.le_of_ble_eq_true rfl⟩) (rc_preV hAm hA hw [1, 0] rfl rfl 1 rfl (q := vwCl[12]) rfl) rfl rfl hl.1 rfl (lv_room (Nat.le_of_ble_eq_true rfl)) dX7_doubt_36 ⟨Nat.le_of_ble_eq_true rfl, Nat.le_of_ble_eq_true rfl⟩) hA hw [1, 0] [] rfl rfl rfl (by decide) (fun u_10 r_9 H locs hp hw => ?_)
    obtain ⟨q1, rfl, rfl⟩ := hp
    have hw : rc_W E A s [(h0, .inr (12, [.int 0, .ref h1, .ref h2, .ref h3, .ref h4, .ref h5, .int 1, .int 3, .int 50, .int (-1), .int (-1), .int (-1), .int (-1), .int 0, .int 100, .int 1000, .long 0])), (h3, .inr (4, [.int 0, .ref (E.2.2 0), .int 0])), (q1, .inl (E.2.1 0, 0, .inl (va_cpy (fun _ => 0) (fun _ => 0) 6 0 0)))] H locs := hw
    refine lv_aload_n hx hb dX7_doubt_39 rfl (lv_at hl 0 rfl) ?_
    refine lv_iload_n hx hb dX7_doubt_40 rfl (lv_at hl 2 rfl) ?_
    refine rc_callr (wr := [(q1, .inl (E.2.1 0, 0, .inl (va_cpy (fun _ => 0) (fun _ => 0) 6 0 0)))]) (va_runV (As := [.int 0]) (rest := [.ref q1]) (Ts := []) ⟨hx, hb, hml, hown, fun _ h9 => absurd h9 List.not_mem_nil⟩ (cw_X7_sample_ l E _ h0 h1 h2 h3 h4 h5) (rc_cwV hAm qw_967 qw_13 qw_970 qw_969 qs_54 rfl rfl hd_X7_sample_ ⟨Nat.le_of_ble_eq_true rfl, Nat.le_of_ble_eq_true rfl⟩) (rc_preV hAm hA hw [0, 1] rfl rfl 0 rfl (q := vwCl[12]) rfl) rfl rfl hl.1 rfl (lv_room (Nat.le_of_ble_eq_true rfl)) dX7_doubt_41 ⟨Nat.le_of_ble_eq_true rfl, Nat.le_of_ble_eq_true rfl⟩) hA hw [0, 1] [2] rfl rfl rfl (by decide) (fun u_12 r_11 H locs hp hw => ?_)
    obtain ⟨q2, rfl, rfl⟩ := hp
    have hw : rc_W E A s [(q1, .inl (E.2.1 0, 0, .inl (va_cpy (fun _ => 0) (fun _ => 0) 6 0 0))), (h0, .inr (12, [.int 0, .ref h1, .ref h2, .ref h3, .ref h4, .ref h5, .int 1, .int 3, .int 50, .int (-1), .int (-1), .int (-1), .int (-1), .int 0, .int 100, .int 1000, .long 0])), (h3, .inr (4, [.int 0, .ref (E.2.2 0), .int 0])), (q2, .inl (E.2.1 0, 0, .inl (va_cpy (fun _ => 0) (fun _ => 0) 6 0 0)))] H locs := hw
    refine rc_callr (wr := [(h0, .inr (12, [.int 0, .ref h1, .ref h2, .ref h3, .ref h4, .ref h5, .int 1, .int 3, .int 50, .int (-1), .int (-1), .int (-1), .int (-1), .int 0, .int 100, .int 1000, .long 0])), (h3, .inr (4, [.int 0, .ref (E.2.2 0), .int 0]))]) (va_runS (As := [.ref q1, .ref q2]) (rest := []) (Ts := []) ⟨hx, hb, hml, hown, fun _ h9 => absurd h9 List.not_mem_nil⟩ (cw_X7_reckoned l E _ q1 q2 (va_cpy (fun _ => 0) (fun _ => 0) 6 0 0)) (rc_cwS hAm qw_1231 qw_13 qw_1233 qw_1232 rfl rfl hd_X7_reckoned ⟨Nat.le_of_ble_eq_true rfl, Nat.le_of_ble_eq_true rfl⟩) (rc_preS hAm hA hw [0, 3] rfl rfl) rfl rfl hl.1 rfl (lv_room (Nat.le_of_ble_eq_true rfl)) dX7_doubt_44 ⟨Nat.le_of_ble_eq_true rfl, Nat.le_of_ble_eq_true rfl⟩) hA hw [0, 3] [1, 2] rfl rfl rfl (by decide) (fun u_14 r_13 H locs hp hw => ?_)
    obtain ⟨q3, rfl, rfl⟩ := hp
    have hw : rc_W E A s [(h0, .inr (12, [.int 0, .ref h1, .ref h2, .ref h3, .ref h4, .ref h5, .int 1, .int 3, .int 50, .int (-1), .int (-1), .int (-1), .int (-1), .int 0, .int 100, .int 1000, .long 0])), (h3, .inr (4, [.int 0, .ref (E.2.2 0), .int 0])), (q1, .inl (E.2.1 0, 0, .inl (va_cpy (fun _ => 0) (fun _ => 0) 6 0 0))), (q2, .inl (E.2.1 0, 0, .inl (va_cpy (fun _ => 0) (fun _ => 0) 6 0 0))), (q3, .inl (E.2.1 0, 4, .inl (upd (upd (upd (upd (upd (upd (upd (fun _ => 0) 0 0) 1 0) 2 0) 3 0) 1 1) 2 1) 3 1)))] H locs := hw
    refine lv_astore_n (lv' := [(3, .ref q3), (0, .ref h0), (1, .int 0), (2, .int 0)]) hx hb dX7_doubt_47 rfl hl (by decide) rfl (fun ls hl => ?_)
    refine lv_aload_n hx hb dX7_doubt_48 rfl (lv_at hl 0 rfl) ?_
    refine lv_iconst (v := 1) hx hb dX7_doubt_49 (by decide) ?_
    refine rc_iald hx hb hAm hw 4 rfl (vp_in_iff.mpr (by decide)) dX7_doubt_50 ?_
    refine rc_topi 1 rfl ?_
    refine lv_i2d hx hb dX7_doubt_51 ?_
    refine lv_aload_n hx hb dX7_doubt_52 rfl (lv_at hl 0 rfl) ?_
    refine lv_iconst (v := 3) hx hb dX7_doubt_53 (by decide) ?_
    refine rc_iald hx hb hAm hw 4 rfl (vp_in_iff.mpr (by decide)) dX7_doubt_54 ?_
    refine rc_topi 1 rfl ?_
    refine lv_i2d hx hb dX7_doubt_55 ?_
    refine lv_ddiv hx hb dX7_doubt_56 (by unfold vf_n64; decide +kernel) ?_
    exact rc_dret (v := FP.ddiv (FP.i2d 1) (FP.i2d 1)) hx hb hr hlocks hw [(h0, .inr (12, [.int 0, .ref h1, .ref h2, .ref h3, .ref h4, .ref h5, .int 1, .int 3, .int 50, .int (-1), .int (-1), .int (-1), .int (-1), .int 0, .int 100, .int 1000, .long 0])), (h3, .inr (4, [.int 0, .ref (E.2.2 0), .int 0]))] (Or.inr (Or.inr ⟨rfl, rfl, rfl⟩)) [0, 1] rfl (by decide) (Nat.le_of_ble_eq_true rfl) (Nat.le_of_ble_eq_true rfl) dX7_doubt_57
set_option maxHeartbeats 4000000 in
set_option maxRecDepth 100000 in
theorem cw_X7_doubt_3 (l : Launch) (E : rc_E) (sz : Nat) (h0 : Nat) (h1 : Nat) (h2 : Nat) (h3 : Nat) (h4 : Nat) (h5 : Nat) : rc_Md l yX7_doubt [Cond.code yX7_doubt cX7_doubt 4 (some FieldType.double)] { frames := 6, cells := 8, slots := 18, locals := 162 } E [.ref h0, .int 0, .int 0] [(h0, .inr (12, [.int 0, .ref h1, .ref h2, .ref h3, .ref h4, .ref h5, .int 1, .int 3, .int 50, .int (-1), .int (-1), .int (-1), .int (-1), .int 0, .int 100, .int 1000, .long 0])), (h3, .inr (4, [.int 0, .ref (E.2.2 0), .int 0]))] sz (S := va_W) (fun (r : UInt64) (u : va_W) => (FP.ddiv (FP.i2d 1) (FP.i2d 1) = r ∧ u = [(h0, .inr (12, [.int 0, .ref h1, .ref h2, .ref h3, .ref h4, .ref h5, .int 1, .int 3, .int 50, .int (-1), .int (-1), .int (-1), .int (-1), .int 0, .int 100, .int 1000, .long 0])), (h3, .inr (4, [.int 0, .ref (E.2.2 0), .int 0]))])) (fun u => u) 8 18 := by
  refine rc_ind (cc := cX7_doubt) (maxL := 4) (ret := (some FieldType.double)) (by decide) rfl (Nat.le_of_ble_eq_true rfl) ?_
  intro p e s m args below meth c ls A hx hb hr hml _ hown hlocks hin hA hAm hw hl
  have hown : s.vm.findClass RX7 = some m.cls := hown
  have hl : lv_has ls 4 [(0, .ref h0), (1, .int 0), (2, .int 0)] := hl
  refine lv_aload_n hx hb dX7_doubt_0 rfl (lv_at hl 0 rfl) ?_
  refine lv_aload_n hx hb dX7_doubt_1 rfl (lv_at hl 0 rfl) ?_
  refine lv_iload_n hx hb dX7_doubt_2 rfl (lv_at hl 1 rfl) ?_
  refine rc_calli (wr := [(h3, .inr (4, [.int 0, .ref (E.2.2 0), .int 0]))]) (va_runV (As := [.int 0]) (rest := [.ref h0]) (Ts := []) ⟨hx, hb, hml, hown, fun _ h9 => absurd h9 List.not_mem_nil⟩ (cw_X7_isChange_2 l E _ h0 h1 h2 h3 h4 h5) (rc_cwV hAm qw_1353 qw_13 qw_1356 qw_1355 qs_62 rfl rfl hd_X7_isChange ⟨Nat.le_of_ble_eq_true rfl, Nat.le_of_ble_eq_true rfl⟩) (rc_preV hAm hA hw [0] rfl rfl 0 rfl (q := vwCl[12]) rfl) rfl rfl hl.1 rfl (lv_room (Nat.le_of_ble_eq_true rfl)) dX7_doubt_3 ⟨Nat.le_of_ble_eq_true rfl, Nat.le_of_ble_eq_true rfl⟩) hA hw [0] [1] rfl rfl rfl (by decide) (fun r_1 u_2 H locs hp hw => ?_)
  obtain ⟨rfl, rfl⟩ := hp
  have hw : rc_W E A s [(h3, .inr (4, [.int 0, .ref (E.2.2 0), .int 0])), (h0, .inr (12, [.int 0, .ref h1, .ref h2, .ref h3, .ref h4, .ref h5, .int 1, .int 3, .int 50, .int (-1), .int (-1), .int (-1), .int (-1), .int 0, .int 100, .int 1000, .long 0]))] H locs := hw
  refine lv_if_eq (tgt := 21) hx hb dX7_doubt_6 (by decide) (fun c9 => absurd c9 (by decide)) (fun _ => ?_)
  refine lv_aload_n hx hb dX7_doubt_9 rfl (lv_at hl 0 rfl) ?_
  refine lv_iload_n hx hb dX7_doubt_10 rfl (lv_at hl 2 rfl) ?_
  refine rc_calli (wr := [(h3, .inr (4, [.int 0, .ref (E.2.2 0), .int 0]))]) (va_runV (As := [.int 0]) (rest := [.ref h0]) (Ts := []) ⟨hx, hb, hml, hown, fun _ h9 => absurd h9 List.not_mem_nil⟩ (cw_X7_isChange_2 l E _ h0 h1 h2 h3 h4 h5) (rc_cwV hAm qw_1353 qw_13 qw_1356 qw_1355 qs_62 rfl rfl hd_X7_isChange ⟨Nat.le_of_ble_eq_true rfl, Nat.le_of_ble_eq_true rfl⟩) (rc_preV hAm hA hw [1] rfl rfl 1 rfl (q := vwCl[12]) rfl) rfl rfl hl.1 rfl (lv_room (Nat.le_of_ble_eq_true rfl)) dX7_doubt_11 ⟨Nat.le_of_ble_eq_true rfl, Nat.le_of_ble_eq_true rfl⟩) hA hw [1] [0] rfl rfl rfl (by decide) (fun r_3 u_4 H locs hp hw => ?_)
  obtain ⟨rfl, rfl⟩ := hp
  have hw : rc_W E A s [(h3, .inr (4, [.int 0, .ref (E.2.2 0), .int 0])), (h0, .inr (12, [.int 0, .ref h1, .ref h2, .ref h3, .ref h4, .ref h5, .int 1, .int 3, .int 50, .int (-1), .int (-1), .int (-1), .int (-1), .int 0, .int 100, .int 1000, .long 0]))] H locs := hw
  refine lv_if_eq (tgt := 21) hx hb dX7_doubt_14 (by decide) (fun c9 => absurd c9 (by decide)) (fun _ => ?_)
  refine lv_iconst (v := 0) hx hb dX7_doubt_17 (by decide) ?_
  refine lv_goto (tgt := 22) hx hb dX7_doubt_18 (by decide) ?_
  refine rc_put hx hb hown hAm hw lyX7 tyX7 tyX7_ok nmX7 1 rfl rfl 0 (by decide) qw_860 (fun _ h9 => h9) rfl rfl (by decide +kernel) (Nat.le_of_ble_eq_true rfl) [(h3, .inr (4, [.int 0, .ref (E.2.2 0), .int 0])), (h0, .inr (12, [.int 0, .ref h1, .ref h2, .ref h3, .ref h4, .ref h5, .int 1, .int 3, .int 50, .int (-1), .int (-1), .int (-1), .int (-1), .int 0, .int 100, .int 1000, .long 0]))] rfl dX7_doubt_22 (fun H locs hw => ?_)
  refine lv_aload_n hx hb dX7_doubt_25 rfl (lv_at hl 0 rfl) ?_
  refine rc_get (v := .int 0) hx hb hown hAm hw lyX7 1 rfl rfl 0 (by decide) qw_860 (fun _ h9 => h9) rfl dX7_doubt_26 ?_
  refine lv_if_le (tgt := 34) hx hb dX7_doubt_29 (by decide) (fun _ => ?_) (fun c9 => absurd (by decide) c9)
  refine lv_aload_n hx hb dX7_doubt_34 rfl (lv_at hl 0 rfl) ?_
  refine lv_iload_n hx hb dX7_doubt_35 rfl (lv_at hl 1 rfl) ?_
  refine rc_callr (wr := []) (va_runV (As := [.int 0]) (rest := []) (Ts := []) ⟨hx, hb, hml, hown, fun _ h9 => absurd h9 List.not_mem_nil⟩ (cw_X7_sample_ l E _ h0 h1 h2 h3 h4 h5) (rc_cwV hAm qw_967 qw_13 qw_970 qw_969 qs_54 rfl rfl hd_X7_sample_ ⟨Nat.le_of_ble_eq_true rfl, Nat.le_of_ble_eq_true rfl⟩) (rc_preV hAm hA hw [1, 0] rfl rfl 1 rfl (q := vwCl[12]) rfl) rfl rfl hl.1 rfl (lv_room (Nat.le_of_ble_eq_true rfl)) dX7_doubt_36 ⟨Nat.le_of_ble_eq_true rfl, Nat.le_of_ble_eq_true rfl⟩) hA hw [1, 0] [] rfl rfl rfl (by decide) (fun u_6 r_5 H locs hp hw => ?_)
  obtain ⟨q1, rfl, rfl⟩ := hp
  have hw : rc_W E A s [(h0, .inr (12, [.int 0, .ref h1, .ref h2, .ref h3, .ref h4, .ref h5, .int 1, .int 3, .int 50, .int (-1), .int (-1), .int (-1), .int (-1), .int 0, .int 100, .int 1000, .long 0])), (h3, .inr (4, [.int 0, .ref (E.2.2 0), .int 0])), (q1, .inl (E.2.1 0, 0, .inl (va_cpy (fun _ => 0) (fun _ => 0) 6 0 0)))] H locs := hw
  refine lv_aload_n hx hb dX7_doubt_39 rfl (lv_at hl 0 rfl) ?_
  refine lv_iload_n hx hb dX7_doubt_40 rfl (lv_at hl 2 rfl) ?_
  refine rc_callr (wr := [(q1, .inl (E.2.1 0, 0, .inl (va_cpy (fun _ => 0) (fun _ => 0) 6 0 0)))]) (va_runV (As := [.int 0]) (rest := [.ref q1]) (Ts := []) ⟨hx, hb, hml, hown, fun _ h9 => absurd h9 List.not_mem_nil⟩ (cw_X7_sample_ l E _ h0 h1 h2 h3 h4 h5) (rc_cwV hAm qw_967 qw_13 qw_970 qw_969 qs_54 rfl rfl hd_X7_sample_ ⟨Nat.le_of_ble_eq_true rfl, Nat.le_of_ble_eq_true rfl⟩) (rc_preV hAm hA hw [0, 1] rfl rfl 0 rfl (q := vwCl[12]) rfl) rfl rfl hl.1 rfl (lv_room (Nat.le_of_ble_eq_true rfl)) dX7_doubt_41 ⟨Nat.le_of_ble_eq_true rfl, Nat.le_of_ble_eq_true rfl⟩) hA hw [0, 1] [2] rfl rfl rfl (by decide) (fun u_8 r_7 H locs hp hw => ?_)
  obtain ⟨q2, rfl, rfl⟩ := hp
  have hw : rc_W E A s [(q1, .inl (E.2.1 0, 0, .inl (va_cpy (fun _ => 0) (fun _ => 0) 6 0 0))), (h0, .inr (12, [.int 0, .ref h1, .ref h2, .ref h3, .ref h4, .ref h5, .int 1, .int 3, .int 50, .int (-1), .int (-1), .int (-1), .int (-1), .int 0, .int 100, .int 1000, .long 0])), (h3, .inr (4, [.int 0, .ref (E.2.2 0), .int 0])), (q2, .inl (E.2.1 0, 0, .inl (va_cpy (fun _ => 0) (fun _ => 0) 6 0 0)))] H locs := hw
  refine rc_callr (wr := [(h0, .inr (12, [.int 0, .ref h1, .ref h2, .ref h3, .ref h4, .ref h5, .int 1, .int 3, .int 50, .int (-1), .int (-1), .int (-1), .int (-1), .int 0, .int 100, .int 1000, .long 0])), (h3, .inr (4, [.int 0, .ref (E.2.2 0), .int 0]))]) (va_runS (As := [.ref q1, .ref q2]) (rest := []) (Ts := []) ⟨hx, hb, hml, hown, fun _ h9 => absurd h9 List.not_mem_nil⟩ (cw_X7_reckoned l E _ q1 q2 (va_cpy (fun _ => 0) (fun _ => 0) 6 0 0)) (rc_cwS hAm qw_1231 qw_13 qw_1233 qw_1232 rfl rfl hd_X7_reckoned ⟨Nat.le_of_ble_eq_true rfl, Nat.le_of_ble_eq_true rfl⟩) (rc_preS hAm hA hw [0, 3] rfl rfl) rfl rfl hl.1 rfl (lv_room (Nat.le_of_ble_eq_true rfl)) dX7_doubt_44 ⟨Nat.le_of_ble_eq_true rfl, Nat.le_of_ble_eq_true rfl⟩) hA hw [0, 3] [1, 2] rfl rfl rfl (by decide) (fun u_10 r_9 H locs hp hw => ?_)
  obtain ⟨q3, rfl, rfl⟩ := hp
  have hw : rc_W E A s [(h0, .inr (12, [.int 0, .ref h1, .ref h2, .ref h3, .ref h4, .ref h5, .int 1, .int 3, .int 50, .int (-1), .int (-1), .int (-1), .int (-1), .int 0, .int 100, .int 1000, .long 0])), (h3, .inr (4, [.int 0, .ref (E.2.2 0), .int 0])), (q1, .inl (E.2.1 0, 0, .inl (va_cpy (fun _ => 0) (fun _ => 0) 6 0 0))), (q2, .inl (E.2.1 0, 0, .inl (va_cpy (fun _ => 0) (fun _ => 0) 6 0 0))), (q3, .inl (E.2.1 0, 4, .inl (upd (upd (upd (upd (upd (upd (upd (fun _ => 0) 0 0) 1 0) 2 0) 3 0) 1 1) 2 1) 3 1)))] H locs := hw
  refine lv_astore_n (lv' := [(3, .ref q3), (0, .ref h0), (1, .int 0), (2, .int 0)]) hx hb dX7_doubt_47 rfl hl (by decide) rfl (fun ls hl => ?_)
  refine lv_aload_n hx hb dX7_doubt_48 rfl (lv_at hl 0 rfl) ?_
  refine lv_iconst (v := 1) hx hb dX7_doubt_49 (by decide) ?_
  refine rc_iald hx hb hAm hw 4 rfl (vp_in_iff.mpr (by decide)) dX7_doubt_50 ?_
  refine rc_topi 1 rfl ?_
  refine lv_i2d hx hb dX7_doubt_51 ?_
  refine lv_aload_n hx hb dX7_doubt_52 rfl (lv_at hl 0 rfl) ?_
  refine lv_iconst (v := 3) hx hb dX7_doubt_53 (by decide) ?_
  refine rc_iald hx hb hAm hw 4 rfl (vp_in_iff.mpr (by decide)) dX7_doubt_54 ?_
  refine rc_topi 1 rfl ?_
  refine lv_i2d hx hb dX7_doubt_55 ?_
  refine lv_ddiv hx hb dX7_doubt_56 (by unfold vf_n64; decide +kernel) ?_
  exact rc_dret (v := FP.ddiv (FP.i2d 1) (FP.i2d 1)) hx hb hr hlocks hw [(h0, .inr (12, [.int 0, .ref h1, .ref h2, .ref h3, .ref h4, .ref h5, .int 1, .int 3, .int 50, .int (-1), .int (-1), .int (-1), .int (-1), .int 0, .int 100, .int 1000, .long 0])), (h3, .inr (4, [.int 0, .ref (E.2.2 0), .int 0]))] (⟨rfl, rfl⟩) [0, 1] rfl (by decide) (Nat.le_of_ble_eq_true rfl) (Nat.le_of_ble_eq_true rfl) dX7_doubt_57
theorem hd_L_rule : yL_rule.cls ≠ "java/lang/invoke/MethodHandle" ∧ yL_rule.cls ≠ "java/lang/invoke/VarHandle" ∧ (parseMethodDescriptor yL_rule.desc).map (fun d => d.parameters.length) = some 4 := by decide +kernel
theorem hd_X7_rule : yX7_rule.cls ≠ "java/lang/invoke/MethodHandle" ∧ yX7_rule.cls ≠ "java/lang/invoke/VarHandle" ∧ (parseMethodDescriptor yX7_rule.desc).map (fun d => d.parameters.length) = some 2 := by decide +kernel
set_option maxHeartbeats 4000000 in
set_option maxRecDepth 100000 in
theorem cw_X7_thrown_43 (l : Launch) (E : rc_E) (sz : Nat) (h0 : Nat) (h1 : Nat) (h2 : Nat) (h3 : Nat) (h4 : Nat) (h5 : Nat) (x0 : Int32) (x1 : Int32) : rc_Mi l yX7_thrown [Cond.code yX7_thrown cX7_thrown 1 (some FieldType.int)] { frames := 0, cells := 0, slots := 0, locals := 0 } E [.ref h0] [(h0, .inr (12, [.int 0, .ref h1, .ref h2, .ref h3, .ref h4, .ref h5, .int 1, .int x0, .int x1, .int (-1), .int (-1), .int (-1), .int (-1), .int 0, .int 100, .int 1000, .long 0]))] sz (S := va_W) (fun (r : Int32) (u : va_W) => (0 = r ∧ u = [(h0, .inr (12, [.int 0, .ref h1, .ref h2, .ref h3, .ref h4, .ref h5, .int 1, .int x0, .int x1, .int (-1), .int (-1), .int (-1), .int (-1), .int 0, .int 100, .int 1000, .long 0]))])) (fun u => u) 0 0 := by
  refine rc_ini (cc := cX7_thrown) (maxL := 1) (ret := (some FieldType.int)) (by decide) rfl (Nat.le_of_ble_eq_true rfl) ?_
  intro p e s m args below meth c ls A hx hb hr hml _ hown hlocks hin hA hAm hw hl
  have hown : s.vm.findClass RX7 = some m.cls := hown
  have hl : lv_has ls 1 [(0, .ref h0)] := hl
  refine lv_aload_n hx hb dX7_thrown_0 rfl (lv_at hl 0 rfl) ?_
  refine rc_get (v := .int 0) hx hb hown hAm hw lyX7 0 rfl rfl 0 (by decide) qw_860 (fun _ h9 => h9) rfl dX7_thrown_1 ?_
  exact rc_iret (v := 0) hx hb hr hlocks hw [(h0, .inr (12, [.int 0, .ref h1, .ref h2, .ref h3, .ref h4, .ref h5, .int 1, .int x0, .int x1, .int (-1), .int (-1), .int (-1), .int (-1), .int 0, .int 100, .int 1000, .long 0]))] (⟨rfl, rfl⟩) [0] rfl (by decide) (Nat.le_of_ble_eq_true rfl) (Nat.le_of_ble_eq_true rfl) dX7_thrown_4
theorem hd_L_begin : yL_begin.cls ≠ "java/lang/invoke/MethodHandle" ∧ yL_begin.cls ≠ "java/lang/invoke/VarHandle" ∧ (parseMethodDescriptor yL_begin.desc).map (fun d => d.parameters.length) = some 4 := by decide +kernel
theorem hd_X7_begin : yX7_begin.cls ≠ "java/lang/invoke/MethodHandle" ∧ yX7_begin.cls ≠ "java/lang/invoke/VarHandle" ∧ (parseMethodDescriptor yX7_begin.desc).map (fun d => d.parameters.length) = some 2 := by decide +kernel
set_option maxHeartbeats 4000000 in
set_option maxRecDepth 100000 in
theorem cw_X7_begin_2 (l : Launch) (E : rc_E) (sz : Nat) (h0 : Nat) (x0 : Int32) (h1 : Nat) (h2 : Nat) (h3 : Nat) (h4 : Nat) (h5 : Nat) : rc_Mi l yX7_begin [Cond.code yX7_begin cX7_begin 3 (some FieldType.int)] { frames := 2, cells := 0, slots := 0, locals := 43 } E [.ref h0, .int 0, .int x0] [(h0, .inr (12, [.int 0, .ref h1, .ref h2, .ref h3, .ref h4, .ref h5, .int 1, .int 3, .int 50, .int (-1), .int (-1), .int (-1), .int (-1), .int 0, .int 100, .int 1000, .long 0]))] sz (S := va_W) (fun (r : Int32) (u : va_W) => (x0 < 0 ∧ 0 = r ∧ u = [(h0, .inr (12, [.int 1, .ref h1, .ref h2, .ref h3, .ref h4, .ref h5, .int 1, .int 3, .int 50, .int (-1), .int (-1), .int (-1), .int (-1), .int 0, .int 100, .int 1000, .long 0]))]) ∨ (¬ x0 < 0 ∧ 0 < x0 ∧ 0 = r ∧ u = [(h0, .inr (12, [.int 1, .ref h1, .ref h2, .ref h3, .ref h4, .ref h5, .int 1, .int 3, .int 50, .int (-1), .int (-1), .int (-1), .int (-1), .int 0, .int 100, .int 1000, .long 0]))]) ∨ (x0 = 0 ∧ 0 = r ∧ u = [(h0, .inr (12, [.int 2, .ref h1, .ref h2, .ref h3, .ref h4, .ref h5, .int 1, .int 3, .int 50, .int (-1), .int (-1), .int (-1), .int (-1), .int 0, .int 100, .int 1000, .long 0]))])) (fun u => u) 0 0 := by
  refine rc_ini (cc := cX7_begin) (maxL := 3) (ret := (some FieldType.int)) (by decide) rfl (Nat.le_of_ble_eq_true rfl) ?_
  intro p e s m args below meth c ls A hx hb hr hml _ hown hlocks hin hA hAm hw hl
  have hown : s.vm.findClass RX7 = some m.cls := hown
  have hl : lv_has ls 3 [(0, .ref h0), (1, .int 0), (2, .int x0)] := hl
  refine lv_aload_n hx hb dX7_begin_0 rfl (lv_at hl 0 rfl) ?_
  refine lv_iconst (v := 0) hx hb dX7_begin_1 (by decide) ?_
  refine rc_put hx hb hown hAm hw lyX7 tyX7 tyX7_ok nmX7 0 rfl rfl 0 (by decide) qw_860 (fun _ h9 => h9) rfl rfl (by decide +kernel) (Nat.le_of_ble_eq_true rfl) [(h0, .inr (12, [.int 0, .ref h1, .ref h2, .ref h3, .ref h4, .ref h5, .int 1, .int 3, .int 50, .int (-1), .int (-1), .int (-1), .int (-1), .int 0, .int 100, .int 1000, .long 0]))] rfl dX7_begin_2 (fun H locs hw => ?_)
  refine lv_aload_n hx hb dX7_begin_5 rfl (lv_at hl 0 rfl) ?_
  refine lv_iload_n hx hb dX7_begin_6 rfl (lv_at hl 1 rfl) ?_
  refine rc_calli (wr := []) (va_runV (As := [.int 0]) (rest := []) (Ts := []) ⟨hx, hb, hml, hown, fun _ h9 => absurd h9 List.not_mem_nil⟩ (cw_X7_isChange_2 l E _ h0 h1 h2 h3 h4 h5) (rc_cwV hAm qw_1353 qw_13 qw_1356 qw_1355 qs_62 rfl rfl hd_X7_isChange ⟨Nat.le_of_ble_eq_true rfl, Nat.le_of_ble_eq_true rfl⟩) (rc_preV hAm hA hw [0] rfl rfl 0 rfl (q := vwCl[12]) rfl) rfl rfl hl.1 rfl (lv_room (Nat.le_of_ble_eq_true rfl)) dX7_begin_7 ⟨Nat.le_of_ble_eq_true rfl, Nat.le_of_ble_eq_true rfl⟩) hA hw [0] [] rfl rfl rfl (by decide) (fun r_1 u_2 H locs hp hw => ?_)
  obtain ⟨rfl, rfl⟩ := hp
  have hw : rc_W E A s [(h0, .inr (12, [.int 0, .ref h1, .ref h2, .ref h3, .ref h4, .ref h5, .int 1, .int 3, .int 50, .int (-1), .int (-1), .int (-1), .int (-1), .int 0, .int 100, .int 1000, .long 0]))] H locs := hw
  refine lv_if_eq (tgt := 21) hx hb dX7_begin_10 (by decide) (fun c9 => absurd c9 (by decide)) (fun _ => ?_)
  refine lv_aload_n hx hb dX7_begin_13 rfl (lv_at hl 0 rfl) ?_
  refine lv_iload_n hx hb dX7_begin_14 rfl (lv_at hl 2 rfl) ?_
  refine rc_calli (wr := []) (va_runV (As := [.int x0]) (rest := []) (Ts := []) ⟨hx, hb, hml, hown, fun _ h9 => absurd h9 List.not_mem_nil⟩ (cw_X7_isChange l E _ h0 x0 h1 h2 h3 h4 h5) (rc_cwV hAm qw_1353 qw_13 qw_1356 qw_1355 qs_62 rfl rfl hd_X7_isChange ⟨Nat.le_of_ble_eq_true rfl, Nat.le_of_ble_eq_true rfl⟩) (rc_preV hAm hA hw [0] rfl rfl 0 rfl (q := vwCl[12]) rfl) rfl rfl hl.1 rfl (lv_room (Nat.le_of_ble_eq_true rfl)) dX7_begin_15 ⟨Nat.le_of_ble_eq_true rfl, Nat.le_of_ble_eq_true rfl⟩) hA hw [0] [] rfl rfl rfl (by decide) (fun r_3 u_4 H locs hp hw => ?_)
  rcases hp with ⟨c_5, rfl, rfl⟩ | ⟨c_6, c_7, rfl, rfl⟩ | ⟨c_8, rfl, rfl⟩
  · have hw : rc_W E A s [(h0, .inr (12, [.int 0, .ref h1, .ref h2, .ref h3, .ref h4, .ref h5, .int 1, .int 3, .int 50, .int (-1), .int (-1), .int (-1), .int (-1), .int 0, .int 100, .int 1000, .long 0]))] H locs := hw
    refine lv_if_ne (tgt := 27) hx hb dX7_begin_18 (by decide) (fun c9 => absurd (by decide) c9) (fun _ => ?_)
    refine lv_aload_n hx hb dX7_begin_21 rfl (lv_at hl 0 rfl) ?_
    refine lv_iconst (v := 1) hx hb dX7_begin_22 (by decide) ?_
    refine rc_calli (wr := []) (va_runV (As := [.int 1]) (rest := []) (Ts := []) ⟨hx, hb, hml, hown, fun _ h9 => absurd h9 List.not_mem_nil⟩ (cw_X7_refuse l E _ h0 h1 h2 h3 h4 h5) (rc_cwV hAm qw_924 qw_13 qw_927 qw_926 qs_50 rfl rfl hd_X7_refuse ⟨Nat.le_of_ble_eq_true rfl, Nat.le_of_ble_eq_true rfl⟩) (rc_preV hAm hA hw [0] rfl rfl 0 rfl (q := vwCl[12]) rfl) rfl rfl hl.1 rfl (lv_room (Nat.le_of_ble_eq_true rfl)) dX7_begin_23 ⟨Nat.le_of_ble_eq_true rfl, Nat.le_of_ble_eq_true rfl⟩) hA hw [0] [] rfl rfl rfl (by decide) (fun r_9 u_10 H locs hp hw => ?_)
    obtain ⟨rfl, rfl⟩ := hp
    have hw : rc_W E A s [(h0, .inr (12, [.int 1, .ref h1, .ref h2, .ref h3, .ref h4, .ref h5, .int 1, .int 3, .int 50, .int (-1), .int (-1), .int (-1), .int (-1), .int 0, .int 100, .int 1000, .long 0]))] H locs := hw
    exact rc_iret (v := 0) hx hb hr hlocks hw [(h0, .inr (12, [.int 1, .ref h1, .ref h2, .ref h3, .ref h4, .ref h5, .int 1, .int 3, .int 50, .int (-1), .int (-1), .int (-1), .int (-1), .int 0, .int 100, .int 1000, .long 0]))] (Or.inl ⟨c_5, rfl, rfl⟩) [0] rfl (by decide) (Nat.le_of_ble_eq_true rfl) (Nat.le_of_ble_eq_true rfl) dX7_begin_26
  · have hw : rc_W E A s [(h0, .inr (12, [.int 0, .ref h1, .ref h2, .ref h3, .ref h4, .ref h5, .int 1, .int 3, .int 50, .int (-1), .int (-1), .int (-1), .int (-1), .int 0, .int 100, .int 1000, .long 0]))] H locs := hw
    refine lv_if_ne (tgt := 27) hx hb dX7_begin_18 (by decide) (fun c9 => absurd (by decide) c9) (fun _ => ?_)
    refine lv_aload_n hx hb dX7_begin_21 rfl (lv_at hl 0 rfl) ?_
    refine lv_iconst (v := 1) hx hb dX7_begin_22 (by decide) ?_
    refine rc_calli (wr := []) (va_runV (As := [.int 1]) (rest := []) (Ts := []) ⟨hx, hb, hml, hown, fun _ h9 => absurd h9 List.not_mem_nil⟩ (cw_X7_refuse l E _ h0 h1 h2 h3 h4 h5) (rc_cwV hAm qw_924 qw_13 qw_927 qw_926 qs_50 rfl rfl hd_X7_refuse ⟨Nat.le_of_ble_eq_true rfl, Nat.le_of_ble_eq_true rfl⟩) (rc_preV hAm hA hw [0] rfl rfl 0 rfl (q := vwCl[12]) rfl) rfl rfl hl.1 rfl (lv_room (Nat.le_of_ble_eq_true rfl)) dX7_begin_23 ⟨Nat.le_of_ble_eq_true rfl, Nat.le_of_ble_eq_true rfl⟩) hA hw [0] [] rfl rfl rfl (by decide) (fun r_11 u_12 H locs hp hw => ?_)
    obtain ⟨rfl, rfl⟩ := hp
    have hw : rc_W E A s [(h0, .inr (12, [.int 1, .ref h1, .ref h2, .ref h3, .ref h4, .ref h5, .int 1, .int 3, .int 50, .int (-1), .int (-1), .int (-1), .int (-1), .int 0, .int 100, .int 1000, .long 0]))] H locs := hw
    exact rc_iret (v := 0) hx hb hr hlocks hw [(h0, .inr (12, [.int 1, .ref h1, .ref h2, .ref h3, .ref h4, .ref h5, .int 1, .int 3, .int 50, .int (-1), .int (-1), .int (-1), .int (-1), .int 0, .int 100, .int 1000, .long 0]))] (Or.inr (Or.inl ⟨c_6, c_7, rfl, rfl⟩)) [0] rfl (by decide) (Nat.le_of_ble_eq_true rfl) (Nat.le_of_ble_eq_true rfl) dX7_begin_26
  · obtain rfl : x0 = 0 := rc_eqc (b := 0) rfl (by have g_c_8 := rc_g5 (b := 0) c_8 rfl; omega)
    have hw : rc_W E A s [(h0, .inr (12, [.int 0, .ref h1, .ref h2, .ref h3, .ref h4, .ref h5, .int 1, .int 3, .int 50, .int (-1), .int (-1), .int (-1), .int (-1), .int 0, .int 100, .int 1000, .long 0]))] H locs := hw
    refine lv_if_ne (tgt := 27) hx hb dX7_begin_18 (by decide) (fun _ => ?_) (fun c9 => absurd c9 (by decide))
    refine lv_iload_n hx hb dX7_begin_27 rfl (lv_at hl 2 rfl) ?_
    refine lv_iload_n hx hb dX7_begin_28 rfl (lv_at hl 1 rfl) ?_
    refine lv_icmp_gt (tgt := 38) hx hb dX7_begin_29 (by decide) (fun c9 => absurd c9 (by decide)) (fun _ => ?_)
    refine lv_aload_n hx hb dX7_begin_32 rfl (lv_at hl 0 rfl) ?_
    refine lv_iconst (v := 2) hx hb dX7_begin_33 (by decide) ?_
    refine rc_calli (wr := []) (va_runV (As := [.int 2]) (rest := []) (Ts := []) ⟨hx, hb, hml, hown, fun _ h9 => absurd h9 List.not_mem_nil⟩ (cw_X7_refuse_2 l E _ h0 h1 h2 h3 h4 h5) (rc_cwV hAm qw_924 qw_13 qw_927 qw_926 qs_50 rfl rfl hd_X7_refuse ⟨Nat.le_of_ble_eq_true rfl, Nat.le_of_ble_eq_true rfl⟩) (rc_preV hAm hA hw [0] rfl rfl 0 rfl (q := vwCl[12]) rfl) rfl rfl hl.1 rfl (lv_room (Nat.le_of_ble_eq_true rfl)) dX7_begin_34 ⟨Nat.le_of_ble_eq_true rfl, Nat.le_of_ble_eq_true rfl⟩) hA hw [0] [] rfl rfl rfl (by decide) (fun r_13 u_14 H locs hp hw => ?_)
    obtain ⟨rfl, rfl⟩ := hp
    have hw : rc_W E A s [(h0, .inr (12, [.int 2, .ref h1, .ref h2, .ref h3, .ref h4, .ref h5, .int 1, .int 3, .int 50, .int (-1), .int (-1), .int (-1), .int (-1), .int 0, .int 100, .int 1000, .long 0]))] H locs := hw
    exact rc_iret (v := 0) hx hb hr hlocks hw [(h0, .inr (12, [.int 2, .ref h1, .ref h2, .ref h3, .ref h4, .ref h5, .int 1, .int 3, .int 50, .int (-1), .int (-1), .int (-1), .int (-1), .int 0, .int 100, .int 1000, .long 0]))] (Or.inr (Or.inr ⟨rfl, rfl, rfl⟩)) [0] rfl (by decide) (Nat.le_of_ble_eq_true rfl) (Nat.le_of_ble_eq_true rfl) dX7_begin_37
set_option maxHeartbeats 4000000 in
set_option maxRecDepth 100000 in
theorem cw_X7_begin_3 (l : Launch) (E : rc_E) (sz : Nat) (h0 : Nat) (h1 : Nat) (h2 : Nat) (h3 : Nat) (h4 : Nat) (h5 : Nat) : rc_Mi l yX7_begin [Cond.code yX7_begin cX7_begin 3 (some FieldType.int)] { frames := 2, cells := 0, slots := 0, locals := 43 } E [.ref h0, .int 0, .int 0] [(h0, .inr (12, [.int 0, .ref h1, .ref h2, .ref h3, .ref h4, .ref h5, .int 1, .int 3, .int 50, .int (-1), .int (-1), .int (-1), .int (-1), .int 0, .int 100, .int 1000, .long 0]))] sz (S := va_W) (fun (r : Int32) (u : va_W) => (0 = r ∧ u = [(h0, .inr (12, [.int 2, .ref h1, .ref h2, .ref h3, .ref h4, .ref h5, .int 1, .int 3, .int 50, .int (-1), .int (-1), .int (-1), .int (-1), .int 0, .int 100, .int 1000, .long 0]))])) (fun u => u) 0 0 := by
  refine rc_ini (cc := cX7_begin) (maxL := 3) (ret := (some FieldType.int)) (by decide) rfl (Nat.le_of_ble_eq_true rfl) ?_
  intro p e s m args below meth c ls A hx hb hr hml _ hown hlocks hin hA hAm hw hl
  have hown : s.vm.findClass RX7 = some m.cls := hown
  have hl : lv_has ls 3 [(0, .ref h0), (1, .int 0), (2, .int 0)] := hl
  refine lv_aload_n hx hb dX7_begin_0 rfl (lv_at hl 0 rfl) ?_
  refine lv_iconst (v := 0) hx hb dX7_begin_1 (by decide) ?_
  refine rc_put hx hb hown hAm hw lyX7 tyX7 tyX7_ok nmX7 0 rfl rfl 0 (by decide) qw_860 (fun _ h9 => h9) rfl rfl (by decide +kernel) (Nat.le_of_ble_eq_true rfl) [(h0, .inr (12, [.int 0, .ref h1, .ref h2, .ref h3, .ref h4, .ref h5, .int 1, .int 3, .int 50, .int (-1), .int (-1), .int (-1), .int (-1), .int 0, .int 100, .int 1000, .long 0]))] rfl dX7_begin_2 (fun H locs hw => ?_)
  refine lv_aload_n hx hb dX7_begin_5 rfl (lv_at hl 0 rfl) ?_
  refine lv_iload_n hx hb dX7_begin_6 rfl (lv_at hl 1 rfl) ?_
  refine rc_calli (wr := []) (va_runV (As := [.int 0]) (rest := []) (Ts := []) ⟨hx, hb, hml, hown, fun _ h9 => absurd h9 List.not_mem_nil⟩ (cw_X7_isChange_2 l E _ h0 h1 h2 h3 h4 h5) (rc_cwV hAm qw_1353 qw_13 qw_1356 qw_1355 qs_62 rfl rfl hd_X7_isChange ⟨Nat.le_of_ble_eq_true rfl, Nat.le_of_ble_eq_true rfl⟩) (rc_preV hAm hA hw [0] rfl rfl 0 rfl (q := vwCl[12]) rfl) rfl rfl hl.1 rfl (lv_room (Nat.le_of_ble_eq_true rfl)) dX7_begin_7 ⟨Nat.le_of_ble_eq_true rfl, Nat.le_of_ble_eq_true rfl⟩) hA hw [0] [] rfl rfl rfl (by decide) (fun r_1 u_2 H locs hp hw => ?_)
  obtain ⟨rfl, rfl⟩ := hp
  have hw : rc_W E A s [(h0, .inr (12, [.int 0, .ref h1, .ref h2, .ref h3, .ref h4, .ref h5, .int 1, .int 3, .int 50, .int (-1), .int (-1), .int (-1), .int (-1), .int 0, .int 100, .int 1000, .long 0]))] H locs := hw
  refine lv_if_eq (tgt := 21) hx hb dX7_begin_10 (by decide) (fun c9 => absurd c9 (by decide)) (fun _ => ?_)
  refine lv_aload_n hx hb dX7_begin_13 rfl (lv_at hl 0 rfl) ?_
  refine lv_iload_n hx hb dX7_begin_14 rfl (lv_at hl 2 rfl) ?_
  refine rc_calli (wr := []) (va_runV (As := [.int 0]) (rest := []) (Ts := []) ⟨hx, hb, hml, hown, fun _ h9 => absurd h9 List.not_mem_nil⟩ (cw_X7_isChange_2 l E _ h0 h1 h2 h3 h4 h5) (rc_cwV hAm qw_1353 qw_13 qw_1356 qw_1355 qs_62 rfl rfl hd_X7_isChange ⟨Nat.le_of_ble_eq_true rfl, Nat.le_of_ble_eq_true rfl⟩) (rc_preV hAm hA hw [0] rfl rfl 0 rfl (q := vwCl[12]) rfl) rfl rfl hl.1 rfl (lv_room (Nat.le_of_ble_eq_true rfl)) dX7_begin_15 ⟨Nat.le_of_ble_eq_true rfl, Nat.le_of_ble_eq_true rfl⟩) hA hw [0] [] rfl rfl rfl (by decide) (fun r_3 u_4 H locs hp hw => ?_)
  obtain ⟨rfl, rfl⟩ := hp
  have hw : rc_W E A s [(h0, .inr (12, [.int 0, .ref h1, .ref h2, .ref h3, .ref h4, .ref h5, .int 1, .int 3, .int 50, .int (-1), .int (-1), .int (-1), .int (-1), .int 0, .int 100, .int 1000, .long 0]))] H locs := hw
  refine lv_if_ne (tgt := 27) hx hb dX7_begin_18 (by decide) (fun _ => ?_) (fun c9 => absurd c9 (by decide))
  refine lv_iload_n hx hb dX7_begin_27 rfl (lv_at hl 2 rfl) ?_
  refine lv_iload_n hx hb dX7_begin_28 rfl (lv_at hl 1 rfl) ?_
  refine lv_icmp_gt (tgt := 38) hx hb dX7_begin_29 (by decide) (fun c9 => absurd c9 (by decide)) (fun _ => ?_)
  refine lv_aload_n hx hb dX7_begin_32 rfl (lv_at hl 0 rfl) ?_
  refine lv_iconst (v := 2) hx hb dX7_begin_33 (by decide) ?_
  refine rc_calli (wr := []) (va_runV (As := [.int 2]) (rest := []) (Ts := []) ⟨hx, hb, hml, hown, fun _ h9 => absurd h9 List.not_mem_nil⟩ (cw_X7_refuse_2 l E _ h0 h1 h2 h3 h4 h5) (rc_cwV hAm qw_924 qw_13 qw_927 qw_926 qs_50 rfl rfl hd_X7_refuse ⟨Nat.le_of_ble_eq_true rfl, Nat.le_of_ble_eq_true rfl⟩) (rc_preV hAm hA hw [0] rfl rfl 0 rfl (q := vwCl[12]) rfl) rfl rfl hl.1 rfl (lv_room (Nat.le_of_ble_eq_true rfl)) dX7_begin_34 ⟨Nat.le_of_ble_eq_true rfl, Nat.le_of_ble_eq_true rfl⟩) hA hw [0] [] rfl rfl rfl (by decide) (fun r_5 u_6 H locs hp hw => ?_)
  obtain ⟨rfl, rfl⟩ := hp
  have hw : rc_W E A s [(h0, .inr (12, [.int 2, .ref h1, .ref h2, .ref h3, .ref h4, .ref h5, .int 1, .int 3, .int 50, .int (-1), .int (-1), .int (-1), .int (-1), .int 0, .int 100, .int 1000, .long 0]))] H locs := hw
  exact rc_iret (v := 0) hx hb hr hlocks hw [(h0, .inr (12, [.int 2, .ref h1, .ref h2, .ref h3, .ref h4, .ref h5, .int 1, .int 3, .int 50, .int (-1), .int (-1), .int (-1), .int (-1), .int 0, .int 100, .int 1000, .long 0]))] (⟨rfl, rfl⟩) [0] rfl (by decide) (Nat.le_of_ble_eq_true rfl) (Nat.le_of_ble_eq_true rfl) dX7_begin_37
theorem hd_L_drop : yL_drop.cls ≠ "java/lang/invoke/MethodHandle" ∧ yL_drop.cls ≠ "java/lang/invoke/VarHandle" ∧ (parseMethodDescriptor yL_drop.desc).map (fun d => d.parameters.length) = some 2 := by decide +kernel
theorem hd_X7_drop : yX7_drop.cls ≠ "java/lang/invoke/MethodHandle" ∧ yX7_drop.cls ≠ "java/lang/invoke/VarHandle" ∧ (parseMethodDescriptor yX7_drop.desc).map (fun d => d.parameters.length) = some 0 := by decide +kernel
theorem hd_L_ofCase : yL_ofCase.cls ≠ "java/lang/invoke/MethodHandle" ∧ yL_ofCase.cls ≠ "java/lang/invoke/VarHandle" ∧ (parseMethodDescriptor yL_ofCase.desc).map (fun d => d.parameters.length) = some 3 := by decide +kernel
theorem hd_X7_ofCase : yX7_ofCase.cls ≠ "java/lang/invoke/MethodHandle" ∧ yX7_ofCase.cls ≠ "java/lang/invoke/VarHandle" ∧ (parseMethodDescriptor yX7_ofCase.desc).map (fun d => d.parameters.length) = some 1 := by decide +kernel
set_option maxHeartbeats 4000000 in
set_option maxRecDepth 100000 in
theorem cw_X7_is_66 (l : Launch) (E : rc_E) (sz : Nat) : rc_Mi l yX7_is [Cond.code yX7_is cX7_is 3 (some FieldType.boolean)] { frames := 0, cells := 0, slots := 0, locals := 0 } E [.int 0, .int 0, .int 3] [] sz (S := va_W) (fun (r : Int32) (u : va_W) => (1 = r ∧ u = [])) (fun u => u) 0 0 := by
  refine rc_ini (cc := cX7_is) (maxL := 3) (ret := (some FieldType.boolean)) (by decide) rfl (Nat.le_of_ble_eq_true rfl) ?_
  intro p e s m args below meth c ls A hx hb hr hml _ hown hlocks hin hA hAm hw hl
  have hown : s.vm.findClass RX7 = some m.cls := hown
  have hl : lv_has ls 3 [(0, .int 0), (1, .int 0), (2, .int 3)] := hl
  refine lv_iload_n hx hb dX7_is_0 rfl (lv_at hl 0 rfl) ?_
  refine lv_iload_n hx hb dX7_is_1 rfl (lv_at hl 1 rfl) ?_
  refine lv_icmp_lt (tgt := 14) hx hb dX7_is_2 (by decide) (fun c9 => absurd c9 (by decide)) (fun _ => ?_)
  refine lv_iload_n hx hb dX7_is_5 rfl (lv_at hl 0 rfl) ?_
  refine lv_iload_n hx hb dX7_is_6 rfl (lv_at hl 2 rfl) ?_
  refine lv_icmp_gt (tgt := 14) hx hb dX7_is_7 (by decide) (fun c9 => absurd c9 (by decide)) (fun _ => ?_)
  refine lv_iconst (v := 1) hx hb dX7_is_10 (by decide) ?_
  refine lv_goto (tgt := 15) hx hb dX7_is_11 (by decide) ?_
  exact rc_zret (v := 1) hx hb hr hlocks hw rfl [] (⟨rfl, rfl⟩) [] rfl (by decide) (Nat.le_of_ble_eq_true rfl) (Nat.le_of_ble_eq_true rfl) dX7_is_15
set_option maxHeartbeats 4000000 in
set_option maxRecDepth 100000 in
theorem cw_X7_ofCaseNow_6 (l : Launch) (E : rc_E) (sz : Nat) (h0 : Nat) (h1 : Nat) (h2 : Nat) (h3 : Nat) (h4 : Nat) (h5 : Nat) : rc_Mi l yX7_ofCaseNow [Cond.code yX7_ofCaseNow cX7_ofCaseNow 2 (some FieldType.int)] { frames := 0, cells := 0, slots := 0, locals := 0 } E [.ref h0, .int 0] [(h0, .inr (12, [.int 0, .ref h1, .ref h2, .ref h3, .ref h4, .ref h5, .int 1, .int 3, .int 50, .int (-1), .int (-1), .int (-1), .int (-1), .int 0, .int 100, .int 1000, .long 0]))] sz (S := va_W) (fun (r : Int32) (u : va_W) => ((-1) = r ∧ u = [(h0, .inr (12, [.int 0, .ref h1, .ref h2, .ref h3, .ref h4, .ref h5, .int 1, .int 3, .int 50, .int (-1), .int (-1), .int (-1), .int (-1), .int 0, .int 100, .int 1000, .long 0]))])) (fun u => u) 0 0 := by
  refine rc_ini (cc := cX7_ofCaseNow) (maxL := 2) (ret := (some FieldType.int)) (by decide) rfl (Nat.le_of_ble_eq_true rfl) ?_
  intro p e s m args below meth c ls A hx hb hr hml _ hown hlocks hin hA hAm hw hl
  have hown : s.vm.findClass RX7 = some m.cls := hown
  have hl : lv_has ls 2 [(0, .ref h0), (1, .int 0)] := hl
  refine lv_iload_n hx hb dX7_ofCaseNow_0 rfl (lv_at hl 1 rfl) ?_
  refine lv_if_ne (tgt := 11) hx hb dX7_ofCaseNow_1 (by decide) (fun c9 => absurd (by decide) c9) (fun _ => ?_)
  refine lv_aload_n hx hb dX7_ofCaseNow_4 rfl (lv_at hl 0 rfl) ?_
  refine rc_get (v := .int (-1)) hx hb hown hAm hw lyX7 0 rfl rfl 9 (by decide) qw_869 (fun _ h9 => h9) rfl dX7_ofCaseNow_5 ?_
  refine lv_goto (tgt := 39) hx hb dX7_ofCaseNow_8 (by decide) ?_
  exact rc_iret (v := (-1)) hx hb hr hlocks hw [(h0, .inr (12, [.int 0, .ref h1, .ref h2, .ref h3, .ref h4, .ref h5, .int 1, .int 3, .int 50, .int (-1), .int (-1), .int (-1), .int (-1), .int 0, .int 100, .int 1000, .long 0]))] (⟨rfl, rfl⟩) [0] rfl (by decide) (Nat.le_of_ble_eq_true rfl) (Nat.le_of_ble_eq_true rfl) dX7_ofCaseNow_39
set_option maxHeartbeats 4000000 in
set_option maxRecDepth 100000 in
theorem cw_X7_ofCase_2 (l : Launch) (E : rc_E) (sz : Nat) (h0 : Nat) (h1 : Nat) (h2 : Nat) (h3 : Nat) (h4 : Nat) (h5 : Nat) : rc_Mi l yX7_ofCase [Cond.code yX7_ofCase cX7_ofCase 2 (some FieldType.int)] { frames := 1, cells := 0, slots := 0, locals := 22 } E [.ref h0, .int 0] [(h0, .inr (12, [.int 0, .ref h1, .ref h2, .ref h3, .ref h4, .ref h5, .int 1, .int 3, .int 50, .int (-1), .int (-1), .int (-1), .int (-1), .int 0, .int 100, .int 1000, .long 0]))] sz (S := va_W) (fun (r : Int32) (u : va_W) => ((-1) = r ∧ u = [(h0, .inr (12, [.int 0, .ref h1, .ref h2, .ref h3, .ref h4, .ref h5, .int 1, .int 3, .int 50, .int (-1), .int (-1), .int (-1), .int (-1), .int 0, .int 100, .int 1000, .long 0]))])) (fun u => u) 0 0 := by
  refine rc_ini (cc := cX7_ofCase) (maxL := 2) (ret := (some FieldType.int)) (by decide) rfl (Nat.le_of_ble_eq_true rfl) ?_
  intro p e s m args below meth c ls A hx hb hr hml _ hown hlocks hin hA hAm hw hl
  have hown : s.vm.findClass RX7 = some m.cls := hown
  have hl : lv_has ls 2 [(0, .ref h0), (1, .int 0)] := hl
  refine lv_aload_n hx hb dX7_ofCase_0 rfl (lv_at hl 0 rfl) ?_
  refine lv_iconst (v := 0) hx hb dX7_ofCase_1 (by decide) ?_
  refine rc_put hx hb hown hAm hw lyX7 tyX7 tyX7_ok nmX7 0 rfl rfl 0 (by decide) qw_860 (fun _ h9 => h9) rfl rfl (by decide +kernel) (Nat.le_of_ble_eq_true rfl) [(h0, .inr (12, [.int 0, .ref h1, .ref h2, .ref h3, .ref h4, .ref h5, .int 1, .int 3, .int 50, .int (-1), .int (-1), .int (-1), .int (-1), .int 0, .int 100, .int 1000, .long 0]))] rfl dX7_ofCase_2 (fun H locs hw => ?_)
  refine lv_iload_n hx hb dX7_ofCase_5 rfl (lv_at hl 1 rfl) ?_
  refine lv_iconst (v := 0) hx hb dX7_ofCase_6 (by decide) ?_
  refine lv_iconst (v := 3) hx hb dX7_ofCase_7 (by decide) ?_
  refine rc_calli (wr := [(h0, .inr (12, [.int 0, .ref h1, .ref h2, .ref h3, .ref h4, .ref h5, .int 1, .int 3, .int 50, .int (-1), .int (-1), .int (-1), .int (-1), .int 0, .int 100, .int 1000, .long 0]))]) (va_runS (As := [.int 0, .int 0, .int 3]) (rest := []) (Ts := []) ⟨hx, hb, hml, hown, fun _ h9 => absurd h9 List.not_mem_nil⟩ (cw_X7_is_66 l E _) (rc_cwS hAm qw_921 qw_13 qw_923 qw_922 rfl rfl hd_X7_is ⟨Nat.le_of_ble_eq_true rfl, Nat.le_of_ble_eq_true rfl⟩) (rc_preS hAm hA hw [] rfl rfl) rfl rfl hl.1 rfl (lv_room (Nat.le_of_ble_eq_true rfl)) dX7_ofCase_8 ⟨Nat.le_of_ble_eq_true rfl, Nat.le_of_ble_eq_true rfl⟩) hA hw [] [0] rfl rfl rfl (by decide) (fun r_1 u_2 H locs hp hw => ?_)
  obtain ⟨rfl, rfl⟩ := hp
  have hw : rc_W E A s [(h0, .inr (12, [.int 0, .ref h1, .ref h2, .ref h3, .ref h4, .ref h5, .int 1, .int 3, .int 50, .int (-1), .int (-1), .int (-1), .int (-1), .int 0, .int 100, .int 1000, .long 0]))] H locs := hw
  refine lv_if_eq (tgt := 22) hx hb dX7_ofCase_11 (by decide) (fun c9 => absurd c9 (by decide)) (fun _ => ?_)
  refine lv_aload_n hx hb dX7_ofCase_14 rfl (lv_at hl 0 rfl) ?_
  refine lv_iload_n hx hb dX7_ofCase_15 rfl (lv_at hl 1 rfl) ?_
  refine rc_calli (wr := []) (va_runV (As := [.int 0]) (rest := []) (Ts := []) ⟨hx, hb, hml, hown, fun _ h9 => absurd h9 List.not_mem_nil⟩ (cw_X7_ofCaseNow_6 l E _ h0 h1 h2 h3 h4 h5) (rc_cwV hAm qw_1405 qw_13 qw_1408 qw_1407 qs_66 rfl rfl hd_X7_ofCaseNow ⟨Nat.le_of_ble_eq_true rfl, Nat.le_of_ble_eq_true rfl⟩) (rc_preV hAm hA hw [0] rfl rfl 0 rfl (q := vwCl[12]) rfl) rfl rfl hl.1 rfl (lv_room (Nat.le_of_ble_eq_true rfl)) dX7_ofCase_16 ⟨Nat.le_of_ble_eq_true rfl, Nat.le_of_ble_eq_true rfl⟩) hA hw [0] [] rfl rfl rfl (by decide) (fun r_3 u_4 H locs hp hw => ?_)
  obtain ⟨rfl, rfl⟩ := hp
  have hw : rc_W E A s [(h0, .inr (12, [.int 0, .ref h1, .ref h2, .ref h3, .ref h4, .ref h5, .int 1, .int 3, .int 50, .int (-1), .int (-1), .int (-1), .int (-1), .int 0, .int 100, .int 1000, .long 0]))] H locs := hw
  refine lv_goto (tgt := 27) hx hb dX7_ofCase_19 (by decide) ?_
  exact rc_iret (v := (-1)) hx hb hr hlocks hw [(h0, .inr (12, [.int 0, .ref h1, .ref h2, .ref h3, .ref h4, .ref h5, .int 1, .int 3, .int 50, .int (-1), .int (-1), .int (-1), .int (-1), .int 0, .int 100, .int 1000, .long 0]))] (⟨rfl, rfl⟩) [0] rfl (by decide) (Nat.le_of_ble_eq_true rfl) (Nat.le_of_ble_eq_true rfl) dX7_ofCase_27
set_option maxHeartbeats 4000000 in
set_option maxRecDepth 100000 in
theorem cw_X7_is_67 (l : Launch) (E : rc_E) (sz : Nat) : rc_Mi l yX7_is [Cond.code yX7_is cX7_is 3 (some FieldType.boolean)] { frames := 0, cells := 0, slots := 0, locals := 0 } E [.int 1, .int 0, .int 3] [] sz (S := va_W) (fun (r : Int32) (u : va_W) => (1 = r ∧ u = [])) (fun u => u) 0 0 := by
  refine rc_ini (cc := cX7_is) (maxL := 3) (ret := (some FieldType.boolean)) (by decide) rfl (Nat.le_of_ble_eq_true rfl) ?_
  intro p e s m args below meth c ls A hx hb hr hml _ hown hlocks hin hA hAm hw hl
  have hown : s.vm.findClass RX7 = some m.cls := hown
  have hl : lv_has ls 3 [(0, .int 1), (1, .int 0), (2, .int 3)] := hl
  refine lv_iload_n hx hb dX7_is_0 rfl (lv_at hl 0 rfl) ?_
  refine lv_iload_n hx hb dX7_is_1 rfl (lv_at hl 1 rfl) ?_
  refine lv_icmp_lt (tgt := 14) hx hb dX7_is_2 (by decide) (fun c9 => absurd c9 (by decide)) (fun _ => ?_)
  refine lv_iload_n hx hb dX7_is_5 rfl (lv_at hl 0 rfl) ?_
  refine lv_iload_n hx hb dX7_is_6 rfl (lv_at hl 2 rfl) ?_
  refine lv_icmp_gt (tgt := 14) hx hb dX7_is_7 (by decide) (fun c9 => absurd c9 (by decide)) (fun _ => ?_)
  refine lv_iconst (v := 1) hx hb dX7_is_10 (by decide) ?_
  refine lv_goto (tgt := 15) hx hb dX7_is_11 (by decide) ?_
  exact rc_zret (v := 1) hx hb hr hlocks hw rfl [] (⟨rfl, rfl⟩) [] rfl (by decide) (Nat.le_of_ble_eq_true rfl) (Nat.le_of_ble_eq_true rfl) dX7_is_15
set_option maxHeartbeats 4000000 in
set_option maxRecDepth 100000 in
theorem cw_X7_ofCaseNow_7 (l : Launch) (E : rc_E) (sz : Nat) (h0 : Nat) (h1 : Nat) (h2 : Nat) (h3 : Nat) (h4 : Nat) (h5 : Nat) : rc_Mi l yX7_ofCaseNow [Cond.code yX7_ofCaseNow cX7_ofCaseNow 2 (some FieldType.int)] { frames := 0, cells := 0, slots := 0, locals := 0 } E [.ref h0, .int 1] [(h0, .inr (12, [.int 0, .ref h1, .ref h2, .ref h3, .ref h4, .ref h5, .int 1, .int 3, .int 50, .int (-1), .int (-1), .int (-1), .int (-1), .int 0, .int 100, .int 1000, .long 0]))] sz (S := va_W) (fun (r : Int32) (u : va_W) => ((-1) = r ∧ u = [(h0, .inr (12, [.int 0, .ref h1, .ref h2, .ref h3, .ref h4, .ref h5, .int 1, .int 3, .int 50, .int (-1), .int (-1), .int (-1), .int (-1), .int 0, .int 100, .int 1000, .long 0]))])) (fun u => u) 0 0 := by
  refine rc_ini (cc := cX7_ofCaseNow) (maxL := 2) (ret := (some FieldType.int)) (by decide) rfl (Nat.le_of_ble_eq_true rfl) ?_
  intro p e s m args below meth c ls A hx hb hr hml _ hown hlocks hin hA hAm hw hl
  have hown : s.vm.findClass RX7 = some m.cls := hown
  have hl : lv_has ls 2 [(0, .ref h0), (1, .int 1)] := hl
  refine lv_iload_n hx hb dX7_ofCaseNow_0 rfl (lv_at hl 1 rfl) ?_
  refine lv_if_ne (tgt := 11) hx hb dX7_ofCaseNow_1 (by decide) (fun _ => ?_) (fun c9 => absurd c9 (by decide))
  refine lv_iload_n hx hb dX7_ofCaseNow_11 rfl (lv_at hl 1 rfl) ?_
  refine lv_iconst (v := 1) hx hb dX7_ofCaseNow_12 (by decide) ?_
  refine lv_icmp_ne (tgt := 23) hx hb dX7_ofCaseNow_13 (by decide) (fun c9 => absurd (by decide) c9) (fun _ => ?_)
  refine lv_aload_n hx hb dX7_ofCaseNow_16 rfl (lv_at hl 0 rfl) ?_
  refine rc_get (v := .int (-1)) hx hb hown hAm hw lyX7 0 rfl rfl 10 (by decide) qw_870 (fun _ h9 => h9) rfl dX7_ofCaseNow_17 ?_
  refine lv_goto (tgt := 39) hx hb dX7_ofCaseNow_20 (by decide) ?_
  exact rc_iret (v := (-1)) hx hb hr hlocks hw [(h0, .inr (12, [.int 0, .ref h1, .ref h2, .ref h3, .ref h4, .ref h5, .int 1, .int 3, .int 50, .int (-1), .int (-1), .int (-1), .int (-1), .int 0, .int 100, .int 1000, .long 0]))] (⟨rfl, rfl⟩) [0] rfl (by decide) (Nat.le_of_ble_eq_true rfl) (Nat.le_of_ble_eq_true rfl) dX7_ofCaseNow_39
set_option maxHeartbeats 4000000 in
set_option maxRecDepth 100000 in
theorem cw_X7_ofCase_3 (l : Launch) (E : rc_E) (sz : Nat) (h0 : Nat) (h1 : Nat) (h2 : Nat) (h3 : Nat) (h4 : Nat) (h5 : Nat) : rc_Mi l yX7_ofCase [Cond.code yX7_ofCase cX7_ofCase 2 (some FieldType.int)] { frames := 1, cells := 0, slots := 0, locals := 22 } E [.ref h0, .int 1] [(h0, .inr (12, [.int 0, .ref h1, .ref h2, .ref h3, .ref h4, .ref h5, .int 1, .int 3, .int 50, .int (-1), .int (-1), .int (-1), .int (-1), .int 0, .int 100, .int 1000, .long 0]))] sz (S := va_W) (fun (r : Int32) (u : va_W) => ((-1) = r ∧ u = [(h0, .inr (12, [.int 0, .ref h1, .ref h2, .ref h3, .ref h4, .ref h5, .int 1, .int 3, .int 50, .int (-1), .int (-1), .int (-1), .int (-1), .int 0, .int 100, .int 1000, .long 0]))])) (fun u => u) 0 0 := by
  refine rc_ini (cc := cX7_ofCase) (maxL := 2) (ret := (some FieldType.int)) (by decide) rfl (Nat.le_of_ble_eq_true rfl) ?_
  intro p e s m args below meth c ls A hx hb hr hml _ hown hlocks hin hA hAm hw hl
  have hown : s.vm.findClass RX7 = some m.cls := hown
  have hl : lv_has ls 2 [(0, .ref h0), (1, .int 1)] := hl
  refine lv_aload_n hx hb dX7_ofCase_0 rfl (lv_at hl 0 rfl) ?_
  refine lv_iconst (v := 0) hx hb dX7_ofCase_1 (by decide) ?_
  refine rc_put hx hb hown hAm hw lyX7 tyX7 tyX7_ok nmX7 0 rfl rfl 0 (by decide) qw_860 (fun _ h9 => h9) rfl rfl (by decide +kernel) (Nat.le_of_ble_eq_true rfl) [(h0, .inr (12, [.int 0, .ref h1, .ref h2, .ref h3, .ref h4, .ref h5, .int 1, .int 3, .int 50, .int (-1), .int (-1), .int (-1), .int (-1), .int 0, .int 100, .int 1000, .long 0]))] rfl dX7_ofCase_2 (fun H locs hw => ?_)
  refine lv_iload_n hx hb dX7_ofCase_5 rfl (lv_at hl 1 rfl) ?_
  refine lv_iconst (v := 0) hx hb dX7_ofCase_6 (by decide) ?_
  refine lv_iconst (v := 3) hx hb dX7_ofCase_7 (by decide) ?_
  refine rc_calli (wr := [(h0, .inr (12, [.int 0, .ref h1, .ref h2, .ref h3, .ref h4, .ref h5, .int 1, .int 3, .int 50, .int (-1), .int (-1), .int (-1), .int (-1), .int 0, .int 100, .int 1000, .long 0]))]) (va_runS (As := [.int 1, .int 0, .int 3]) (rest := []) (Ts := []) ⟨hx, hb, hml, hown, fun _ h9 => absurd h9 List.not_mem_nil⟩ (cw_X7_is_67 l E _) (rc_cwS hAm qw_921 qw_13 qw_923 qw_922 rfl rfl hd_X7_is ⟨Nat.le_of_ble_eq_true rfl, Nat.le_of_ble_eq_true rfl⟩) (rc_preS hAm hA hw [] rfl rfl) rfl rfl hl.1 rfl (lv_room (Nat.le_of_ble_eq_true rfl)) dX7_ofCase_8 ⟨Nat.le_of_ble_eq_true rfl, Nat.le_of_ble_eq_true rfl⟩) hA hw [] [0] rfl rfl rfl (by decide) (fun r_1 u_2 H locs hp hw => ?_)
  obtain ⟨rfl, rfl⟩ := hp
  have hw : rc_W E A s [(h0, .inr (12, [.int 0, .ref h1, .ref h2, .ref h3, .ref h4, .ref h5, .int 1, .int 3, .int 50, .int (-1), .int (-1), .int (-1), .int (-1), .int 0, .int 100, .int 1000, .long 0]))] H locs := hw
  refine lv_if_eq (tgt := 22) hx hb dX7_ofCase_11 (by decide) (fun c9 => absurd c9 (by decide)) (fun _ => ?_)
  refine lv_aload_n hx hb dX7_ofCase_14 rfl (lv_at hl 0 rfl) ?_
  refine lv_iload_n hx hb dX7_ofCase_15 rfl (lv_at hl 1 rfl) ?_
  refine rc_calli (wr := []) (va_runV (As := [.int 1]) (rest := []) (Ts := []) ⟨hx, hb, hml, hown, fun _ h9 => absurd h9 List.not_mem_nil⟩ (cw_X7_ofCaseNow_7 l E _ h0 h1 h2 h3 h4 h5) (rc_cwV hAm qw_1405 qw_13 qw_1408 qw_1407 qs_66 rfl rfl hd_X7_ofCaseNow ⟨Nat.le_of_ble_eq_true rfl, Nat.le_of_ble_eq_true rfl⟩) (rc_preV hAm hA hw [0] rfl rfl 0 rfl (q := vwCl[12]) rfl) rfl rfl hl.1 rfl (lv_room (Nat.le_of_ble_eq_true rfl)) dX7_ofCase_16 ⟨Nat.le_of_ble_eq_true rfl, Nat.le_of_ble_eq_true rfl⟩) hA hw [0] [] rfl rfl rfl (by decide) (fun r_3 u_4 H locs hp hw => ?_)
  obtain ⟨rfl, rfl⟩ := hp
  have hw : rc_W E A s [(h0, .inr (12, [.int 0, .ref h1, .ref h2, .ref h3, .ref h4, .ref h5, .int 1, .int 3, .int 50, .int (-1), .int (-1), .int (-1), .int (-1), .int 0, .int 100, .int 1000, .long 0]))] H locs := hw
  refine lv_goto (tgt := 27) hx hb dX7_ofCase_19 (by decide) ?_
  exact rc_iret (v := (-1)) hx hb hr hlocks hw [(h0, .inr (12, [.int 0, .ref h1, .ref h2, .ref h3, .ref h4, .ref h5, .int 1, .int 3, .int 50, .int (-1), .int (-1), .int (-1), .int (-1), .int 0, .int 100, .int 1000, .long 0]))] (⟨rfl, rfl⟩) [0] rfl (by decide) (Nat.le_of_ble_eq_true rfl) (Nat.le_of_ble_eq_true rfl) dX7_ofCase_27
set_option maxHeartbeats 4000000 in
set_option maxRecDepth 100000 in
theorem cw_X7_is_68 (l : Launch) (E : rc_E) (sz : Nat) : rc_Mi l yX7_is [Cond.code yX7_is cX7_is 3 (some FieldType.boolean)] { frames := 0, cells := 0, slots := 0, locals := 0 } E [.int 2, .int 0, .int 3] [] sz (S := va_W) (fun (r : Int32) (u : va_W) => (1 = r ∧ u = [])) (fun u => u) 0 0 := by
  refine rc_ini (cc := cX7_is) (maxL := 3) (ret := (some FieldType.boolean)) (by decide) rfl (Nat.le_of_ble_eq_true rfl) ?_
  intro p e s m args below meth c ls A hx hb hr hml _ hown hlocks hin hA hAm hw hl
  have hown : s.vm.findClass RX7 = some m.cls := hown
  have hl : lv_has ls 3 [(0, .int 2), (1, .int 0), (2, .int 3)] := hl
  refine lv_iload_n hx hb dX7_is_0 rfl (lv_at hl 0 rfl) ?_
  refine lv_iload_n hx hb dX7_is_1 rfl (lv_at hl 1 rfl) ?_
  refine lv_icmp_lt (tgt := 14) hx hb dX7_is_2 (by decide) (fun c9 => absurd c9 (by decide)) (fun _ => ?_)
  refine lv_iload_n hx hb dX7_is_5 rfl (lv_at hl 0 rfl) ?_
  refine lv_iload_n hx hb dX7_is_6 rfl (lv_at hl 2 rfl) ?_
  refine lv_icmp_gt (tgt := 14) hx hb dX7_is_7 (by decide) (fun c9 => absurd c9 (by decide)) (fun _ => ?_)
  refine lv_iconst (v := 1) hx hb dX7_is_10 (by decide) ?_
  refine lv_goto (tgt := 15) hx hb dX7_is_11 (by decide) ?_
  exact rc_zret (v := 1) hx hb hr hlocks hw rfl [] (⟨rfl, rfl⟩) [] rfl (by decide) (Nat.le_of_ble_eq_true rfl) (Nat.le_of_ble_eq_true rfl) dX7_is_15
set_option maxHeartbeats 4000000 in
set_option maxRecDepth 100000 in
theorem cw_X7_ofCaseNow_8 (l : Launch) (E : rc_E) (sz : Nat) (h0 : Nat) (h1 : Nat) (h2 : Nat) (h3 : Nat) (h4 : Nat) (h5 : Nat) : rc_Mi l yX7_ofCaseNow [Cond.code yX7_ofCaseNow cX7_ofCaseNow 2 (some FieldType.int)] { frames := 0, cells := 0, slots := 0, locals := 0 } E [.ref h0, .int 2] [(h0, .inr (12, [.int 0, .ref h1, .ref h2, .ref h3, .ref h4, .ref h5, .int 1, .int 3, .int 50, .int (-1), .int (-1), .int (-1), .int (-1), .int 0, .int 100, .int 1000, .long 0]))] sz (S := va_W) (fun (r : Int32) (u : va_W) => ((-1) = r ∧ u = [(h0, .inr (12, [.int 0, .ref h1, .ref h2, .ref h3, .ref h4, .ref h5, .int 1, .int 3, .int 50, .int (-1), .int (-1), .int (-1), .int (-1), .int 0, .int 100, .int 1000, .long 0]))])) (fun u => u) 0 0 := by
  refine rc_ini (cc := cX7_ofCaseNow) (maxL := 2) (ret := (some FieldType.int)) (by decide) rfl (Nat.le_of_ble_eq_true rfl) ?_
  intro p e s m args below meth c ls A hx hb hr hml _ hown hlocks hin hA hAm hw hl
  have hown : s.vm.findClass RX7 = some m.cls := hown
  have hl : lv_has ls 2 [(0, .ref h0), (1, .int 2)] := hl
  refine lv_iload_n hx hb dX7_ofCaseNow_0 rfl (lv_at hl 1 rfl) ?_
  refine lv_if_ne (tgt := 11) hx hb dX7_ofCaseNow_1 (by decide) (fun _ => ?_) (fun c9 => absurd c9 (by decide))
  refine lv_iload_n hx hb dX7_ofCaseNow_11 rfl (lv_at hl 1 rfl) ?_
  refine lv_iconst (v := 1) hx hb dX7_ofCaseNow_12 (by decide) ?_
  refine lv_icmp_ne (tgt := 23) hx hb dX7_ofCaseNow_13 (by decide) (fun _ => ?_) (fun c9 => absurd c9 (by decide))
  refine lv_iload_n hx hb dX7_ofCaseNow_23 rfl (lv_at hl 1 rfl) ?_
  refine lv_iconst (v := 2) hx hb dX7_ofCaseNow_24 (by decide) ?_
  refine lv_icmp_ne (tgt := 35) hx hb dX7_ofCaseNow_25 (by decide) (fun c9 => absurd (by decide) c9) (fun _ => ?_)
  refine lv_aload_n hx hb dX7_ofCaseNow_28 rfl (lv_at hl 0 rfl) ?_
  refine rc_get (v := .int (-1)) hx hb hown hAm hw lyX7 0 rfl rfl 11 (by decide) qw_871 (fun _ h9 => h9) rfl dX7_ofCaseNow_29 ?_
  refine lv_goto (tgt := 39) hx hb dX7_ofCaseNow_32 (by decide) ?_
  exact rc_iret (v := (-1)) hx hb hr hlocks hw [(h0, .inr (12, [.int 0, .ref h1, .ref h2, .ref h3, .ref h4, .ref h5, .int 1, .int 3, .int 50, .int (-1), .int (-1), .int (-1), .int (-1), .int 0, .int 100, .int 1000, .long 0]))] (⟨rfl, rfl⟩) [0] rfl (by decide) (Nat.le_of_ble_eq_true rfl) (Nat.le_of_ble_eq_true rfl) dX7_ofCaseNow_39
set_option maxHeartbeats 4000000 in
set_option maxRecDepth 100000 in
theorem cw_X7_ofCase_4 (l : Launch) (E : rc_E) (sz : Nat) (h0 : Nat) (h1 : Nat) (h2 : Nat) (h3 : Nat) (h4 : Nat) (h5 : Nat) : rc_Mi l yX7_ofCase [Cond.code yX7_ofCase cX7_ofCase 2 (some FieldType.int)] { frames := 1, cells := 0, slots := 0, locals := 22 } E [.ref h0, .int 2] [(h0, .inr (12, [.int 0, .ref h1, .ref h2, .ref h3, .ref h4, .ref h5, .int 1, .int 3, .int 50, .int (-1), .int (-1), .int (-1), .int (-1), .int 0, .int 100, .int 1000, .long 0]))] sz (S := va_W) (fun (r : Int32) (u : va_W) => ((-1) = r ∧ u = [(h0, .inr (12, [.int 0, .ref h1, .ref h2, .ref h3, .ref h4, .ref h5, .int 1, .int 3, .int 50, .int (-1), .int (-1), .int (-1), .int (-1), .int 0, .int 100, .int 1000, .long 0]))])) (fun u => u) 0 0 := by
  refine rc_ini (cc := cX7_ofCase) (maxL := 2) (ret := (some FieldType.int)) (by decide) rfl (Nat.le_of_ble_eq_true rfl) ?_
  intro p e s m args below meth c ls A hx hb hr hml _ hown hlocks hin hA hAm hw hl
  have hown : s.vm.findClass RX7 = some m.cls := hown
  have hl : lv_has ls 2 [(0, .ref h0), (1, .int 2)] := hl
  refine lv_aload_n hx hb dX7_ofCase_0 rfl (lv_at hl 0 rfl) ?_
  refine lv_iconst (v := 0) hx hb dX7_ofCase_1 (by decide) ?_
  refine rc_put hx hb hown hAm hw lyX7 tyX7 tyX7_ok nmX7 0 rfl rfl 0 (by decide) qw_860 (fun _ h9 => h9) rfl rfl (by decide +kernel) (Nat.le_of_ble_eq_true rfl) [(h0, .inr (12, [.int 0, .ref h1, .ref h2, .ref h3, .ref h4, .ref h5, .int 1, .int 3, .int 50, .int (-1), .int (-1), .int (-1), .int (-1), .int 0, .int 100, .int 1000, .long 0]))] rfl dX7_ofCase_2 (fun H locs hw => ?_)
  refine lv_iload_n hx hb dX7_ofCase_5 rfl (lv_at hl 1 rfl) ?_
  refine lv_iconst (v := 0) hx hb dX7_ofCase_6 (by decide) ?_
  refine lv_iconst (v := 3) hx hb dX7_ofCase_7 (by decide) ?_
  refine rc_calli (wr := [(h0, .inr (12, [.int 0, .ref h1, .ref h2, .ref h3, .ref h4, .ref h5, .int 1, .int 3, .int 50, .int (-1), .int (-1), .int (-1), .int (-1), .int 0, .int 100, .int 1000, .long 0]))]) (va_runS (As := [.int 2, .int 0, .int 3]) (rest := []) (Ts := []) ⟨hx, hb, hml, hown, fun _ h9 => absurd h9 List.not_mem_nil⟩ (cw_X7_is_68 l E _) (rc_cwS hAm qw_921 qw_13 qw_923 qw_922 rfl rfl hd_X7_is ⟨Nat.le_of_ble_eq_true rfl, Nat.le_of_ble_eq_true rfl⟩) (rc_preS hAm hA hw [] rfl rfl) rfl rfl hl.1 rfl (lv_room (Nat.le_of_ble_eq_true rfl)) dX7_ofCase_8 ⟨Nat.le_of_ble_eq_true rfl, Nat.le_of_ble_eq_true rfl⟩) hA hw [] [0] rfl rfl rfl (by decide) (fun r_1 u_2 H locs hp hw => ?_)
  obtain ⟨rfl, rfl⟩ := hp
  have hw : rc_W E A s [(h0, .inr (12, [.int 0, .ref h1, .ref h2, .ref h3, .ref h4, .ref h5, .int 1, .int 3, .int 50, .int (-1), .int (-1), .int (-1), .int (-1), .int 0, .int 100, .int 1000, .long 0]))] H locs := hw
  refine lv_if_eq (tgt := 22) hx hb dX7_ofCase_11 (by decide) (fun c9 => absurd c9 (by decide)) (fun _ => ?_)
  refine lv_aload_n hx hb dX7_ofCase_14 rfl (lv_at hl 0 rfl) ?_
  refine lv_iload_n hx hb dX7_ofCase_15 rfl (lv_at hl 1 rfl) ?_
  refine rc_calli (wr := []) (va_runV (As := [.int 2]) (rest := []) (Ts := []) ⟨hx, hb, hml, hown, fun _ h9 => absurd h9 List.not_mem_nil⟩ (cw_X7_ofCaseNow_8 l E _ h0 h1 h2 h3 h4 h5) (rc_cwV hAm qw_1405 qw_13 qw_1408 qw_1407 qs_66 rfl rfl hd_X7_ofCaseNow ⟨Nat.le_of_ble_eq_true rfl, Nat.le_of_ble_eq_true rfl⟩) (rc_preV hAm hA hw [0] rfl rfl 0 rfl (q := vwCl[12]) rfl) rfl rfl hl.1 rfl (lv_room (Nat.le_of_ble_eq_true rfl)) dX7_ofCase_16 ⟨Nat.le_of_ble_eq_true rfl, Nat.le_of_ble_eq_true rfl⟩) hA hw [0] [] rfl rfl rfl (by decide) (fun r_3 u_4 H locs hp hw => ?_)
  obtain ⟨rfl, rfl⟩ := hp
  have hw : rc_W E A s [(h0, .inr (12, [.int 0, .ref h1, .ref h2, .ref h3, .ref h4, .ref h5, .int 1, .int 3, .int 50, .int (-1), .int (-1), .int (-1), .int (-1), .int 0, .int 100, .int 1000, .long 0]))] H locs := hw
  refine lv_goto (tgt := 27) hx hb dX7_ofCase_19 (by decide) ?_
  exact rc_iret (v := (-1)) hx hb hr hlocks hw [(h0, .inr (12, [.int 0, .ref h1, .ref h2, .ref h3, .ref h4, .ref h5, .int 1, .int 3, .int 50, .int (-1), .int (-1), .int (-1), .int (-1), .int 0, .int 100, .int 1000, .long 0]))] (⟨rfl, rfl⟩) [0] rfl (by decide) (Nat.le_of_ble_eq_true rfl) (Nat.le_of_ble_eq_true rfl) dX7_ofCase_27
set_option maxHeartbeats 4000000 in
set_option maxRecDepth 100000 in
theorem cw_X7_is_69 (l : Launch) (E : rc_E) (sz : Nat) : rc_Mi l yX7_is [Cond.code yX7_is cX7_is 3 (some FieldType.boolean)] { frames := 0, cells := 0, slots := 0, locals := 0 } E [.int 3, .int 0, .int 3] [] sz (S := va_W) (fun (r : Int32) (u : va_W) => (1 = r ∧ u = [])) (fun u => u) 0 0 := by
  refine rc_ini (cc := cX7_is) (maxL := 3) (ret := (some FieldType.boolean)) (by decide) rfl (Nat.le_of_ble_eq_true rfl) ?_
  intro p e s m args below meth c ls A hx hb hr hml _ hown hlocks hin hA hAm hw hl
  have hown : s.vm.findClass RX7 = some m.cls := hown
  have hl : lv_has ls 3 [(0, .int 3), (1, .int 0), (2, .int 3)] := hl
  refine lv_iload_n hx hb dX7_is_0 rfl (lv_at hl 0 rfl) ?_
  refine lv_iload_n hx hb dX7_is_1 rfl (lv_at hl 1 rfl) ?_
  refine lv_icmp_lt (tgt := 14) hx hb dX7_is_2 (by decide) (fun c9 => absurd c9 (by decide)) (fun _ => ?_)
  refine lv_iload_n hx hb dX7_is_5 rfl (lv_at hl 0 rfl) ?_
  refine lv_iload_n hx hb dX7_is_6 rfl (lv_at hl 2 rfl) ?_
  refine lv_icmp_gt (tgt := 14) hx hb dX7_is_7 (by decide) (fun c9 => absurd c9 (by decide)) (fun _ => ?_)
  refine lv_iconst (v := 1) hx hb dX7_is_10 (by decide) ?_
  refine lv_goto (tgt := 15) hx hb dX7_is_11 (by decide) ?_
  exact rc_zret (v := 1) hx hb hr hlocks hw rfl [] (⟨rfl, rfl⟩) [] rfl (by decide) (Nat.le_of_ble_eq_true rfl) (Nat.le_of_ble_eq_true rfl) dX7_is_15
set_option maxHeartbeats 4000000 in
set_option maxRecDepth 100000 in
theorem cw_X7_ofCaseNow_9 (l : Launch) (E : rc_E) (sz : Nat) (h0 : Nat) (h1 : Nat) (h2 : Nat) (h3 : Nat) (h4 : Nat) (h5 : Nat) : rc_Mi l yX7_ofCaseNow [Cond.code yX7_ofCaseNow cX7_ofCaseNow 2 (some FieldType.int)] { frames := 0, cells := 0, slots := 0, locals := 0 } E [.ref h0, .int 3] [(h0, .inr (12, [.int 0, .ref h1, .ref h2, .ref h3, .ref h4, .ref h5, .int 1, .int 3, .int 50, .int (-1), .int (-1), .int (-1), .int (-1), .int 0, .int 100, .int 1000, .long 0]))] sz (S := va_W) (fun (r : Int32) (u : va_W) => ((-1) = r ∧ u = [(h0, .inr (12, [.int 0, .ref h1, .ref h2, .ref h3, .ref h4, .ref h5, .int 1, .int 3, .int 50, .int (-1), .int (-1), .int (-1), .int (-1), .int 0, .int 100, .int 1000, .long 0]))])) (fun u => u) 0 0 := by
  refine rc_ini (cc := cX7_ofCaseNow) (maxL := 2) (ret := (some FieldType.int)) (by decide) rfl (Nat.le_of_ble_eq_true rfl) ?_
  intro p e s m args below meth c ls A hx hb hr hml _ hown hlocks hin hA hAm hw hl
  have hown : s.vm.findClass RX7 = some m.cls := hown
  have hl : lv_has ls 2 [(0, .ref h0), (1, .int 3)] := hl
  refine lv_iload_n hx hb dX7_ofCaseNow_0 rfl (lv_at hl 1 rfl) ?_
  refine lv_if_ne (tgt := 11) hx hb dX7_ofCaseNow_1 (by decide) (fun _ => ?_) (fun c9 => absurd c9 (by decide))
  refine lv_iload_n hx hb dX7_ofCaseNow_11 rfl (lv_at hl 1 rfl) ?_
  refine lv_iconst (v := 1) hx hb dX7_ofCaseNow_12 (by decide) ?_
  refine lv_icmp_ne (tgt := 23) hx hb dX7_ofCaseNow_13 (by decide) (fun _ => ?_) (fun c9 => absurd c9 (by decide))
  refine lv_iload_n hx hb dX7_ofCaseNow_23 rfl (lv_at hl 1 rfl) ?_
  refine lv_iconst (v := 2) hx hb dX7_ofCaseNow_24 (by decide) ?_
  refine lv_icmp_ne (tgt := 35) hx hb dX7_ofCaseNow_25 (by decide) (fun _ => ?_) (fun c9 => absurd c9 (by decide))
  refine lv_aload_n hx hb dX7_ofCaseNow_35 rfl (lv_at hl 0 rfl) ?_
  refine rc_get (v := .int (-1)) hx hb hown hAm hw lyX7 0 rfl rfl 12 (by decide) qw_872 (fun _ h9 => h9) rfl dX7_ofCaseNow_36 ?_
  exact rc_iret (v := (-1)) hx hb hr hlocks hw [(h0, .inr (12, [.int 0, .ref h1, .ref h2, .ref h3, .ref h4, .ref h5, .int 1, .int 3, .int 50, .int (-1), .int (-1), .int (-1), .int (-1), .int 0, .int 100, .int 1000, .long 0]))] (⟨rfl, rfl⟩) [0] rfl (by decide) (Nat.le_of_ble_eq_true rfl) (Nat.le_of_ble_eq_true rfl) dX7_ofCaseNow_39
set_option maxHeartbeats 4000000 in
set_option maxRecDepth 100000 in
theorem cw_X7_ofCase_5 (l : Launch) (E : rc_E) (sz : Nat) (h0 : Nat) (h1 : Nat) (h2 : Nat) (h3 : Nat) (h4 : Nat) (h5 : Nat) : rc_Mi l yX7_ofCase [Cond.code yX7_ofCase cX7_ofCase 2 (some FieldType.int)] { frames := 1, cells := 0, slots := 0, locals := 22 } E [.ref h0, .int 3] [(h0, .inr (12, [.int 0, .ref h1, .ref h2, .ref h3, .ref h4, .ref h5, .int 1, .int 3, .int 50, .int (-1), .int (-1), .int (-1), .int (-1), .int 0, .int 100, .int 1000, .long 0]))] sz (S := va_W) (fun (r : Int32) (u : va_W) => ((-1) = r ∧ u = [(h0, .inr (12, [.int 0, .ref h1, .ref h2, .ref h3, .ref h4, .ref h5, .int 1, .int 3, .int 50, .int (-1), .int (-1), .int (-1), .int (-1), .int 0, .int 100, .int 1000, .long 0]))])) (fun u => u) 0 0 := by
  refine rc_ini (cc := cX7_ofCase) (maxL := 2) (ret := (some FieldType.int)) (by decide) rfl (Nat.le_of_ble_eq_true rfl) ?_
  intro p e s m args below meth c ls A hx hb hr hml _ hown hlocks hin hA hAm hw hl
  have hown : s.vm.findClass RX7 = some m.cls := hown
  have hl : lv_has ls 2 [(0, .ref h0), (1, .int 3)] := hl
  refine lv_aload_n hx hb dX7_ofCase_0 rfl (lv_at hl 0 rfl) ?_
  refine lv_iconst (v := 0) hx hb dX7_ofCase_1 (by decide) ?_
  refine rc_put hx hb hown hAm hw lyX7 tyX7 tyX7_ok nmX7 0 rfl rfl 0 (by decide) qw_860 (fun _ h9 => h9) rfl rfl (by decide +kernel) (Nat.le_of_ble_eq_true rfl) [(h0, .inr (12, [.int 0, .ref h1, .ref h2, .ref h3, .ref h4, .ref h5, .int 1, .int 3, .int 50, .int (-1), .int (-1), .int (-1), .int (-1), .int 0, .int 100, .int 1000, .long 0]))] rfl dX7_ofCase_2 (fun H locs hw => ?_)
  refine lv_iload_n hx hb dX7_ofCase_5 rfl (lv_at hl 1 rfl) ?_
  refine lv_iconst (v := 0) hx hb dX7_ofCase_6 (by decide) ?_
  refine lv_iconst (v := 3) hx hb dX7_ofCase_7 (by decide) ?_
  refine rc_calli (wr := [(h0, .inr (12, [.int 0, .ref h1, .ref h2, .ref h3, .ref h4, .ref h5, .int 1, .int 3, .int 50, .int (-1), .int (-1), .int (-1), .int (-1), .int 0, .int 100, .int 1000, .long 0]))]) (va_runS (As := [.int 3, .int 0, .int 3]) (rest := []) (Ts := []) ⟨hx, hb, hml, hown, fun _ h9 => absurd h9 List.not_mem_nil⟩ (cw_X7_is_69 l E _) (rc_cwS hAm qw_921 qw_13 qw_923 qw_922 rfl rfl hd_X7_is ⟨Nat.le_of_ble_eq_true rfl, Nat.le_of_ble_eq_true rfl⟩) (rc_preS hAm hA hw [] rfl rfl) rfl rfl hl.1 rfl (lv_room (Nat.le_of_ble_eq_true rfl)) dX7_ofCase_8 ⟨Nat.le_of_ble_eq_true rfl, Nat.le_of_ble_eq_true rfl⟩) hA hw [] [0] rfl rfl rfl (by decide) (fun r_1 u_2 H locs hp hw => ?_)
  obtain ⟨rfl, rfl⟩ := hp
  have hw : rc_W E A s [(h0, .inr (12, [.int 0, .ref h1, .ref h2, .ref h3, .ref h4, .ref h5, .int 1, .int 3, .int 50, .int (-1), .int (-1), .int (-1), .int (-1), .int 0, .int 100, .int 1000, .long 0]))] H locs := hw
  refine lv_if_eq (tgt := 22) hx hb dX7_ofCase_11 (by decide) (fun c9 => absurd c9 (by decide)) (fun _ => ?_)
  refine lv_aload_n hx hb dX7_ofCase_14 rfl (lv_at hl 0 rfl) ?_
  refine lv_iload_n hx hb dX7_ofCase_15 rfl (lv_at hl 1 rfl) ?_
  refine rc_calli (wr := []) (va_runV (As := [.int 3]) (rest := []) (Ts := []) ⟨hx, hb, hml, hown, fun _ h9 => absurd h9 List.not_mem_nil⟩ (cw_X7_ofCaseNow_9 l E _ h0 h1 h2 h3 h4 h5) (rc_cwV hAm qw_1405 qw_13 qw_1408 qw_1407 qs_66 rfl rfl hd_X7_ofCaseNow ⟨Nat.le_of_ble_eq_true rfl, Nat.le_of_ble_eq_true rfl⟩) (rc_preV hAm hA hw [0] rfl rfl 0 rfl (q := vwCl[12]) rfl) rfl rfl hl.1 rfl (lv_room (Nat.le_of_ble_eq_true rfl)) dX7_ofCase_16 ⟨Nat.le_of_ble_eq_true rfl, Nat.le_of_ble_eq_true rfl⟩) hA hw [0] [] rfl rfl rfl (by decide) (fun r_3 u_4 H locs hp hw => ?_)
  obtain ⟨rfl, rfl⟩ := hp
  have hw : rc_W E A s [(h0, .inr (12, [.int 0, .ref h1, .ref h2, .ref h3, .ref h4, .ref h5, .int 1, .int 3, .int 50, .int (-1), .int (-1), .int (-1), .int (-1), .int 0, .int 100, .int 1000, .long 0]))] H locs := hw
  refine lv_goto (tgt := 27) hx hb dX7_ofCase_19 (by decide) ?_
  exact rc_iret (v := (-1)) hx hb hr hlocks hw [(h0, .inr (12, [.int 0, .ref h1, .ref h2, .ref h3, .ref h4, .ref h5, .int 1, .int 3, .int 50, .int (-1), .int (-1), .int (-1), .int (-1), .int 0, .int 100, .int 1000, .long 0]))] (⟨rfl, rfl⟩) [0] rfl (by decide) (Nat.le_of_ble_eq_true rfl) (Nat.le_of_ble_eq_true rfl) dX7_ofCase_27
theorem hd_X6_move : yX6_move.cls ≠ "java/lang/invoke/MethodHandle" ∧ yX6_move.cls ≠ "java/lang/invoke/VarHandle" ∧ (parseMethodDescriptor yX6_move.desc).map (fun d => d.parameters.length) = some 0 := by decide +kernel
theorem hd_X7_move : yX7_move.cls ≠ "java/lang/invoke/MethodHandle" ∧ yX7_move.cls ≠ "java/lang/invoke/VarHandle" ∧ (parseMethodDescriptor yX7_move.desc).map (fun d => d.parameters.length) = some 0 := by decide +kernel
theorem hd_L_excuse : yL_excuse.cls ≠ "java/lang/invoke/MethodHandle" ∧ yL_excuse.cls ≠ "java/lang/invoke/VarHandle" ∧ (parseMethodDescriptor yL_excuse.desc).map (fun d => d.parameters.length) = some 4 := by decide +kernel
theorem hd_X7_excuse : yX7_excuse.cls ≠ "java/lang/invoke/MethodHandle" ∧ yX7_excuse.cls ≠ "java/lang/invoke/VarHandle" ∧ (parseMethodDescriptor yX7_excuse.desc).map (fun d => d.parameters.length) = some 2 := by decide +kernel
set_option maxHeartbeats 4000000 in
set_option maxRecDepth 100000 in
theorem cw_X7_excuse_2 (l : Launch) (E : rc_E) (sz : Nat) (h0 : Nat) (x0 : Int32) (h1 : Nat) (h2 : Nat) (h3 : Nat) (h4 : Nat) (h5 : Nat) : rc_Mi l yX7_excuse [Cond.code yX7_excuse cX7_excuse 3 (some FieldType.int)] { frames := 2, cells := 0, slots := 0, locals := 43 } E [.ref h0, .int 0, .int x0] [(h0, .inr (12, [.int 0, .ref h1, .ref h2, .ref h3, .ref h4, .ref h5, .int 1, .int 3, .int 50, .int (-1), .int (-1), .int (-1), .int (-1), .int 0, .int 100, .int 1000, .long 0])), (h4, .inl (E.2.1 3, 40, .inl (fun _ => 0)))] sz (S := va_W) (fun (r : Int32) (u : va_W) => (x0 < 1 ∧ 0 = r ∧ u = [(h0, .inr (12, [.int 2, .ref h1, .ref h2, .ref h3, .ref h4, .ref h5, .int 1, .int 3, .int 50, .int (-1), .int (-1), .int (-1), .int (-1), .int 0, .int 100, .int 1000, .long 0])), (h4, .inl (E.2.1 3, 40, .inl (fun _ => 0)))]) ∨ (¬ x0 < 1 ∧ 100 < x0 ∧ 0 = r ∧ u = [(h0, .inr (12, [.int 2, .ref h1, .ref h2, .ref h3, .ref h4, .ref h5, .int 1, .int 3, .int 50, .int (-1), .int (-1), .int (-1), .int (-1), .int 0, .int 100, .int 1000, .long 0])), (h4, .inl (E.2.1 3, 40, .inl (fun _ => 0)))]) ∨ (¬ x0 < 1 ∧ ¬ 100 < x0 ∧ 0 = r ∧ u = [(h0, .inr (12, [.int 3, .ref h1, .ref h2, .ref h3, .ref h4, .ref h5, .int 1, .int 3, .int 50, .int (-1), .int (-1), .int (-1), .int (-1), .int 0, .int 100, .int 1000, .long 0])), (h4, .inl (E.2.1 3, 40, .inl (fun _ => 0)))])) (fun u => u) 0 0 := by
  refine rc_ini (cc := cX7_excuse) (maxL := 3) (ret := (some FieldType.int)) (by decide) rfl (Nat.le_of_ble_eq_true rfl) ?_
  intro p e s m args below meth c ls A hx hb hr hml _ hown hlocks hin hA hAm hw hl
  have hown : s.vm.findClass RX7 = some m.cls := hown
  have hl : lv_has ls 3 [(0, .ref h0), (1, .int 0), (2, .int x0)] := hl
  refine lv_aload_n hx hb dX7_excuse_0 rfl (lv_at hl 0 rfl) ?_
  refine lv_iconst (v := 0) hx hb dX7_excuse_1 (by decide) ?_
  refine rc_put hx hb hown hAm hw lyX7 tyX7 tyX7_ok nmX7 0 rfl rfl 0 (by decide) qw_860 (fun _ h9 => h9) rfl rfl (by decide +kernel) (Nat.le_of_ble_eq_true rfl) [(h0, .inr (12, [.int 0, .ref h1, .ref h2, .ref h3, .ref h4, .ref h5, .int 1, .int 3, .int 50, .int (-1), .int (-1), .int (-1), .int (-1), .int 0, .int 100, .int 1000, .long 0])), (h4, .inl (E.2.1 3, 40, .inl (fun _ => 0)))] rfl dX7_excuse_2 (fun H locs hw => ?_)
  refine lv_aload_n hx hb dX7_excuse_5 rfl (lv_at hl 0 rfl) ?_
  refine lv_iload_n hx hb dX7_excuse_6 rfl (lv_at hl 1 rfl) ?_
  refine rc_calli (wr := [(h4, .inl (E.2.1 3, 40, .inl (fun _ => 0)))]) (va_runV (As := [.int 0]) (rest := []) (Ts := []) ⟨hx, hb, hml, hown, fun _ h9 => absurd h9 List.not_mem_nil⟩ (cw_X7_isChange_2 l E _ h0 h1 h2 h3 h4 h5) (rc_cwV hAm qw_1353 qw_13 qw_1356 qw_1355 qs_62 rfl rfl hd_X7_isChange ⟨Nat.le_of_ble_eq_true rfl, Nat.le_of_ble_eq_true rfl⟩) (rc_preV hAm hA hw [0] rfl rfl 0 rfl (q := vwCl[12]) rfl) rfl rfl hl.1 rfl (lv_room (Nat.le_of_ble_eq_true rfl)) dX7_excuse_7 ⟨Nat.le_of_ble_eq_true rfl, Nat.le_of_ble_eq_true rfl⟩) hA hw [0] [1] rfl rfl rfl (by decide) (fun r_1 u_2 H locs hp hw => ?_)
  obtain ⟨rfl, rfl⟩ := hp
  have hw : rc_W E A s [(h4, .inl (E.2.1 3, 40, .inl (fun _ => 0))), (h0, .inr (12, [.int 0, .ref h1, .ref h2, .ref h3, .ref h4, .ref h5, .int 1, .int 3, .int 50, .int (-1), .int (-1), .int (-1), .int (-1), .int 0, .int 100, .int 1000, .long 0]))] H locs := hw
  refine lv_if_ne (tgt := 19) hx hb dX7_excuse_10 (by decide) (fun _ => ?_) (fun c9 => absurd c9 (by decide))
  refine lv_iload_n hx hb dX7_excuse_19 rfl (lv_at hl 2 rfl) ?_
  refine lv_iconst (v := 1) hx hb dX7_excuse_20 (by decide) ?_
  refine lv_bipush (v := 100) hx hb dX7_excuse_21 (by decide) ?_
  refine rc_calli (wr := [(h4, .inl (E.2.1 3, 40, .inl (fun _ => 0))), (h0, .inr (12, [.int 0, .ref h1, .ref h2, .ref h3, .ref h4, .ref h5, .int 1, .int 3, .int 50, .int (-1), .int (-1), .int (-1), .int (-1), .int 0, .int 100, .int 1000, .long 0]))]) (va_runS (As := [.int x0, .int 1, .int 100]) (rest := []) (Ts := []) ⟨hx, hb, hml, hown, fun _ h9 => absurd h9 List.not_mem_nil⟩ (cw_X7_is_8 l E _ x0) (rc_cwS hAm qw_921 qw_13 qw_923 qw_922 rfl rfl hd_X7_is ⟨Nat.le_of_ble_eq_true rfl, Nat.le_of_ble_eq_true rfl⟩) (rc_preS hAm hA hw [] rfl rfl) rfl rfl hl.1 rfl (lv_room (Nat.le_of_ble_eq_true rfl)) dX7_excuse_23 ⟨Nat.le_of_ble_eq_true rfl, Nat.le_of_ble_eq_true rfl⟩) hA hw [] [0, 1] rfl rfl rfl (by decide) (fun r_3 u_4 H locs hp hw => ?_)
  rcases hp with ⟨c_5, rfl, rfl⟩ | ⟨c_6, c_7, rfl, rfl⟩ | ⟨c_8, c_9, rfl, rfl⟩
  · have hw : rc_W E A s [(h4, .inl (E.2.1 3, 40, .inl (fun _ => 0))), (h0, .inr (12, [.int 0, .ref h1, .ref h2, .ref h3, .ref h4, .ref h5, .int 1, .int 3, .int 50, .int (-1), .int (-1), .int (-1), .int (-1), .int 0, .int 100, .int 1000, .long 0]))] H locs := hw
    refine lv_if_ne (tgt := 35) hx hb dX7_excuse_26 (by decide) (fun c9 => absurd (by decide) c9) (fun _ => ?_)
    refine lv_aload_n hx hb dX7_excuse_29 rfl (lv_at hl 0 rfl) ?_
    refine lv_iconst (v := 2) hx hb dX7_excuse_30 (by decide) ?_
    refine rc_calli (wr := [(h4, .inl (E.2.1 3, 40, .inl (fun _ => 0)))]) (va_runV (As := [.int 2]) (rest := []) (Ts := []) ⟨hx, hb, hml, hown, fun _ h9 => absurd h9 List.not_mem_nil⟩ (cw_X7_refuse_2 l E _ h0 h1 h2 h3 h4 h5) (rc_cwV hAm qw_924 qw_13 qw_927 qw_926 qs_50 rfl rfl hd_X7_refuse ⟨Nat.le_of_ble_eq_true rfl, Nat.le_of_ble_eq_true rfl⟩) (rc_preV hAm hA hw [1] rfl rfl 1 rfl (q := vwCl[12]) rfl) rfl rfl hl.1 rfl (lv_room (Nat.le_of_ble_eq_true rfl)) dX7_excuse_31 ⟨Nat.le_of_ble_eq_true rfl, Nat.le_of_ble_eq_true rfl⟩) hA hw [1] [0] rfl rfl rfl (by decide) (fun r_10 u_11 H locs hp hw => ?_)
    obtain ⟨rfl, rfl⟩ := hp
    have hw : rc_W E A s [(h4, .inl (E.2.1 3, 40, .inl (fun _ => 0))), (h0, .inr (12, [.int 2, .ref h1, .ref h2, .ref h3, .ref h4, .ref h5, .int 1, .int 3, .int 50, .int (-1), .int (-1), .int (-1), .int (-1), .int 0, .int 100, .int 1000, .long 0]))] H locs := hw
    exact rc_iret (v := 0) hx hb hr hlocks hw [(h0, .inr (12, [.int 2, .ref h1, .ref h2, .ref h3, .ref h4, .ref h5, .int 1, .int 3, .int 50, .int (-1), .int (-1), .int (-1), .int (-1), .int 0, .int 100, .int 1000, .long 0])), (h4, .inl (E.2.1 3, 40, .inl (fun _ => 0)))] (Or.inl ⟨c_5, rfl, rfl⟩) [1, 0] rfl (by decide) (Nat.le_of_ble_eq_true rfl) (Nat.le_of_ble_eq_true rfl) dX7_excuse_34
  · have hw : rc_W E A s [(h4, .inl (E.2.1 3, 40, .inl (fun _ => 0))), (h0, .inr (12, [.int 0, .ref h1, .ref h2, .ref h3, .ref h4, .ref h5, .int 1, .int 3, .int 50, .int (-1), .int (-1), .int (-1), .int (-1), .int 0, .int 100, .int 1000, .long 0]))] H locs := hw
    refine lv_if_ne (tgt := 35) hx hb dX7_excuse_26 (by decide) (fun c9 => absurd (by decide) c9) (fun _ => ?_)
    refine lv_aload_n hx hb dX7_excuse_29 rfl (lv_at hl 0 rfl) ?_
    refine lv_iconst (v := 2) hx hb dX7_excuse_30 (by decide) ?_
    refine rc_calli (wr := [(h4, .inl (E.2.1 3, 40, .inl (fun _ => 0)))]) (va_runV (As := [.int 2]) (rest := []) (Ts := []) ⟨hx, hb, hml, hown, fun _ h9 => absurd h9 List.not_mem_nil⟩ (cw_X7_refuse_2 l E _ h0 h1 h2 h3 h4 h5) (rc_cwV hAm qw_924 qw_13 qw_927 qw_926 qs_50 rfl rfl hd_X7_refuse ⟨Nat.le_of_ble_eq_true rfl, Nat.le_of_ble_eq_true rfl⟩) (rc_preV hAm hA hw [1] rfl rfl 1 rfl (q := vwCl[12]) rfl) rfl rfl hl.1 rfl (lv_room (Nat.le_of_ble_eq_true rfl)) dX7_excuse_31 ⟨Nat.le_of_ble_eq_true rfl, Nat.le_of_ble_eq_true rfl⟩) hA hw [1] [0] rfl rfl rfl (by decide) (fun r_12 u_13 H locs hp hw => ?_)
    obtain ⟨rfl, rfl⟩ := hp
    have hw : rc_W E A s [(h4, .inl (E.2.1 3, 40, .inl (fun _ => 0))), (h0, .inr (12, [.int 2, .ref h1, .ref h2, .ref h3, .ref h4, .ref h5, .int 1, .int 3, .int 50, .int (-1), .int (-1), .int (-1), .int (-1), .int 0, .int 100, .int 1000, .long 0]))] H locs := hw
    exact rc_iret (v := 0) hx hb hr hlocks hw [(h0, .inr (12, [.int 2, .ref h1, .ref h2, .ref h3, .ref h4, .ref h5, .int 1, .int 3, .int 50, .int (-1), .int (-1), .int (-1), .int (-1), .int 0, .int 100, .int 1000, .long 0])), (h4, .inl (E.2.1 3, 40, .inl (fun _ => 0)))] (Or.inr (Or.inl ⟨c_6, c_7, rfl, rfl⟩)) [1, 0] rfl (by decide) (Nat.le_of_ble_eq_true rfl) (Nat.le_of_ble_eq_true rfl) dX7_excuse_34
  · have hw : rc_W E A s [(h4, .inl (E.2.1 3, 40, .inl (fun _ => 0))), (h0, .inr (12, [.int 0, .ref h1, .ref h2, .ref h3, .ref h4, .ref h5, .int 1, .int 3, .int 50, .int (-1), .int (-1), .int (-1), .int (-1), .int 0, .int 100, .int 1000, .long 0]))] H locs := hw
    refine lv_if_ne (tgt := 35) hx hb dX7_excuse_26 (by decide) (fun _ => ?_) (fun c9 => absurd c9 (by decide))
    refine lv_aload_n hx hb dX7_excuse_35 rfl (lv_at hl 0 rfl) ?_
    refine rc_get (v := .ref h4) hx hb hown hAm hw lyX7 1 rfl rfl 4 (by decide) qw_864 (fun _ h9 => h9) rfl dX7_excuse_36 ?_
    refine lv_iload_n hx hb dX7_excuse_39 rfl (lv_at hl 1 rfl) ?_
    refine rc_zald hx hb hAm hw 0 rfl (vp_in_iff.mpr (by decide)) dX7_excuse_40 ?_
    refine rc_topi 0 rfl ?_
    refine lv_if_eq (tgt := 61) hx hb dX7_excuse_41 (by decide) (fun _ => ?_) (fun c9 => absurd (by decide) c9)
    refine lv_aload_n hx hb dX7_excuse_61 rfl (lv_at hl 0 rfl) ?_
    refine lv_iconst (v := 3) hx hb dX7_excuse_62 (by decide) ?_
    refine rc_calli (wr := [(h4, .inl (E.2.1 3, 40, .inl (fun _ => 0)))]) (va_runV (As := [.int 3]) (rest := []) (Ts := []) ⟨hx, hb, hml, hown, fun _ h9 => absurd h9 List.not_mem_nil⟩ (cw_X7_refuse_3 l E _ h0 h1 h2 h3 h4 h5) (rc_cwV hAm qw_924 qw_13 qw_927 qw_926 qs_50 rfl rfl hd_X7_refuse ⟨Nat.le_of_ble_eq_true rfl, Nat.le_of_ble_eq_true rfl⟩) (rc_preV hAm hA hw [1] rfl rfl 1 rfl (q := vwCl[12]) rfl) rfl rfl hl.1 rfl (lv_room (Nat.le_of_ble_eq_true rfl)) dX7_excuse_63 ⟨Nat.le_of_ble_eq_true rfl, Nat.le_of_ble_eq_true rfl⟩) hA hw [1] [0] rfl rfl rfl (by decide) (fun r_14 u_15 H locs hp hw => ?_)
    obtain ⟨rfl, rfl⟩ := hp
    have hw : rc_W E A s [(h4, .inl (E.2.1 3, 40, .inl (fun _ => 0))), (h0, .inr (12, [.int 3, .ref h1, .ref h2, .ref h3, .ref h4, .ref h5, .int 1, .int 3, .int 50, .int (-1), .int (-1), .int (-1), .int (-1), .int 0, .int 100, .int 1000, .long 0]))] H locs := hw
    exact rc_iret (v := 0) hx hb hr hlocks hw [(h0, .inr (12, [.int 3, .ref h1, .ref h2, .ref h3, .ref h4, .ref h5, .int 1, .int 3, .int 50, .int (-1), .int (-1), .int (-1), .int (-1), .int 0, .int 100, .int 1000, .long 0])), (h4, .inl (E.2.1 3, 40, .inl (fun _ => 0)))] (Or.inr (Or.inr ⟨c_8, c_9, rfl, rfl⟩)) [1, 0] rfl (by decide) (Nat.le_of_ble_eq_true rfl) (Nat.le_of_ble_eq_true rfl) dX7_excuse_66
set_option maxHeartbeats 4000000 in
set_option maxRecDepth 100000 in
theorem cw_X7_thrown_44 (l : Launch) (E : rc_E) (sz : Nat) (h0 : Nat) (h1 : Nat) (h2 : Nat) (h3 : Nat) (h4 : Nat) (h5 : Nat) : rc_Mi l yX7_thrown [Cond.code yX7_thrown cX7_thrown 1 (some FieldType.int)] { frames := 0, cells := 0, slots := 0, locals := 0 } E [.ref h0] [(h0, .inr (12, [.int 3, .ref h1, .ref h2, .ref h3, .ref h4, .ref h5, .int 1, .int 3, .int 50, .int (-1), .int (-1), .int (-1), .int (-1), .int 0, .int 100, .int 1000, .long 0]))] sz (S := va_W) (fun (r : Int32) (u : va_W) => (3 = r ∧ u = [(h0, .inr (12, [.int 3, .ref h1, .ref h2, .ref h3, .ref h4, .ref h5, .int 1, .int 3, .int 50, .int (-1), .int (-1), .int (-1), .int (-1), .int 0, .int 100, .int 1000, .long 0]))])) (fun u => u) 0 0 := by
  refine rc_ini (cc := cX7_thrown) (maxL := 1) (ret := (some FieldType.int)) (by decide) rfl (Nat.le_of_ble_eq_true rfl) ?_
  intro p e s m args below meth c ls A hx hb hr hml _ hown hlocks hin hA hAm hw hl
  have hown : s.vm.findClass RX7 = some m.cls := hown
  have hl : lv_has ls 1 [(0, .ref h0)] := hl
  refine lv_aload_n hx hb dX7_thrown_0 rfl (lv_at hl 0 rfl) ?_
  refine rc_get (v := .int 3) hx hb hown hAm hw lyX7 0 rfl rfl 0 (by decide) qw_860 (fun _ h9 => h9) rfl dX7_thrown_1 ?_
  exact rc_iret (v := 3) hx hb hr hlocks hw [(h0, .inr (12, [.int 3, .ref h1, .ref h2, .ref h3, .ref h4, .ref h5, .int 1, .int 3, .int 50, .int (-1), .int (-1), .int (-1), .int (-1), .int 0, .int 100, .int 1000, .long 0]))] (⟨rfl, rfl⟩) [0] rfl (by decide) (Nat.le_of_ble_eq_true rfl) (Nat.le_of_ble_eq_true rfl) dX7_thrown_4
theorem hd_L_budget : yL_budget.cls ≠ "java/lang/invoke/MethodHandle" ∧ yL_budget.cls ≠ "java/lang/invoke/VarHandle" ∧ (parseMethodDescriptor yL_budget.desc).map (fun d => d.parameters.length) = some 3 := by decide +kernel
theorem hd_X7_budget : yX7_budget.cls ≠ "java/lang/invoke/MethodHandle" ∧ yX7_budget.cls ≠ "java/lang/invoke/VarHandle" ∧ (parseMethodDescriptor yX7_budget.desc).map (fun d => d.parameters.length) = some 1 := by decide +kernel
set_option maxHeartbeats 4000000 in
set_option maxRecDepth 100000 in
theorem cw_X7_thrown_45 (l : Launch) (E : rc_E) (sz : Nat) (h0 : Nat) (h1 : Nat) (h2 : Nat) (h3 : Nat) (h4 : Nat) (h5 : Nat) (x0 : Int32) : rc_Mi l yX7_thrown [Cond.code yX7_thrown cX7_thrown 1 (some FieldType.int)] { frames := 0, cells := 0, slots := 0, locals := 0 } E [.ref h0] [(h0, .inr (12, [.int 0, .ref h1, .ref h2, .ref h3, .ref h4, .ref h5, .int 1, .int 3, .int 50, .int (-1), .int (-1), .int (-1), .int (-1), .int 0, .int 100, .int x0, .long 0]))] sz (S := va_W) (fun (r : Int32) (u : va_W) => (0 = r ∧ u = [(h0, .inr (12, [.int 0, .ref h1, .ref h2, .ref h3, .ref h4, .ref h5, .int 1, .int 3, .int 50, .int (-1), .int (-1), .int (-1), .int (-1), .int 0, .int 100, .int x0, .long 0]))])) (fun u => u) 0 0 := by
  refine rc_ini (cc := cX7_thrown) (maxL := 1) (ret := (some FieldType.int)) (by decide) rfl (Nat.le_of_ble_eq_true rfl) ?_
  intro p e s m args below meth c ls A hx hb hr hml _ hown hlocks hin hA hAm hw hl
  have hown : s.vm.findClass RX7 = some m.cls := hown
  have hl : lv_has ls 1 [(0, .ref h0)] := hl
  refine lv_aload_n hx hb dX7_thrown_0 rfl (lv_at hl 0 rfl) ?_
  refine rc_get (v := .int 0) hx hb hown hAm hw lyX7 0 rfl rfl 0 (by decide) qw_860 (fun _ h9 => h9) rfl dX7_thrown_1 ?_
  exact rc_iret (v := 0) hx hb hr hlocks hw [(h0, .inr (12, [.int 0, .ref h1, .ref h2, .ref h3, .ref h4, .ref h5, .int 1, .int 3, .int 50, .int (-1), .int (-1), .int (-1), .int (-1), .int 0, .int 100, .int x0, .long 0]))] (⟨rfl, rfl⟩) [0] rfl (by decide) (Nat.le_of_ble_eq_true rfl) (Nat.le_of_ble_eq_true rfl) dX7_thrown_4
theorem hd_L_many : yL_many.cls ≠ "java/lang/invoke/MethodHandle" ∧ yL_many.cls ≠ "java/lang/invoke/VarHandle" ∧ (parseMethodDescriptor yL_many.desc).map (fun d => d.parameters.length) = some 3 := by decide +kernel
theorem hd_X7_many : yX7_many.cls ≠ "java/lang/invoke/MethodHandle" ∧ yX7_many.cls ≠ "java/lang/invoke/VarHandle" ∧ (parseMethodDescriptor yX7_many.desc).map (fun d => d.parameters.length) = some 1 := by decide +kernel
set_option maxHeartbeats 4000000 in
set_option maxRecDepth 100000 in
theorem cw_X7_is_70 (l : Launch) (E : rc_E) (sz : Nat) : rc_Mi l yX7_is [Cond.code yX7_is cX7_is 3 (some FieldType.boolean)] { frames := 0, cells := 0, slots := 0, locals := 0 } E [.int 0, .int 0, .int 8] [] sz (S := va_W) (fun (r : Int32) (u : va_W) => (1 = r ∧ u = [])) (fun u => u) 0 0 := by
  refine rc_ini (cc := cX7_is) (maxL := 3) (ret := (some FieldType.boolean)) (by decide) rfl (Nat.le_of_ble_eq_true rfl) ?_
  intro p e s m args below meth c ls A hx hb hr hml _ hown hlocks hin hA hAm hw hl
  have hown : s.vm.findClass RX7 = some m.cls := hown
  have hl : lv_has ls 3 [(0, .int 0), (1, .int 0), (2, .int 8)] := hl
  refine lv_iload_n hx hb dX7_is_0 rfl (lv_at hl 0 rfl) ?_
  refine lv_iload_n hx hb dX7_is_1 rfl (lv_at hl 1 rfl) ?_
  refine lv_icmp_lt (tgt := 14) hx hb dX7_is_2 (by decide) (fun c9 => absurd c9 (by decide)) (fun _ => ?_)
  refine lv_iload_n hx hb dX7_is_5 rfl (lv_at hl 0 rfl) ?_
  refine lv_iload_n hx hb dX7_is_6 rfl (lv_at hl 2 rfl) ?_
  refine lv_icmp_gt (tgt := 14) hx hb dX7_is_7 (by decide) (fun c9 => absurd c9 (by decide)) (fun _ => ?_)
  refine lv_iconst (v := 1) hx hb dX7_is_10 (by decide) ?_
  refine lv_goto (tgt := 15) hx hb dX7_is_11 (by decide) ?_
  exact rc_zret (v := 1) hx hb hr hlocks hw rfl [] (⟨rfl, rfl⟩) [] rfl (by decide) (Nat.le_of_ble_eq_true rfl) (Nat.le_of_ble_eq_true rfl) dX7_is_15
set_option maxHeartbeats 4000000 in
set_option maxRecDepth 100000 in
theorem cw_X7_manyNow_11 (l : Launch) (E : rc_E) (sz : Nat) (h0 : Nat) (h1 : Nat) (h2 : Nat) (h3 : Nat) (h4 : Nat) (h5 : Nat) : rc_Mi l yX7_manyNow [Cond.code yX7_manyNow cX7_manyNow 7 (some FieldType.int)] { frames := 1, cells := 0, slots := 0, locals := 20 } E [.ref h0, .int 0] [(h0, .inr (12, [.int 0, .ref h1, .ref h2, .ref h3, .ref h4, .ref h5, .int 1, .int 3, .int 50, .int (-1), .int (-1), .int (-1), .int (-1), .int 0, .int 100, .int 1000, .long 0])), (h2, .inr (4, [.int 0, .ref (E.2.2 0), .int 0]))] sz (S := va_W) (fun (r : Int32) (u : va_W) => (0 = r ∧ u = [(h0, .inr (12, [.int 0, .ref h1, .ref h2, .ref h3, .ref h4, .ref h5, .int 1, .int 3, .int 50, .int (-1), .int (-1), .int (-1), .int (-1), .int 0, .int 100, .int 1000, .long 0])), (h2, .inr (4, [.int 0, .ref (E.2.2 0), .int 0]))])) (fun u => u) 0 0 := by
  refine rc_ini (cc := cX7_manyNow) (maxL := 7) (ret := (some FieldType.int)) (by decide) rfl (Nat.le_of_ble_eq_true rfl) ?_
  intro p e s m args below meth c ls A hx hb hr hml _ hown hlocks hin hA hAm hw hl
  have hown : s.vm.findClass RX7 = some m.cls := hown
  have hl : lv_has ls 7 [(0, .ref h0), (1, .int 0)] := hl
  refine lv_iconst (v := 0) hx hb dX7_manyNow_0 (by decide) ?_
  refine lv_istore_n (lv' := [(2, .int 0), (0, .ref h0), (1, .int 0)]) hx hb dX7_manyNow_1 rfl hl (by decide) rfl (fun ls hl => ?_)
  refine lv_iload_n hx hb dX7_manyNow_2 rfl (lv_at hl 2 rfl) ?_
  refine lv_tableIn (tgt := 48) hx hb dX7_manyNow_3 (by decide) (by decide) rfl (by decide) ?_
  refine lv_aload_n hx hb dX7_manyNow_48 rfl (lv_at hl 1 rfl) ?_
  refine rc_get (v := .ref h2) hx hb hown hAm hw lyX7 0 rfl rfl 2 (by decide) qw_862 (fun _ h9 => h9) rfl dX7_manyNow_49 ?_
  refine rc_calli (wr := [(h0, .inr (12, [.int 0, .ref h1, .ref h2, .ref h3, .ref h4, .ref h5, .int 1, .int 3, .int 50, .int (-1), .int (-1), .int (-1), .int (-1), .int 0, .int 100, .int 1000, .long 0]))]) (va_runV (As := []) (rest := []) (Ts := []) ⟨hx, hb, hml, hown, fun _ h9 => absurd h9 List.not_mem_nil⟩ (cw_Jx4a65c_size_8abf5 l E _ h2) (rc_cwV hAm qw_928 qw_4 qw_289 qw_287 qw_288 rfl rfl hd_Jx4a65c_size_8abf5 ⟨Nat.le_of_ble_eq_true rfl, Nat.le_of_ble_eq_true rfl⟩) (rc_preV hAm hA hw [1] rfl rfl 1 rfl (q := vwCl[4]) rfl) rfl rfl hl.1 rfl (lv_room (Nat.le_of_ble_eq_true rfl)) dX7_manyNow_52 ⟨Nat.le_of_ble_eq_true rfl, Nat.le_of_ble_eq_true rfl⟩) hA hw [1] [0] rfl rfl rfl (by decide) (fun r_1 u_2 H locs hp hw => ?_)
  obtain ⟨rfl, rfl⟩ := hp
  have hw : rc_W E A s [(h0, .inr (12, [.int 0, .ref h1, .ref h2, .ref h3, .ref h4, .ref h5, .int 1, .int 3, .int 50, .int (-1), .int (-1), .int (-1), .int (-1), .int 0, .int 100, .int 1000, .long 0])), (h2, .inr (4, [.int 0, .ref (E.2.2 0), .int 0]))] H locs := hw
  exact rc_iret (v := 0) hx hb hr hlocks hw [(h0, .inr (12, [.int 0, .ref h1, .ref h2, .ref h3, .ref h4, .ref h5, .int 1, .int 3, .int 50, .int (-1), .int (-1), .int (-1), .int (-1), .int 0, .int 100, .int 1000, .long 0])), (h2, .inr (4, [.int 0, .ref (E.2.2 0), .int 0]))] (⟨rfl, rfl⟩) [0, 1] rfl (by decide) (Nat.le_of_ble_eq_true rfl) (Nat.le_of_ble_eq_true rfl) dX7_manyNow_55
set_option maxHeartbeats 4000000 in
set_option maxRecDepth 100000 in
theorem cw_X7_many_2 (l : Launch) (E : rc_E) (sz : Nat) (h0 : Nat) (h1 : Nat) (h2 : Nat) (h3 : Nat) (h4 : Nat) (h5 : Nat) : rc_Mi l yX7_many [Cond.code yX7_many cX7_many 2 (some FieldType.int)] { frames := 2, cells := 0, slots := 0, locals := 46 } E [.ref h0, .int 0] [(h0, .inr (12, [.int 0, .ref h1, .ref h2, .ref h3, .ref h4, .ref h5, .int 1, .int 3, .int 50, .int (-1), .int (-1), .int (-1), .int (-1), .int 0, .int 100, .int 1000, .long 0])), (h2, .inr (4, [.int 0, .ref (E.2.2 0), .int 0]))] sz (S := va_W) (fun (r : Int32) (u : va_W) => (0 = r ∧ u = [(h0, .inr (12, [.int 0, .ref h1, .ref h2, .ref h3, .ref h4, .ref h5, .int 1, .int 3, .int 50, .int (-1), .int (-1), .int (-1), .int (-1), .int 0, .int 100, .int 1000, .long 0])), (h2, .inr (4, [.int 0, .ref (E.2.2 0), .int 0]))])) (fun u => u) 0 0 := by
  refine rc_ini (cc := cX7_many) (maxL := 2) (ret := (some FieldType.int)) (by decide) rfl (Nat.le_of_ble_eq_true rfl) ?_
  intro p e s m args below meth c ls A hx hb hr hml _ hown hlocks hin hA hAm hw hl
  have hown : s.vm.findClass RX7 = some m.cls := hown
  have hl : lv_has ls 2 [(0, .ref h0), (1, .int 0)] := hl
  refine lv_aload_n hx hb dX7_many_0 rfl (lv_at hl 0 rfl) ?_
  refine lv_iconst (v := 0) hx hb dX7_many_1 (by decide) ?_
  refine rc_put hx hb hown hAm hw lyX7 tyX7 tyX7_ok nmX7 0 rfl rfl 0 (by decide) qw_860 (fun _ h9 => h9) rfl rfl (by decide +kernel) (Nat.le_of_ble_eq_true rfl) [(h0, .inr (12, [.int 0, .ref h1, .ref h2, .ref h3, .ref h4, .ref h5, .int 1, .int 3, .int 50, .int (-1), .int (-1), .int (-1), .int (-1), .int 0, .int 100, .int 1000, .long 0])), (h2, .inr (4, [.int 0, .ref (E.2.2 0), .int 0]))] rfl dX7_many_2 (fun H locs hw => ?_)
  refine lv_iload_n hx hb dX7_many_5 rfl (lv_at hl 1 rfl) ?_
  refine lv_iconst (v := 0) hx hb dX7_many_6 (by decide) ?_
  refine lv_bipush (v := 8) hx hb dX7_many_7 (by decide) ?_
  refine rc_calli (wr := [(h0, .inr (12, [.int 0, .ref h1, .ref h2, .ref h3, .ref h4, .ref h5, .int 1, .int 3, .int 50, .int (-1), .int (-1), .int (-1), .int (-1), .int 0, .int 100, .int 1000, .long 0])), (h2, .inr (4, [.int 0, .ref (E.2.2 0), .int 0]))]) (va_runS (As := [.int 0, .int 0, .int 8]) (rest := []) (Ts := []) ⟨hx, hb, hml, hown, fun _ h9 => absurd h9 List.not_mem_nil⟩ (cw_X7_is_70 l E _) (rc_cwS hAm qw_921 qw_13 qw_923 qw_922 rfl rfl hd_X7_is ⟨Nat.le_of_ble_eq_true rfl, Nat.le_of_ble_eq_true rfl⟩) (rc_preS hAm hA hw [] rfl rfl) rfl rfl hl.1 rfl (lv_room (Nat.le_of_ble_eq_true rfl)) dX7_many_9 ⟨Nat.le_of_ble_eq_true rfl, Nat.le_of_ble_eq_true rfl⟩) hA hw [] [0, 1] rfl rfl rfl (by decide) (fun r_1 u_2 H locs hp hw => ?_)
  obtain ⟨rfl, rfl⟩ := hp
  have hw : rc_W E A s [(h0, .inr (12, [.int 0, .ref h1, .ref h2, .ref h3, .ref h4, .ref h5, .int 1, .int 3, .int 50, .int (-1), .int (-1), .int (-1), .int (-1), .int 0, .int 100, .int 1000, .long 0])), (h2, .inr (4, [.int 0, .ref (E.2.2 0), .int 0]))] H locs := hw
  refine lv_if_eq (tgt := 23) hx hb dX7_many_12 (by decide) (fun c9 => absurd c9 (by decide)) (fun _ => ?_)
  refine lv_aload_n hx hb dX7_many_15 rfl (lv_at hl 0 rfl) ?_
  refine lv_iload_n hx hb dX7_many_16 rfl (lv_at hl 1 rfl) ?_
  refine rc_calli (wr := []) (va_runV (As := [.int 0]) (rest := []) (Ts := []) ⟨hx, hb, hml, hown, fun _ h9 => absurd h9 List.not_mem_nil⟩ (cw_X7_manyNow_11 l E _ h0 h1 h2 h3 h4 h5) (rc_cwV hAm qw_1433 qw_13 qw_1436 qw_1435 qs_69 rfl rfl hd_X7_manyNow ⟨Nat.le_of_ble_eq_true rfl, Nat.le_of_ble_eq_true rfl⟩) (rc_preV hAm hA hw [0, 1] rfl rfl 0 rfl (q := vwCl[12]) rfl) rfl rfl hl.1 rfl (lv_room (Nat.le_of_ble_eq_true rfl)) dX7_many_17 ⟨Nat.le_of_ble_eq_true rfl, Nat.le_of_ble_eq_true rfl⟩) hA hw [0, 1] [] rfl rfl rfl (by decide) (fun r_3 u_4 H locs hp hw => ?_)
  obtain ⟨rfl, rfl⟩ := hp
  have hw : rc_W E A s [(h0, .inr (12, [.int 0, .ref h1, .ref h2, .ref h3, .ref h4, .ref h5, .int 1, .int 3, .int 50, .int (-1), .int (-1), .int (-1), .int (-1), .int 0, .int 100, .int 1000, .long 0])), (h2, .inr (4, [.int 0, .ref (E.2.2 0), .int 0]))] H locs := hw
  refine lv_goto (tgt := 28) hx hb dX7_many_20 (by decide) ?_
  exact rc_iret (v := 0) hx hb hr hlocks hw [(h0, .inr (12, [.int 0, .ref h1, .ref h2, .ref h3, .ref h4, .ref h5, .int 1, .int 3, .int 50, .int (-1), .int (-1), .int (-1), .int (-1), .int 0, .int 100, .int 1000, .long 0])), (h2, .inr (4, [.int 0, .ref (E.2.2 0), .int 0]))] (⟨rfl, rfl⟩) [0, 1] rfl (by decide) (Nat.le_of_ble_eq_true rfl) (Nat.le_of_ble_eq_true rfl) dX7_many_28
set_option maxHeartbeats 4000000 in
set_option maxRecDepth 100000 in
theorem cw_X7_is_71 (l : Launch) (E : rc_E) (sz : Nat) : rc_Mi l yX7_is [Cond.code yX7_is cX7_is 3 (some FieldType.boolean)] { frames := 0, cells := 0, slots := 0, locals := 0 } E [.int 1, .int 0, .int 8] [] sz (S := va_W) (fun (r : Int32) (u : va_W) => (1 = r ∧ u = [])) (fun u => u) 0 0 := by
  refine rc_ini (cc := cX7_is) (maxL := 3) (ret := (some FieldType.boolean)) (by decide) rfl (Nat.le_of_ble_eq_true rfl) ?_
  intro p e s m args below meth c ls A hx hb hr hml _ hown hlocks hin hA hAm hw hl
  have hown : s.vm.findClass RX7 = some m.cls := hown
  have hl : lv_has ls 3 [(0, .int 1), (1, .int 0), (2, .int 8)] := hl
  refine lv_iload_n hx hb dX7_is_0 rfl (lv_at hl 0 rfl) ?_
  refine lv_iload_n hx hb dX7_is_1 rfl (lv_at hl 1 rfl) ?_
  refine lv_icmp_lt (tgt := 14) hx hb dX7_is_2 (by decide) (fun c9 => absurd c9 (by decide)) (fun _ => ?_)
  refine lv_iload_n hx hb dX7_is_5 rfl (lv_at hl 0 rfl) ?_
  refine lv_iload_n hx hb dX7_is_6 rfl (lv_at hl 2 rfl) ?_
  refine lv_icmp_gt (tgt := 14) hx hb dX7_is_7 (by decide) (fun c9 => absurd c9 (by decide)) (fun _ => ?_)
  refine lv_iconst (v := 1) hx hb dX7_is_10 (by decide) ?_
  refine lv_goto (tgt := 15) hx hb dX7_is_11 (by decide) ?_
  exact rc_zret (v := 1) hx hb hr hlocks hw rfl [] (⟨rfl, rfl⟩) [] rfl (by decide) (Nat.le_of_ble_eq_true rfl) (Nat.le_of_ble_eq_true rfl) dX7_is_15
set_option maxHeartbeats 4000000 in
set_option maxRecDepth 100000 in
theorem cw_X7_manyNow_12 (l : Launch) (E : rc_E) (sz : Nat) (h0 : Nat) (h1 : Nat) (h2 : Nat) (h3 : Nat) (h4 : Nat) (h5 : Nat) : rc_Mi l yX7_manyNow [Cond.code yX7_manyNow cX7_manyNow 7 (some FieldType.int)] { frames := 0, cells := 0, slots := 0, locals := 0 } E [.ref h0, .int 1] [(h0, .inr (12, [.int 0, .ref h1, .ref h2, .ref h3, .ref h4, .ref h5, .int 1, .int 3, .int 50, .int (-1), .int (-1), .int (-1), .int (-1), .int 0, .int 100, .int 1000, .long 0]))] sz (S := va_W) (fun (r : Int32) (u : va_W) => (1 = r ∧ u = [(h0, .inr (12, [.int 0, .ref h1, .ref h2, .ref h3, .ref h4, .ref h5, .int 1, .int 3, .int 50, .int (-1), .int (-1), .int (-1), .int (-1), .int 0, .int 100, .int 1000, .long 0]))])) (fun u => u) 0 0 := by
  refine rc_ini (cc := cX7_manyNow) (maxL := 7) (ret := (some FieldType.int)) (by decide) rfl (Nat.le_of_ble_eq_true rfl) ?_
  intro p e s m args below meth c ls A hx hb hr hml _ hown hlocks hin hA hAm hw hl
  have hown : s.vm.findClass RX7 = some m.cls := hown
  have hl : lv_has ls 7 [(0, .ref h0), (1, .int 1)] := hl
  refine lv_iconst (v := 0) hx hb dX7_manyNow_0 (by decide) ?_
  refine lv_istore_n (lv' := [(2, .int 0), (0, .ref h0), (1, .int 1)]) hx hb dX7_manyNow_1 rfl hl (by decide) rfl (fun ls hl => ?_)
  refine lv_iload_n hx hb dX7_manyNow_2 rfl (lv_at hl 2 rfl) ?_
  refine lv_tableIn (tgt := 56) hx hb dX7_manyNow_3 (by decide) (by decide) rfl (by decide) ?_
  refine lv_aload_n hx hb dX7_manyNow_56 rfl (lv_at hl 1 rfl) ?_
  refine rc_get (v := .int 1) hx hb hown hAm hw lyX7 0 rfl rfl 6 (by decide) qw_866 (fun _ h9 => h9) rfl dX7_manyNow_57 ?_
  exact rc_iret (v := 1) hx hb hr hlocks hw [(h0, .inr (12, [.int 0, .ref h1, .ref h2, .ref h3, .ref h4, .ref h5, .int 1, .int 3, .int 50, .int (-1), .int (-1), .int (-1), .int (-1), .int 0, .int 100, .int 1000, .long 0]))] (⟨rfl, rfl⟩) [0] rfl (by decide) (Nat.le_of_ble_eq_true rfl) (Nat.le_of_ble_eq_true rfl) dX7_manyNow_60
set_option maxHeartbeats 4000000 in
set_option maxRecDepth 100000 in
theorem cw_X7_many_3 (l : Launch) (E : rc_E) (sz : Nat) (h0 : Nat) (h1 : Nat) (h2 : Nat) (h3 : Nat) (h4 : Nat) (h5 : Nat) : rc_Mi l yX7_many [Cond.code yX7_many cX7_many 2 (some FieldType.int)] { frames := 1, cells := 0, slots := 0, locals := 26 } E [.ref h0, .int 1] [(h0, .inr (12, [.int 0, .ref h1, .ref h2, .ref h3, .ref h4, .ref h5, .int 1, .int 3, .int 50, .int (-1), .int (-1), .int (-1), .int (-1), .int 0, .int 100, .int 1000, .long 0]))] sz (S := va_W) (fun (r : Int32) (u : va_W) => (1 = r ∧ u = [(h0, .inr (12, [.int 0, .ref h1, .ref h2, .ref h3, .ref h4, .ref h5, .int 1, .int 3, .int 50, .int (-1), .int (-1), .int (-1), .int (-1), .int 0, .int 100, .int 1000, .long 0]))])) (fun u => u) 0 0 := by
  refine rc_ini (cc := cX7_many) (maxL := 2) (ret := (some FieldType.int)) (by decide) rfl (Nat.le_of_ble_eq_true rfl) ?_
  intro p e s m args below meth c ls A hx hb hr hml _ hown hlocks hin hA hAm hw hl
  have hown : s.vm.findClass RX7 = some m.cls := hown
  have hl : lv_has ls 2 [(0, .ref h0), (1, .int 1)] := hl
  refine lv_aload_n hx hb dX7_many_0 rfl (lv_at hl 0 rfl) ?_
  refine lv_iconst (v := 0) hx hb dX7_many_1 (by decide) ?_
  refine rc_put hx hb hown hAm hw lyX7 tyX7 tyX7_ok nmX7 0 rfl rfl 0 (by decide) qw_860 (fun _ h9 => h9) rfl rfl (by decide +kernel) (Nat.le_of_ble_eq_true rfl) [(h0, .inr (12, [.int 0, .ref h1, .ref h2, .ref h3, .ref h4, .ref h5, .int 1, .int 3, .int 50, .int (-1), .int (-1), .int (-1), .int (-1), .int 0, .int 100, .int 1000, .long 0]))] rfl dX7_many_2 (fun H locs hw => ?_)
  refine lv_iload_n hx hb dX7_many_5 rfl (lv_at hl 1 rfl) ?_
  refine lv_iconst (v := 0) hx hb dX7_many_6 (by decide) ?_
  refine lv_bipush (v := 8) hx hb dX7_many_7 (by decide) ?_
  refine rc_calli (wr := [(h0, .inr (12, [.int 0, .ref h1, .ref h2, .ref h3, .ref h4, .ref h5, .int 1, .int 3, .int 50, .int (-1), .int (-1), .int (-1), .int (-1), .int 0, .int 100, .int 1000, .long 0]))]) (va_runS (As := [.int 1, .int 0, .int 8]) (rest := []) (Ts := []) ⟨hx, hb, hml, hown, fun _ h9 => absurd h9 List.not_mem_nil⟩ (cw_X7_is_71 l E _) (rc_cwS hAm qw_921 qw_13 qw_923 qw_922 rfl rfl hd_X7_is ⟨Nat.le_of_ble_eq_true rfl, Nat.le_of_ble_eq_true rfl⟩) (rc_preS hAm hA hw [] rfl rfl) rfl rfl hl.1 rfl (lv_room (Nat.le_of_ble_eq_true rfl)) dX7_many_9 ⟨Nat.le_of_ble_eq_true rfl, Nat.le_of_ble_eq_true rfl⟩) hA hw [] [0] rfl rfl rfl (by decide) (fun r_1 u_2 H locs hp hw => ?_)
  obtain ⟨rfl, rfl⟩ := hp
  have hw : rc_W E A s [(h0, .inr (12, [.int 0, .ref h1, .ref h2, .ref h3, .ref h4, .ref h5, .int 1, .int 3, .int 50, .int (-1), .int (-1), .int (-1), .int (-1), .int 0, .int 100, .int 1000, .long 0]))] H locs := hw
  refine lv_if_eq (tgt := 23) hx hb dX7_many_12 (by decide) (fun c9 => absurd c9 (by decide)) (fun _ => ?_)
  refine lv_aload_n hx hb dX7_many_15 rfl (lv_at hl 0 rfl) ?_
  refine lv_iload_n hx hb dX7_many_16 rfl (lv_at hl 1 rfl) ?_
  refine rc_calli (wr := []) (va_runV (As := [.int 1]) (rest := []) (Ts := []) ⟨hx, hb, hml, hown, fun _ h9 => absurd h9 List.not_mem_nil⟩ (cw_X7_manyNow_12 l E _ h0 h1 h2 h3 h4 h5) (rc_cwV hAm qw_1433 qw_13 qw_1436 qw_1435 qs_69 rfl rfl hd_X7_manyNow ⟨Nat.le_of_ble_eq_true rfl, Nat.le_of_ble_eq_true rfl⟩) (rc_preV hAm hA hw [0] rfl rfl 0 rfl (q := vwCl[12]) rfl) rfl rfl hl.1 rfl (lv_room (Nat.le_of_ble_eq_true rfl)) dX7_many_17 ⟨Nat.le_of_ble_eq_true rfl, Nat.le_of_ble_eq_true rfl⟩) hA hw [0] [] rfl rfl rfl (by decide) (fun r_3 u_4 H locs hp hw => ?_)
  obtain ⟨rfl, rfl⟩ := hp
  have hw : rc_W E A s [(h0, .inr (12, [.int 0, .ref h1, .ref h2, .ref h3, .ref h4, .ref h5, .int 1, .int 3, .int 50, .int (-1), .int (-1), .int (-1), .int (-1), .int 0, .int 100, .int 1000, .long 0]))] H locs := hw
  refine lv_goto (tgt := 28) hx hb dX7_many_20 (by decide) ?_
  exact rc_iret (v := 1) hx hb hr hlocks hw [(h0, .inr (12, [.int 0, .ref h1, .ref h2, .ref h3, .ref h4, .ref h5, .int 1, .int 3, .int 50, .int (-1), .int (-1), .int (-1), .int (-1), .int 0, .int 100, .int 1000, .long 0]))] (⟨rfl, rfl⟩) [0] rfl (by decide) (Nat.le_of_ble_eq_true rfl) (Nat.le_of_ble_eq_true rfl) dX7_many_28
set_option maxHeartbeats 4000000 in
set_option maxRecDepth 100000 in
theorem cw_X7_is_72 (l : Launch) (E : rc_E) (sz : Nat) : rc_Mi l yX7_is [Cond.code yX7_is cX7_is 3 (some FieldType.boolean)] { frames := 0, cells := 0, slots := 0, locals := 0 } E [.int 2, .int 0, .int 8] [] sz (S := va_W) (fun (r : Int32) (u : va_W) => (1 = r ∧ u = [])) (fun u => u) 0 0 := by
  refine rc_ini (cc := cX7_is) (maxL := 3) (ret := (some FieldType.boolean)) (by decide) rfl (Nat.le_of_ble_eq_true rfl) ?_
  intro p e s m args below meth c ls A hx hb hr hml _ hown hlocks hin hA hAm hw hl
  have hown : s.vm.findClass RX7 = some m.cls := hown
  have hl : lv_has ls 3 [(0, .int 2), (1, .int 0), (2, .int 8)] := hl
  refine lv_iload_n hx hb dX7_is_0 rfl (lv_at hl 0 rfl) ?_
  refine lv_iload_n hx hb dX7_is_1 rfl (lv_at hl 1 rfl) ?_
  refine lv_icmp_lt (tgt := 14) hx hb dX7_is_2 (by decide) (fun c9 => absurd c9 (by decide)) (fun _ => ?_)
  refine lv_iload_n hx hb dX7_is_5 rfl (lv_at hl 0 rfl) ?_
  refine lv_iload_n hx hb dX7_is_6 rfl (lv_at hl 2 rfl) ?_
  refine lv_icmp_gt (tgt := 14) hx hb dX7_is_7 (by decide) (fun c9 => absurd c9 (by decide)) (fun _ => ?_)
  refine lv_iconst (v := 1) hx hb dX7_is_10 (by decide) ?_
  refine lv_goto (tgt := 15) hx hb dX7_is_11 (by decide) ?_
  exact rc_zret (v := 1) hx hb hr hlocks hw rfl [] (⟨rfl, rfl⟩) [] rfl (by decide) (Nat.le_of_ble_eq_true rfl) (Nat.le_of_ble_eq_true rfl) dX7_is_15
set_option maxHeartbeats 4000000 in
set_option maxRecDepth 100000 in
theorem cw_X7_manyNow_13 (l : Launch) (E : rc_E) (sz : Nat) (h0 : Nat) (h1 : Nat) (h2 : Nat) (h3 : Nat) (h4 : Nat) (h5 : Nat) : rc_Mi l yX7_manyNow [Cond.code yX7_manyNow cX7_manyNow 7 (some FieldType.int)] { frames := 1, cells := 0, slots := 0, locals := 20 } E [.ref h0, .int 2] [(h0, .inr (12, [.int 0, .ref h1, .ref h2, .ref h3, .ref h4, .ref h5, .int 1, .int 3, .int 50, .int (-1), .int (-1), .int (-1), .int (-1), .int 0, .int 100, .int 1000, .long 0])), (h3, .inr (4, [.int 0, .ref (E.2.2 0), .int 0]))] sz (S := va_W) (fun (r : Int32) (u : va_W) => (0 = r ∧ u = [(h0, .inr (12, [.int 0, .ref h1, .ref h2, .ref h3, .ref h4, .ref h5, .int 1, .int 3, .int 50, .int (-1), .int (-1), .int (-1), .int (-1), .int 0, .int 100, .int 1000, .long 0])), (h3, .inr (4, [.int 0, .ref (E.2.2 0), .int 0]))])) (fun u => u) 0 0 := by
  refine rc_ini (cc := cX7_manyNow) (maxL := 7) (ret := (some FieldType.int)) (by decide) rfl (Nat.le_of_ble_eq_true rfl) ?_
  intro p e s m args below meth c ls A hx hb hr hml _ hown hlocks hin hA hAm hw hl
  have hown : s.vm.findClass RX7 = some m.cls := hown
  have hl : lv_has ls 7 [(0, .ref h0), (1, .int 2)] := hl
  refine lv_iconst (v := 0) hx hb dX7_manyNow_0 (by decide) ?_
  refine lv_istore_n (lv' := [(2, .int 0), (0, .ref h0), (1, .int 2)]) hx hb dX7_manyNow_1 rfl hl (by decide) rfl (fun ls hl => ?_)
  refine lv_iload_n hx hb dX7_manyNow_2 rfl (lv_at hl 2 rfl) ?_
  refine lv_tableIn (tgt := 61) hx hb dX7_manyNow_3 (by decide) (by decide) rfl (by decide) ?_
  refine lv_aload_n hx hb dX7_manyNow_61 rfl (lv_at hl 1 rfl) ?_
  refine rc_get (v := .ref h3) hx hb hown hAm hw lyX7 0 rfl rfl 3 (by decide) qw_863 (fun _ h9 => h9) rfl dX7_manyNow_62 ?_
  refine rc_calli (wr := [(h0, .inr (12, [.int 0, .ref h1, .ref h2, .ref h3, .ref h4, .ref h5, .int 1, .int 3, .int 50, .int (-1), .int (-1), .int (-1), .int (-1), .int 0, .int 100, .int 1000, .long 0]))]) (va_runV (As := []) (rest := []) (Ts := []) ⟨hx, hb, hml, hown, fun _ h9 => absurd h9 List.not_mem_nil⟩ (cw_Jx4a65c_size_8abf5 l E _ h3) (rc_cwV hAm qw_928 qw_4 qw_289 qw_287 qw_288 rfl rfl hd_Jx4a65c_size_8abf5 ⟨Nat.le_of_ble_eq_true rfl, Nat.le_of_ble_eq_true rfl⟩) (rc_preV hAm hA hw [1] rfl rfl 1 rfl (q := vwCl[4]) rfl) rfl rfl hl.1 rfl (lv_room (Nat.le_of_ble_eq_true rfl)) dX7_manyNow_65 ⟨Nat.le_of_ble_eq_true rfl, Nat.le_of_ble_eq_true rfl⟩) hA hw [1] [0] rfl rfl rfl (by decide) (fun r_1 u_2 H locs hp hw => ?_)
  obtain ⟨rfl, rfl⟩ := hp
  have hw : rc_W E A s [(h0, .inr (12, [.int 0, .ref h1, .ref h2, .ref h3, .ref h4, .ref h5, .int 1, .int 3, .int 50, .int (-1), .int (-1), .int (-1), .int (-1), .int 0, .int 100, .int 1000, .long 0])), (h3, .inr (4, [.int 0, .ref (E.2.2 0), .int 0]))] H locs := hw
  exact rc_iret (v := 0) hx hb hr hlocks hw [(h0, .inr (12, [.int 0, .ref h1, .ref h2, .ref h3, .ref h4, .ref h5, .int 1, .int 3, .int 50, .int (-1), .int (-1), .int (-1), .int (-1), .int 0, .int 100, .int 1000, .long 0])), (h3, .inr (4, [.int 0, .ref (E.2.2 0), .int 0]))] (⟨rfl, rfl⟩) [0, 1] rfl (by decide) (Nat.le_of_ble_eq_true rfl) (Nat.le_of_ble_eq_true rfl) dX7_manyNow_68
set_option maxHeartbeats 4000000 in
set_option maxRecDepth 100000 in
theorem cw_X7_many_4 (l : Launch) (E : rc_E) (sz : Nat) (h0 : Nat) (h1 : Nat) (h2 : Nat) (h3 : Nat) (h4 : Nat) (h5 : Nat) : rc_Mi l yX7_many [Cond.code yX7_many cX7_many 2 (some FieldType.int)] { frames := 2, cells := 0, slots := 0, locals := 46 } E [.ref h0, .int 2] [(h0, .inr (12, [.int 0, .ref h1, .ref h2, .ref h3, .ref h4, .ref h5, .int 1, .int 3, .int 50, .int (-1), .int (-1), .int (-1), .int (-1), .int 0, .int 100, .int 1000, .long 0])), (h3, .inr (4, [.int 0, .ref (E.2.2 0), .int 0]))] sz (S := va_W) (fun (r : Int32) (u : va_W) => (0 = r ∧ u = [(h0, .inr (12, [.int 0, .ref h1, .ref h2, .ref h3, .ref h4, .ref h5, .int 1, .int 3, .int 50, .int (-1), .int (-1), .int (-1), .int (-1), .int 0, .int 100, .int 1000, .long 0])), (h3, .inr (4, [.int 0, .ref (E.2.2 0), .int 0]))])) (fun u => u) 0 0 := by
  refine rc_ini (cc := cX7_many) (maxL := 2) (ret := (some FieldType.int)) (by decide) rfl (Nat.le_of_ble_eq_true rfl) ?_
  intro p e s m args below meth c ls A hx hb hr hml _ hown hlocks hin hA hAm hw hl
  have hown : s.vm.findClass RX7 = some m.cls := hown
  have hl : lv_has ls 2 [(0, .ref h0), (1, .int 2)] := hl
  refine lv_aload_n hx hb dX7_many_0 rfl (lv_at hl 0 rfl) ?_
  refine lv_iconst (v := 0) hx hb dX7_many_1 (by decide) ?_
  refine rc_put hx hb hown hAm hw lyX7 tyX7 tyX7_ok nmX7 0 rfl rfl 0 (by decide) qw_860 (fun _ h9 => h9) rfl rfl (by decide +kernel) (Nat.le_of_ble_eq_true rfl) [(h0, .inr (12, [.int 0, .ref h1, .ref h2, .ref h3, .ref h4, .ref h5, .int 1, .int 3, .int 50, .int (-1), .int (-1), .int (-1), .int (-1), .int 0, .int 100, .int 1000, .long 0])), (h3, .inr (4, [.int 0, .ref (E.2.2 0), .int 0]))] rfl dX7_many_2 (fun H locs hw => ?_)
  refine lv_iload_n hx hb dX7_many_5 rfl (lv_at hl 1 rfl) ?_
  refine lv_iconst (v := 0) hx hb dX7_many_6 (by decide) ?_
  refine lv_bipush (v := 8) hx hb dX7_many_7 (by decide) ?_
  refine rc_calli (wr := [(h0, .inr (12, [.int 0, .ref h1, .ref h2, .ref h3, .ref h4, .ref h5, .int 1, .int 3, .int 50, .int (-1), .int (-1), .int (-1), .int (-1), .int 0, .int 100, .int 1000, .long 0])), (h3, .inr (4, [.int 0, .ref (E.2.2 0), .int 0]))]) (va_runS (As := [.int 2, .int 0, .int 8]) (rest := []) (Ts := []) ⟨hx, hb, hml, hown, fun _ h9 => absurd h9 List.not_mem_nil⟩ (cw_X7_is_72 l E _) (rc_cwS hAm qw_921 qw_13 qw_923 qw_922 rfl rfl hd_X7_is ⟨Nat.le_of_ble_eq_true rfl, Nat.le_of_ble_eq_true rfl⟩) (rc_preS hAm hA hw [] rfl rfl) rfl rfl hl.1 rfl (lv_room (Nat.le_of_ble_eq_true rfl)) dX7_many_9 ⟨Nat.le_of_ble_eq_true rfl, Nat.le_of_ble_eq_true rfl⟩) hA hw [] [0, 1] rfl rfl rfl (by decide) (fun r_1 u_2 H locs hp hw => ?_)
  obtain ⟨rfl, rfl⟩ := hp
  have hw : rc_W E A s [(h0, .inr (12, [.int 0, .ref h1, .ref h2, .ref h3, .ref h4, .ref h5, .int 1, .int 3, .int 50, .int (-1), .int (-1), .int (-1), .int (-1), .int 0, .int 100, .int 1000, .long 0])), (h3, .inr (4, [.int 0, .ref (E.2.2 0), .int 0]))] H locs := hw
  refine lv_if_eq (tgt := 23) hx hb dX7_many_12 (by decide) (fun c9 => absurd c9 (by decide)) (fun _ => ?_)
  refine lv_aload_n hx hb dX7_many_15 rfl (lv_at hl 0 rfl) ?_
  refine lv_iload_n hx hb dX7_many_16 rfl (lv_at hl 1 rfl) ?_
  refine rc_calli (wr := []) (va_runV (As := [.int 2]) (rest := []) (Ts := []) ⟨hx, hb, hml, hown, fun _ h9 => absurd h9 List.not_mem_nil⟩ (cw_X7_manyNow_13 l E _ h0 h1 h2 h3 h4 h5) (rc_cwV hAm qw_1433 qw_13 qw_1436 qw_1435 qs_69 rfl rfl hd_X7_manyNow ⟨Nat.le_of_ble_eq_true rfl, Nat.le_of_ble_eq_true rfl⟩) (rc_preV hAm hA hw [0, 1] rfl rfl 0 rfl (q := vwCl[12]) rfl) rfl rfl hl.1 rfl (lv_room (Nat.le_of_ble_eq_true rfl)) dX7_many_17 ⟨Nat.le_of_ble_eq_true rfl, Nat.le_of_ble_eq_true rfl⟩) hA hw [0, 1] [] rfl rfl rfl (by decide) (fun r_3 u_4 H locs hp hw => ?_)
  obtain ⟨rfl, rfl⟩ := hp
  have hw : rc_W E A s [(h0, .inr (12, [.int 0, .ref h1, .ref h2, .ref h3, .ref h4, .ref h5, .int 1, .int 3, .int 50, .int (-1), .int (-1), .int (-1), .int (-1), .int 0, .int 100, .int 1000, .long 0])), (h3, .inr (4, [.int 0, .ref (E.2.2 0), .int 0]))] H locs := hw
  refine lv_goto (tgt := 28) hx hb dX7_many_20 (by decide) ?_
  exact rc_iret (v := 0) hx hb hr hlocks hw [(h0, .inr (12, [.int 0, .ref h1, .ref h2, .ref h3, .ref h4, .ref h5, .int 1, .int 3, .int 50, .int (-1), .int (-1), .int (-1), .int (-1), .int 0, .int 100, .int 1000, .long 0])), (h3, .inr (4, [.int 0, .ref (E.2.2 0), .int 0]))] (⟨rfl, rfl⟩) [0, 1] rfl (by decide) (Nat.le_of_ble_eq_true rfl) (Nat.le_of_ble_eq_true rfl) dX7_many_28
set_option maxHeartbeats 4000000 in
set_option maxRecDepth 100000 in
theorem cw_X7_is_73 (l : Launch) (E : rc_E) (sz : Nat) : rc_Mi l yX7_is [Cond.code yX7_is cX7_is 3 (some FieldType.boolean)] { frames := 0, cells := 0, slots := 0, locals := 0 } E [.int 3, .int 0, .int 8] [] sz (S := va_W) (fun (r : Int32) (u : va_W) => (1 = r ∧ u = [])) (fun u => u) 0 0 := by
  refine rc_ini (cc := cX7_is) (maxL := 3) (ret := (some FieldType.boolean)) (by decide) rfl (Nat.le_of_ble_eq_true rfl) ?_
  intro p e s m args below meth c ls A hx hb hr hml _ hown hlocks hin hA hAm hw hl
  have hown : s.vm.findClass RX7 = some m.cls := hown
  have hl : lv_has ls 3 [(0, .int 3), (1, .int 0), (2, .int 8)] := hl
  refine lv_iload_n hx hb dX7_is_0 rfl (lv_at hl 0 rfl) ?_
  refine lv_iload_n hx hb dX7_is_1 rfl (lv_at hl 1 rfl) ?_
  refine lv_icmp_lt (tgt := 14) hx hb dX7_is_2 (by decide) (fun c9 => absurd c9 (by decide)) (fun _ => ?_)
  refine lv_iload_n hx hb dX7_is_5 rfl (lv_at hl 0 rfl) ?_
  refine lv_iload_n hx hb dX7_is_6 rfl (lv_at hl 2 rfl) ?_
  refine lv_icmp_gt (tgt := 14) hx hb dX7_is_7 (by decide) (fun c9 => absurd c9 (by decide)) (fun _ => ?_)
  refine lv_iconst (v := 1) hx hb dX7_is_10 (by decide) ?_
  refine lv_goto (tgt := 15) hx hb dX7_is_11 (by decide) ?_
  exact rc_zret (v := 1) hx hb hr hlocks hw rfl [] (⟨rfl, rfl⟩) [] rfl (by decide) (Nat.le_of_ble_eq_true rfl) (Nat.le_of_ble_eq_true rfl) dX7_is_15
set_option maxHeartbeats 4000000 in
set_option maxRecDepth 100000 in
theorem cw_X7_manyNow_14 (l : Launch) (E : rc_E) (sz : Nat) (h0 : Nat) (h1 : Nat) (h2 : Nat) (h3 : Nat) (h4 : Nat) (h5 : Nat) : rc_Mi l yX7_manyNow [Cond.code yX7_manyNow cX7_manyNow 7 (some FieldType.int)] { frames := 3, cells := 1, slots := 4, locals := 53 } E [.ref h0, .int 3] [(h0, .inr (12, [.int 0, .ref h1, .ref h2, .ref h3, .ref h4, .ref h5, .int 1, .int 3, .int 50, .int (-1), .int (-1), .int (-1), .int (-1), .int 0, .int 100, .int 1000, .long 0])), (h3, .inr (4, [.int 0, .ref (E.2.2 0), .int 0]))] sz (S := va_W) (fun (r : Int32) (u : va_W) => (0 = r ∧ u = [(h0, .inr (12, [.int 0, .ref h1, .ref h2, .ref h3, .ref h4, .ref h5, .int 1, .int 3, .int 50, .int (-1), .int (-1), .int (-1), .int (-1), .int 0, .int 100, .int 1000, .long 0])), (h3, .inr (4, [.int 0, .ref (E.2.2 0), .int 0]))])) (fun u => u) 1 4 := by
  refine rc_ini (cc := cX7_manyNow) (maxL := 7) (ret := (some FieldType.int)) (by decide) rfl (Nat.le_of_ble_eq_true rfl) ?_
  intro p e s m args below meth c ls A hx hb hr hml _ hown hlocks hin hA hAm hw hl
  have hown : s.vm.findClass RX7 = some m.cls := hown
  have hl : lv_has ls 7 [(0, .ref h0), (1, .int 3)] := hl
  refine lv_iconst (v := 0) hx hb dX7_manyNow_0 (by decide) ?_
  refine lv_istore_n (lv' := [(2, .int 0), (0, .ref h0), (1, .int 3)]) hx hb dX7_manyNow_1 rfl hl (by decide) rfl (fun ls hl => ?_)
  refine lv_iload_n hx hb dX7_manyNow_2 rfl (lv_at hl 2 rfl) ?_
  refine lv_tableIn (tgt := 69) hx hb dX7_manyNow_3 (by decide) (by decide) rfl (by decide) ?_
  refine lv_aload_n hx hb dX7_manyNow_69 rfl (lv_at hl 1 rfl) ?_
  refine rc_get (v := .ref h3) hx hb hown hAm hw lyX7 0 rfl rfl 3 (by decide) qw_863 (fun _ h9 => h9) rfl dX7_manyNow_70 ?_
  refine rc_callr (wr := [(h0, .inr (12, [.int 0, .ref h1, .ref h2, .ref h3, .ref h4, .ref h5, .int 1, .int 3, .int 50, .int (-1), .int (-1), .int (-1), .int (-1), .int 0, .int 100, .int 1000, .long 0]))]) (va_runV (As := []) (rest := []) (Ts := []) ⟨hx, hb, hml, hown, fun _ h9 => absurd h9 List.not_mem_nil⟩ (cw_Jx4a65c_iterator_32c93 l E _ h3) (rc_cwV hAm qw_1295 qw_4 qw_1298 qw_1296 qw_1297 rfl rfl hd_Jx4a65c_iterator_32c93 ⟨Nat.le_of_ble_eq_true rfl, Nat.le_of_ble_eq_true rfl⟩) (rc_preV hAm hA hw [1] rfl rfl 1 rfl (q := vwCl[4]) rfl) rfl rfl hl.1 rfl (lv_room (Nat.le_of_ble_eq_true rfl)) dX7_manyNow_73 ⟨Nat.le_of_ble_eq_true rfl, Nat.le_of_ble_eq_true rfl⟩) hA hw [1] [0] rfl rfl rfl (by decide) (fun u_2 r_1 H locs hp hw => ?_)
  obtain ⟨q1, rfl, rfl⟩ := hp
  have hw : rc_W E A s [(h0, .inr (12, [.int 0, .ref h1, .ref h2, .ref h3, .ref h4, .ref h5, .int 1, .int 3, .int 50, .int (-1), .int (-1), .int (-1), .int (-1), .int 0, .int 100, .int 1000, .long 0])), (h3, .inr (4, [.int 0, .ref (E.2.2 0), .int 0])), (q1, .inr (3, [.int 0, .int (-1), .int 0, .ref h3]))] H locs := hw
  refine lv_astore_n (lv' := [(3, .ref q1), (2, .int 0), (0, .ref h0), (1, .int 3)]) hx hb dX7_manyNow_76 rfl hl (by decide) rfl (fun ls hl => ?_)
  refine lv_aload_n hx hb dX7_manyNow_77 rfl (lv_at hl 0 rfl) ?_
  refine rc_callFi (wr := [(h0, .inr (12, [.int 0, .ref h1, .ref h2, .ref h3, .ref h4, .ref h5, .int 1, .int 3, .int 50, .int (-1), .int (-1), .int (-1), .int (-1), .int 0, .int 100, .int 1000, .long 0]))]) (va_runF (As := []) (rest := []) (Ts := []) ((hAm.K.1 3 _ rfl).2) ⟨hx, hb, hml, hown, fun _ h9 => absurd h9 List.not_mem_nil⟩ (cw_Jx35411_hasNext_aae02 l E _ q1 h3) (rc_cwF (C := "java/util/ArrayList$Itr") (n := 0) hAm qw_1319 qw_32 qw_1327 qw_1325 qw_1323 qw_1321 qw_1320 (by decide +kernel) qw_1326 qw_1324 qw_1322 rfl rfl (by decide +kernel) ⟨Nat.le_of_ble_eq_true rfl, Nat.le_of_ble_eq_true rfl⟩) (rc_preV hAm hA hw [2, 1] rfl rfl 2 rfl (q := vwCl[3]) rfl) rfl rfl hl.1 rfl (lv_room (Nat.le_of_ble_eq_true rfl)) dX7_manyNow_78 ⟨Nat.le_of_ble_eq_true rfl, Nat.le_of_ble_eq_true rfl⟩) hA hw [2, 1] [0] rfl rfl rfl (by decide) (fun r_3 u_4 H locs hp hw => ?_)
  obtain ⟨rfl, rfl⟩ := hp
  have hw : rc_W E A s [(h0, .inr (12, [.int 0, .ref h1, .ref h2, .ref h3, .ref h4, .ref h5, .int 1, .int 3, .int 50, .int (-1), .int (-1), .int (-1), .int (-1), .int 0, .int 100, .int 1000, .long 0])), (q1, .inr (3, [.int 0, .int (-1), .int 0, .ref h3])), (h3, .inr (4, [.int 0, .ref (E.2.2 0), .int 0]))] H locs := hw
  refine lv_if_eq (tgt := 118) hx hb dX7_manyNow_83 (by decide) (fun _ => ?_) (fun c9 => absurd (by decide) c9)
  refine lv_iload_n hx hb dX7_manyNow_118 rfl (lv_at hl 1 rfl) ?_
  exact rc_iret (v := 0) hx hb hr hlocks hw [(h0, .inr (12, [.int 0, .ref h1, .ref h2, .ref h3, .ref h4, .ref h5, .int 1, .int 3, .int 50, .int (-1), .int (-1), .int (-1), .int (-1), .int 0, .int 100, .int 1000, .long 0])), (h3, .inr (4, [.int 0, .ref (E.2.2 0), .int 0]))] (⟨rfl, rfl⟩) [0, 2] rfl (by decide) (Nat.le_of_ble_eq_true rfl) (Nat.le_of_ble_eq_true rfl) dX7_manyNow_119
set_option maxHeartbeats 4000000 in
set_option maxRecDepth 100000 in
theorem cw_X7_many_5 (l : Launch) (E : rc_E) (sz : Nat) (h0 : Nat) (h1 : Nat) (h2 : Nat) (h3 : Nat) (h4 : Nat) (h5 : Nat) : rc_Mi l yX7_many [Cond.code yX7_many cX7_many 2 (some FieldType.int)] { frames := 4, cells := 1, slots := 4, locals := 79 } E [.ref h0, .int 3] [(h0, .inr (12, [.int 0, .ref h1, .ref h2, .ref h3, .ref h4, .ref h5, .int 1, .int 3, .int 50, .int (-1), .int (-1), .int (-1), .int (-1), .int 0, .int 100, .int 1000, .long 0])), (h3, .inr (4, [.int 0, .ref (E.2.2 0), .int 0]))] sz (S := va_W) (fun (r : Int32) (u : va_W) => (0 = r ∧ u = [(h0, .inr (12, [.int 0, .ref h1, .ref h2, .ref h3, .ref h4, .ref h5, .int 1, .int 3, .int 50, .int (-1), .int (-1), .int (-1), .int (-1), .int 0, .int 100, .int 1000, .long 0])), (h3, .inr (4, [.int 0, .ref (E.2.2 0), .int 0]))])) (fun u => u) 1 4 := by
  refine rc_ini (cc := cX7_many) (maxL := 2) (ret := (some FieldType.int)) (by decide) rfl (Nat.le_of_ble_eq_true rfl) ?_
  intro p e s m args below meth c ls A hx hb hr hml _ hown hlocks hin hA hAm hw hl
  have hown : s.vm.findClass RX7 = some m.cls := hown
  have hl : lv_has ls 2 [(0, .ref h0), (1, .int 3)] := hl
  refine lv_aload_n hx hb dX7_many_0 rfl (lv_at hl 0 rfl) ?_
  refine lv_iconst (v := 0) hx hb dX7_many_1 (by decide) ?_
  refine rc_put hx hb hown hAm hw lyX7 tyX7 tyX7_ok nmX7 0 rfl rfl 0 (by decide) qw_860 (fun _ h9 => h9) rfl rfl (by decide +kernel) (Nat.le_of_ble_eq_true rfl) [(h0, .inr (12, [.int 0, .ref h1, .ref h2, .ref h3, .ref h4, .ref h5, .int 1, .int 3, .int 50, .int (-1), .int (-1), .int (-1), .int (-1), .int 0, .int 100, .int 1000, .long 0])), (h3, .inr (4, [.int 0, .ref (E.2.2 0), .int 0]))] rfl dX7_many_2 (fun H locs hw => ?_)
  refine lv_iload_n hx hb dX7_many_5 rfl (lv_at hl 1 rfl) ?_
  refine lv_iconst (v := 0) hx hb dX7_many_6 (by decide) ?_
  refine lv_bipush (v := 8) hx hb dX7_many_7 (by decide) ?_
  refine rc_calli (wr := [(h0, .inr (12, [.int 0, .ref h1, .ref h2, .ref h3, .ref h4, .ref h5, .int 1, .int 3, .int 50, .int (-1), .int (-1), .int (-1), .int (-1), .int 0, .int 100, .int 1000, .long 0])), (h3, .inr (4, [.int 0, .ref (E.2.2 0), .int 0]))]) (va_runS (As := [.int 3, .int 0, .int 8]) (rest := []) (Ts := []) ⟨hx, hb, hml, hown, fun _ h9 => absurd h9 List.not_mem_nil⟩ (cw_X7_is_73 l E _) (rc_cwS hAm qw_921 qw_13 qw_923 qw_922 rfl rfl hd_X7_is ⟨Nat.le_of_ble_eq_true rfl, Nat.le_of_ble_eq_true rfl⟩) (rc_preS hAm hA hw [] rfl rfl) rfl rfl hl.1 rfl (lv_room (Nat.le_of_ble_eq_true rfl)) dX7_many_9 ⟨Nat.le_of_ble_eq_true rfl, Nat.le_of_ble_eq_true rfl⟩) hA hw [] [0, 1] rfl rfl rfl (by decide) (fun r_1 u_2 H locs hp hw => ?_)
  obtain ⟨rfl, rfl⟩ := hp
  have hw : rc_W E A s [(h0, .inr (12, [.int 0, .ref h1, .ref h2, .ref h3, .ref h4, .ref h5, .int 1, .int 3, .int 50, .int (-1), .int (-1), .int (-1), .int (-1), .int 0, .int 100, .int 1000, .long 0])), (h3, .inr (4, [.int 0, .ref (E.2.2 0), .int 0]))] H locs := hw
  refine lv_if_eq (tgt := 23) hx hb dX7_many_12 (by decide) (fun c9 => absurd c9 (by decide)) (fun _ => ?_)
  refine lv_aload_n hx hb dX7_many_15 rfl (lv_at hl 0 rfl) ?_
  refine lv_iload_n hx hb dX7_many_16 rfl (lv_at hl 1 rfl) ?_
  refine rc_calli (wr := []) (va_runV (As := [.int 3]) (rest := []) (Ts := []) ⟨hx, hb, hml, hown, fun _ h9 => absurd h9 List.not_mem_nil⟩ (cw_X7_manyNow_14 l E _ h0 h1 h2 h3 h4 h5) (rc_cwV hAm qw_1433 qw_13 qw_1436 qw_1435 qs_69 rfl rfl hd_X7_manyNow ⟨Nat.le_of_ble_eq_true rfl, Nat.le_of_ble_eq_true rfl⟩) (rc_preV hAm hA hw [0, 1] rfl rfl 0 rfl (q := vwCl[12]) rfl) rfl rfl hl.1 rfl (lv_room (Nat.le_of_ble_eq_true rfl)) dX7_many_17 ⟨Nat.le_of_ble_eq_true rfl, Nat.le_of_ble_eq_true rfl⟩) hA hw [0, 1] [] rfl rfl rfl (by decide) (fun r_3 u_4 H locs hp hw => ?_)
  obtain ⟨rfl, rfl⟩ := hp
  have hw : rc_W E A s [(h0, .inr (12, [.int 0, .ref h1, .ref h2, .ref h3, .ref h4, .ref h5, .int 1, .int 3, .int 50, .int (-1), .int (-1), .int (-1), .int (-1), .int 0, .int 100, .int 1000, .long 0])), (h3, .inr (4, [.int 0, .ref (E.2.2 0), .int 0]))] H locs := hw
  refine lv_goto (tgt := 28) hx hb dX7_many_20 (by decide) ?_
  exact rc_iret (v := 0) hx hb hr hlocks hw [(h0, .inr (12, [.int 0, .ref h1, .ref h2, .ref h3, .ref h4, .ref h5, .int 1, .int 3, .int 50, .int (-1), .int (-1), .int (-1), .int (-1), .int 0, .int 100, .int 1000, .long 0])), (h3, .inr (4, [.int 0, .ref (E.2.2 0), .int 0]))] (⟨rfl, rfl⟩) [0, 1] rfl (by decide) (Nat.le_of_ble_eq_true rfl) (Nat.le_of_ble_eq_true rfl) dX7_many_28
set_option maxHeartbeats 4000000 in
set_option maxRecDepth 100000 in
theorem cw_X7_is_74 (l : Launch) (E : rc_E) (sz : Nat) : rc_Mi l yX7_is [Cond.code yX7_is cX7_is 3 (some FieldType.boolean)] { frames := 0, cells := 0, slots := 0, locals := 0 } E [.int 4, .int 0, .int 8] [] sz (S := va_W) (fun (r : Int32) (u : va_W) => (1 = r ∧ u = [])) (fun u => u) 0 0 := by
  refine rc_ini (cc := cX7_is) (maxL := 3) (ret := (some FieldType.boolean)) (by decide) rfl (Nat.le_of_ble_eq_true rfl) ?_
  intro p e s m args below meth c ls A hx hb hr hml _ hown hlocks hin hA hAm hw hl
  have hown : s.vm.findClass RX7 = some m.cls := hown
  have hl : lv_has ls 3 [(0, .int 4), (1, .int 0), (2, .int 8)] := hl
  refine lv_iload_n hx hb dX7_is_0 rfl (lv_at hl 0 rfl) ?_
  refine lv_iload_n hx hb dX7_is_1 rfl (lv_at hl 1 rfl) ?_
  refine lv_icmp_lt (tgt := 14) hx hb dX7_is_2 (by decide) (fun c9 => absurd c9 (by decide)) (fun _ => ?_)
  refine lv_iload_n hx hb dX7_is_5 rfl (lv_at hl 0 rfl) ?_
  refine lv_iload_n hx hb dX7_is_6 rfl (lv_at hl 2 rfl) ?_
  refine lv_icmp_gt (tgt := 14) hx hb dX7_is_7 (by decide) (fun c9 => absurd c9 (by decide)) (fun _ => ?_)
  refine lv_iconst (v := 1) hx hb dX7_is_10 (by decide) ?_
  refine lv_goto (tgt := 15) hx hb dX7_is_11 (by decide) ?_
  exact rc_zret (v := 1) hx hb hr hlocks hw rfl [] (⟨rfl, rfl⟩) [] rfl (by decide) (Nat.le_of_ble_eq_true rfl) (Nat.le_of_ble_eq_true rfl) dX7_is_15
set_option maxHeartbeats 4000000 in
set_option maxRecDepth 100000 in
theorem cw_X7_manyNow_15 (l : Launch) (E : rc_E) (sz : Nat) (h0 : Nat) (h1 : Nat) (h2 : Nat) (h3 : Nat) (h4 : Nat) (h5 : Nat) : rc_Mi l yX7_manyNow [Cond.code yX7_manyNow cX7_manyNow 7 (some FieldType.int)] { frames := 0, cells := 0, slots := 0, locals := 0 } E [.ref h0, .int 4] [(h0, .inr (12, [.int 0, .ref h1, .ref h2, .ref h3, .ref h4, .ref h5, .int 1, .int 3, .int 50, .int (-1), .int (-1), .int (-1), .int (-1), .int 0, .int 100, .int 1000, .long 0]))] sz (S := va_W) (fun (r : Int32) (u : va_W) => (1000 = r ∧ u = [(h0, .inr (12, [.int 0, .ref h1, .ref h2, .ref h3, .ref h4, .ref h5, .int 1, .int 3, .int 50, .int (-1), .int (-1), .int (-1), .int (-1), .int 0, .int 100, .int 1000, .long 0]))])) (fun u => u) 0 0 := by
  refine rc_ini (cc := cX7_manyNow) (maxL := 7) (ret := (some FieldType.int)) (by decide) rfl (Nat.le_of_ble_eq_true rfl) ?_
  intro p e s m args below meth c ls A hx hb hr hml _ hown hlocks hin hA hAm hw hl
  have hown : s.vm.findClass RX7 = some m.cls := hown
  have hl : lv_has ls 7 [(0, .ref h0), (1, .int 4)] := hl
  refine lv_iconst (v := 0) hx hb dX7_manyNow_0 (by decide) ?_
  refine lv_istore_n (lv' := [(2, .int 0), (0, .ref h0), (1, .int 4)]) hx hb dX7_manyNow_1 rfl hl (by decide) rfl (fun ls hl => ?_)
  refine lv_iload_n hx hb dX7_manyNow_2 rfl (lv_at hl 2 rfl) ?_
  refine lv_tableIn (tgt := 120) hx hb dX7_manyNow_3 (by decide) (by decide) rfl (by decide) ?_
  refine lv_aload_n hx hb dX7_manyNow_120 rfl (lv_at hl 1 rfl) ?_
  refine rc_get (v := .int 1000) hx hb hown hAm hw lyX7 0 rfl rfl 15 (by decide) qw_875 (fun _ h9 => h9) rfl dX7_manyNow_121 ?_
  exact rc_iret (v := 1000) hx hb hr hlocks hw [(h0, .inr (12, [.int 0, .ref h1, .ref h2, .ref h3, .ref h4, .ref h5, .int 1, .int 3, .int 50, .int (-1), .int (-1), .int (-1), .int (-1), .int 0, .int 100, .int 1000, .long 0]))] (⟨rfl, rfl⟩) [0] rfl (by decide) (Nat.le_of_ble_eq_true rfl) (Nat.le_of_ble_eq_true rfl) dX7_manyNow_124
set_option maxHeartbeats 4000000 in
set_option maxRecDepth 100000 in
theorem cw_X7_many_6 (l : Launch) (E : rc_E) (sz : Nat) (h0 : Nat) (h1 : Nat) (h2 : Nat) (h3 : Nat) (h4 : Nat) (h5 : Nat) : rc_Mi l yX7_many [Cond.code yX7_many cX7_many 2 (some FieldType.int)] { frames := 1, cells := 0, slots := 0, locals := 26 } E [.ref h0, .int 4] [(h0, .inr (12, [.int 0, .ref h1, .ref h2, .ref h3, .ref h4, .ref h5, .int 1, .int 3, .int 50, .int (-1), .int (-1), .int (-1), .int (-1), .int 0, .int 100, .int 1000, .long 0]))] sz (S := va_W) (fun (r : Int32) (u : va_W) => (1000 = r ∧ u = [(h0, .inr (12, [.int 0, .ref h1, .ref h2, .ref h3, .ref h4, .ref h5, .int 1, .int 3, .int 50, .int (-1), .int (-1), .int (-1), .int (-1), .int 0, .int 100, .int 1000, .long 0]))])) (fun u => u) 0 0 := by
  refine rc_ini (cc := cX7_many) (maxL := 2) (ret := (some FieldType.int)) (by decide) rfl (Nat.le_of_ble_eq_true rfl) ?_
  intro p e s m args below meth c ls A hx hb hr hml _ hown hlocks hin hA hAm hw hl
  have hown : s.vm.findClass RX7 = some m.cls := hown
  have hl : lv_has ls 2 [(0, .ref h0), (1, .int 4)] := hl
  refine lv_aload_n hx hb dX7_many_0 rfl (lv_at hl 0 rfl) ?_
  refine lv_iconst (v := 0) hx hb dX7_many_1 (by decide) ?_
  refine rc_put hx hb hown hAm hw lyX7 tyX7 tyX7_ok nmX7 0 rfl rfl 0 (by decide) qw_860 (fun _ h9 => h9) rfl rfl (by decide +kernel) (Nat.le_of_ble_eq_true rfl) [(h0, .inr (12, [.int 0, .ref h1, .ref h2, .ref h3, .ref h4, .ref h5, .int 1, .int 3, .int 50, .int (-1), .int (-1), .int (-1), .int (-1), .int 0, .int 100, .int 1000, .long 0]))] rfl dX7_many_2 (fun H locs hw => ?_)
  refine lv_iload_n hx hb dX7_many_5 rfl (lv_at hl 1 rfl) ?_
  refine lv_iconst (v := 0) hx hb dX7_many_6 (by decide) ?_
  refine lv_bipush (v := 8) hx hb dX7_many_7 (by decide) ?_
  refine rc_calli (wr := [(h0, .inr (12, [.int 0, .ref h1, .ref h2, .ref h3, .ref h4, .ref h5, .int 1, .int 3, .int 50, .int (-1), .int (-1), .int (-1), .int (-1), .int 0, .int 100, .int 1000, .long 0]))]) (va_runS (As := [.int 4, .int 0, .int 8]) (rest := []) (Ts := []) ⟨hx, hb, hml, hown, fun _ h9 => absurd h9 List.not_mem_nil⟩ (cw_X7_is_74 l E _) (rc_cwS hAm qw_921 qw_13 qw_923 qw_922 rfl rfl hd_X7_is ⟨Nat.le_of_ble_eq_true rfl, Nat.le_of_ble_eq_true rfl⟩) (rc_preS hAm hA hw [] rfl rfl) rfl rfl hl.1 rfl (lv_room (Nat.le_of_ble_eq_true rfl)) dX7_many_9 ⟨Nat.le_of_ble_eq_true rfl, Nat.le_of_ble_eq_true rfl⟩) hA hw [] [0] rfl rfl rfl (by decide) (fun r_1 u_2 H locs hp hw => ?_)
  obtain ⟨rfl, rfl⟩ := hp
  have hw : rc_W E A s [(h0, .inr (12, [.int 0, .ref h1, .ref h2, .ref h3, .ref h4, .ref h5, .int 1, .int 3, .int 50, .int (-1), .int (-1), .int (-1), .int (-1), .int 0, .int 100, .int 1000, .long 0]))] H locs := hw
  refine lv_if_eq (tgt := 23) hx hb dX7_many_12 (by decide) (fun c9 => absurd c9 (by decide)) (fun _ => ?_)
  refine lv_aload_n hx hb dX7_many_15 rfl (lv_at hl 0 rfl) ?_
  refine lv_iload_n hx hb dX7_many_16 rfl (lv_at hl 1 rfl) ?_
  refine rc_calli (wr := []) (va_runV (As := [.int 4]) (rest := []) (Ts := []) ⟨hx, hb, hml, hown, fun _ h9 => absurd h9 List.not_mem_nil⟩ (cw_X7_manyNow_15 l E _ h0 h1 h2 h3 h4 h5) (rc_cwV hAm qw_1433 qw_13 qw_1436 qw_1435 qs_69 rfl rfl hd_X7_manyNow ⟨Nat.le_of_ble_eq_true rfl, Nat.le_of_ble_eq_true rfl⟩) (rc_preV hAm hA hw [0] rfl rfl 0 rfl (q := vwCl[12]) rfl) rfl rfl hl.1 rfl (lv_room (Nat.le_of_ble_eq_true rfl)) dX7_many_17 ⟨Nat.le_of_ble_eq_true rfl, Nat.le_of_ble_eq_true rfl⟩) hA hw [0] [] rfl rfl rfl (by decide) (fun r_3 u_4 H locs hp hw => ?_)
  obtain ⟨rfl, rfl⟩ := hp
  have hw : rc_W E A s [(h0, .inr (12, [.int 0, .ref h1, .ref h2, .ref h3, .ref h4, .ref h5, .int 1, .int 3, .int 50, .int (-1), .int (-1), .int (-1), .int (-1), .int 0, .int 100, .int 1000, .long 0]))] H locs := hw
  refine lv_goto (tgt := 28) hx hb dX7_many_20 (by decide) ?_
  exact rc_iret (v := 1000) hx hb hr hlocks hw [(h0, .inr (12, [.int 0, .ref h1, .ref h2, .ref h3, .ref h4, .ref h5, .int 1, .int 3, .int 50, .int (-1), .int (-1), .int (-1), .int (-1), .int 0, .int 100, .int 1000, .long 0]))] (⟨rfl, rfl⟩) [0] rfl (by decide) (Nat.le_of_ble_eq_true rfl) (Nat.le_of_ble_eq_true rfl) dX7_many_28
set_option maxHeartbeats 4000000 in
set_option maxRecDepth 100000 in
theorem cw_X7_is_75 (l : Launch) (E : rc_E) (sz : Nat) : rc_Mi l yX7_is [Cond.code yX7_is cX7_is 3 (some FieldType.boolean)] { frames := 0, cells := 0, slots := 0, locals := 0 } E [.int 5, .int 0, .int 8] [] sz (S := va_W) (fun (r : Int32) (u : va_W) => (1 = r ∧ u = [])) (fun u => u) 0 0 := by
  refine rc_ini (cc := cX7_is) (maxL := 3) (ret := (some FieldType.boolean)) (by decide) rfl (Nat.le_of_ble_eq_true rfl) ?_
  intro p e s m args below meth c ls A hx hb hr hml _ hown hlocks hin hA hAm hw hl
  have hown : s.vm.findClass RX7 = some m.cls := hown
  have hl : lv_has ls 3 [(0, .int 5), (1, .int 0), (2, .int 8)] := hl
  refine lv_iload_n hx hb dX7_is_0 rfl (lv_at hl 0 rfl) ?_
  refine lv_iload_n hx hb dX7_is_1 rfl (lv_at hl 1 rfl) ?_
  refine lv_icmp_lt (tgt := 14) hx hb dX7_is_2 (by decide) (fun c9 => absurd c9 (by decide)) (fun _ => ?_)
  refine lv_iload_n hx hb dX7_is_5 rfl (lv_at hl 0 rfl) ?_
  refine lv_iload_n hx hb dX7_is_6 rfl (lv_at hl 2 rfl) ?_
  refine lv_icmp_gt (tgt := 14) hx hb dX7_is_7 (by decide) (fun c9 => absurd c9 (by decide)) (fun _ => ?_)
  refine lv_iconst (v := 1) hx hb dX7_is_10 (by decide) ?_
  refine lv_goto (tgt := 15) hx hb dX7_is_11 (by decide) ?_
  exact rc_zret (v := 1) hx hb hr hlocks hw rfl [] (⟨rfl, rfl⟩) [] rfl (by decide) (Nat.le_of_ble_eq_true rfl) (Nat.le_of_ble_eq_true rfl) dX7_is_15
set_option maxHeartbeats 4000000 in
set_option maxRecDepth 100000 in
theorem cw_X7_manyNow_16 (l : Launch) (E : rc_E) (sz : Nat) (h0 : Nat) (h1 : Nat) (h2 : Nat) (h3 : Nat) (h4 : Nat) (h5 : Nat) : rc_Mi l yX7_manyNow [Cond.code yX7_manyNow cX7_manyNow 7 (some FieldType.int)] { frames := 0, cells := 0, slots := 0, locals := 0 } E [.ref h0, .int 5] [(h0, .inr (12, [.int 0, .ref h1, .ref h2, .ref h3, .ref h4, .ref h5, .int 1, .int 3, .int 50, .int (-1), .int (-1), .int (-1), .int (-1), .int 0, .int 100, .int 1000, .long 0]))] sz (S := va_W) (fun (r : Int32) (u : va_W) => (100 = r ∧ u = [(h0, .inr (12, [.int 0, .ref h1, .ref h2, .ref h3, .ref h4, .ref h5, .int 1, .int 3, .int 50, .int (-1), .int (-1), .int (-1), .int (-1), .int 0, .int 100, .int 1000, .long 0]))])) (fun u => u) 0 0 := by
  refine rc_ini (cc := cX7_manyNow) (maxL := 7) (ret := (some FieldType.int)) (by decide) rfl (Nat.le_of_ble_eq_true rfl) ?_
  intro p e s m args below meth c ls A hx hb hr hml _ hown hlocks hin hA hAm hw hl
  have hown : s.vm.findClass RX7 = some m.cls := hown
  have hl : lv_has ls 7 [(0, .ref h0), (1, .int 5)] := hl
  refine lv_iconst (v := 0) hx hb dX7_manyNow_0 (by decide) ?_
  refine lv_istore_n (lv' := [(2, .int 0), (0, .ref h0), (1, .int 5)]) hx hb dX7_manyNow_1 rfl hl (by decide) rfl (fun ls hl => ?_)
  refine lv_iload_n hx hb dX7_manyNow_2 rfl (lv_at hl 2 rfl) ?_
  refine lv_tableIn (tgt := 125) hx hb dX7_manyNow_3 (by decide) (by decide) rfl (by decide) ?_
  refine lv_aload_n hx hb dX7_manyNow_125 rfl (lv_at hl 1 rfl) ?_
  refine rc_get (v := .int 100) hx hb hown hAm hw lyX7 0 rfl rfl 14 (by decide) qw_874 (fun _ h9 => h9) rfl dX7_manyNow_126 ?_
  exact rc_iret (v := 100) hx hb hr hlocks hw [(h0, .inr (12, [.int 0, .ref h1, .ref h2, .ref h3, .ref h4, .ref h5, .int 1, .int 3, .int 50, .int (-1), .int (-1), .int (-1), .int (-1), .int 0, .int 100, .int 1000, .long 0]))] (⟨rfl, rfl⟩) [0] rfl (by decide) (Nat.le_of_ble_eq_true rfl) (Nat.le_of_ble_eq_true rfl) dX7_manyNow_129
set_option maxHeartbeats 4000000 in
set_option maxRecDepth 100000 in
theorem cw_X7_many_7 (l : Launch) (E : rc_E) (sz : Nat) (h0 : Nat) (h1 : Nat) (h2 : Nat) (h3 : Nat) (h4 : Nat) (h5 : Nat) : rc_Mi l yX7_many [Cond.code yX7_many cX7_many 2 (some FieldType.int)] { frames := 1, cells := 0, slots := 0, locals := 26 } E [.ref h0, .int 5] [(h0, .inr (12, [.int 0, .ref h1, .ref h2, .ref h3, .ref h4, .ref h5, .int 1, .int 3, .int 50, .int (-1), .int (-1), .int (-1), .int (-1), .int 0, .int 100, .int 1000, .long 0]))] sz (S := va_W) (fun (r : Int32) (u : va_W) => (100 = r ∧ u = [(h0, .inr (12, [.int 0, .ref h1, .ref h2, .ref h3, .ref h4, .ref h5, .int 1, .int 3, .int 50, .int (-1), .int (-1), .int (-1), .int (-1), .int 0, .int 100, .int 1000, .long 0]))])) (fun u => u) 0 0 := by
  refine rc_ini (cc := cX7_many) (maxL := 2) (ret := (some FieldType.int)) (by decide) rfl (Nat.le_of_ble_eq_true rfl) ?_
  intro p e s m args below meth c ls A hx hb hr hml _ hown hlocks hin hA hAm hw hl
  have hown : s.vm.findClass RX7 = some m.cls := hown
  have hl : lv_has ls 2 [(0, .ref h0), (1, .int 5)] := hl
  refine lv_aload_n hx hb dX7_many_0 rfl (lv_at hl 0 rfl) ?_
  refine lv_iconst (v := 0) hx hb dX7_many_1 (by decide) ?_
  refine rc_put hx hb hown hAm hw lyX7 tyX7 tyX7_ok nmX7 0 rfl rfl 0 (by decide) qw_860 (fun _ h9 => h9) rfl rfl (by decide +kernel) (Nat.le_of_ble_eq_true rfl) [(h0, .inr (12, [.int 0, .ref h1, .ref h2, .ref h3, .ref h4, .ref h5, .int 1, .int 3, .int 50, .int (-1), .int (-1), .int (-1), .int (-1), .int 0, .int 100, .int 1000, .long 0]))] rfl dX7_many_2 (fun H locs hw => ?_)
  refine lv_iload_n hx hb dX7_many_5 rfl (lv_at hl 1 rfl) ?_
  refine lv_iconst (v := 0) hx hb dX7_many_6 (by decide) ?_
  refine lv_bipush (v := 8) hx hb dX7_many_7 (by decide) ?_
  refine rc_calli (wr := [(h0, .inr (12, [.int 0, .ref h1, .ref h2, .ref h3, .ref h4, .ref h5, .int 1, .int 3, .int 50, .int (-1), .int (-1), .int (-1), .int (-1), .int 0, .int 100, .int 1000, .long 0]))]) (va_runS (As := [.int 5, .int 0, .int 8]) (rest := []) (Ts := []) ⟨hx, hb, hml, hown, fun _ h9 => absurd h9 List.not_mem_nil⟩ (cw_X7_is_75 l E _) (rc_cwS hAm qw_921 qw_13 qw_923 qw_922 rfl rfl hd_X7_is ⟨Nat.le_of_ble_eq_true rfl, Nat.le_of_ble_eq_true rfl⟩) (rc_preS hAm hA hw [] rfl rfl) rfl rfl hl.1 rfl (lv_room (Nat.le_of_ble_eq_true rfl)) dX7_many_9 ⟨Nat.le_of_ble_eq_true rfl, Nat.le_of_ble_eq_true rfl⟩) hA hw [] [0] rfl rfl rfl (by decide) (fun r_1 u_2 H locs hp hw => ?_)
  obtain ⟨rfl, rfl⟩ := hp
  have hw : rc_W E A s [(h0, .inr (12, [.int 0, .ref h1, .ref h2, .ref h3, .ref h4, .ref h5, .int 1, .int 3, .int 50, .int (-1), .int (-1), .int (-1), .int (-1), .int 0, .int 100, .int 1000, .long 0]))] H locs := hw
  refine lv_if_eq (tgt := 23) hx hb dX7_many_12 (by decide) (fun c9 => absurd c9 (by decide)) (fun _ => ?_)
  refine lv_aload_n hx hb dX7_many_15 rfl (lv_at hl 0 rfl) ?_
  refine lv_iload_n hx hb dX7_many_16 rfl (lv_at hl 1 rfl) ?_
  refine rc_calli (wr := []) (va_runV (As := [.int 5]) (rest := []) (Ts := []) ⟨hx, hb, hml, hown, fun _ h9 => absurd h9 List.not_mem_nil⟩ (cw_X7_manyNow_16 l E _ h0 h1 h2 h3 h4 h5) (rc_cwV hAm qw_1433 qw_13 qw_1436 qw_1435 qs_69 rfl rfl hd_X7_manyNow ⟨Nat.le_of_ble_eq_true rfl, Nat.le_of_ble_eq_true rfl⟩) (rc_preV hAm hA hw [0] rfl rfl 0 rfl (q := vwCl[12]) rfl) rfl rfl hl.1 rfl (lv_room (Nat.le_of_ble_eq_true rfl)) dX7_many_17 ⟨Nat.le_of_ble_eq_true rfl, Nat.le_of_ble_eq_true rfl⟩) hA hw [0] [] rfl rfl rfl (by decide) (fun r_3 u_4 H locs hp hw => ?_)
  obtain ⟨rfl, rfl⟩ := hp
  have hw : rc_W E A s [(h0, .inr (12, [.int 0, .ref h1, .ref h2, .ref h3, .ref h4, .ref h5, .int 1, .int 3, .int 50, .int (-1), .int (-1), .int (-1), .int (-1), .int 0, .int 100, .int 1000, .long 0]))] H locs := hw
  refine lv_goto (tgt := 28) hx hb dX7_many_20 (by decide) ?_
  exact rc_iret (v := 100) hx hb hr hlocks hw [(h0, .inr (12, [.int 0, .ref h1, .ref h2, .ref h3, .ref h4, .ref h5, .int 1, .int 3, .int 50, .int (-1), .int (-1), .int (-1), .int (-1), .int 0, .int 100, .int 1000, .long 0]))] (⟨rfl, rfl⟩) [0] rfl (by decide) (Nat.le_of_ble_eq_true rfl) (Nat.le_of_ble_eq_true rfl) dX7_many_28
set_option maxHeartbeats 4000000 in
set_option maxRecDepth 100000 in
theorem cw_X7_is_76 (l : Launch) (E : rc_E) (sz : Nat) : rc_Mi l yX7_is [Cond.code yX7_is cX7_is 3 (some FieldType.boolean)] { frames := 0, cells := 0, slots := 0, locals := 0 } E [.int 6, .int 0, .int 8] [] sz (S := va_W) (fun (r : Int32) (u : va_W) => (1 = r ∧ u = [])) (fun u => u) 0 0 := by
  refine rc_ini (cc := cX7_is) (maxL := 3) (ret := (some FieldType.boolean)) (by decide) rfl (Nat.le_of_ble_eq_true rfl) ?_
  intro p e s m args below meth c ls A hx hb hr hml _ hown hlocks hin hA hAm hw hl
  have hown : s.vm.findClass RX7 = some m.cls := hown
  have hl : lv_has ls 3 [(0, .int 6), (1, .int 0), (2, .int 8)] := hl
  refine lv_iload_n hx hb dX7_is_0 rfl (lv_at hl 0 rfl) ?_
  refine lv_iload_n hx hb dX7_is_1 rfl (lv_at hl 1 rfl) ?_
  refine lv_icmp_lt (tgt := 14) hx hb dX7_is_2 (by decide) (fun c9 => absurd c9 (by decide)) (fun _ => ?_)
  refine lv_iload_n hx hb dX7_is_5 rfl (lv_at hl 0 rfl) ?_
  refine lv_iload_n hx hb dX7_is_6 rfl (lv_at hl 2 rfl) ?_
  refine lv_icmp_gt (tgt := 14) hx hb dX7_is_7 (by decide) (fun c9 => absurd c9 (by decide)) (fun _ => ?_)
  refine lv_iconst (v := 1) hx hb dX7_is_10 (by decide) ?_
  refine lv_goto (tgt := 15) hx hb dX7_is_11 (by decide) ?_
  exact rc_zret (v := 1) hx hb hr hlocks hw rfl [] (⟨rfl, rfl⟩) [] rfl (by decide) (Nat.le_of_ble_eq_true rfl) (Nat.le_of_ble_eq_true rfl) dX7_is_15
set_option maxHeartbeats 4000000 in
set_option maxRecDepth 100000 in
theorem cw_X7_manyNow_17 (l : Launch) (E : rc_E) (sz : Nat) (h0 : Nat) (h1 : Nat) (h2 : Nat) (h3 : Nat) (h4 : Nat) (h5 : Nat) : rc_Mi l yX7_manyNow [Cond.code yX7_manyNow cX7_manyNow 7 (some FieldType.int)] { frames := 0, cells := 0, slots := 0, locals := 0 } E [.ref h0, .int 6] [(h0, .inr (12, [.int 0, .ref h1, .ref h2, .ref h3, .ref h4, .ref h5, .int 1, .int 3, .int 50, .int (-1), .int (-1), .int (-1), .int (-1), .int 0, .int 100, .int 1000, .long 0]))] sz (S := va_W) (fun (r : Int32) (u : va_W) => (0 = r ∧ u = [(h0, .inr (12, [.int 0, .ref h1, .ref h2, .ref h3, .ref h4, .ref h5, .int 1, .int 3, .int 50, .int (-1), .int (-1), .int (-1), .int (-1), .int 0, .int 100, .int 1000, .long 0]))])) (fun u => u) 0 0 := by
  refine rc_ini (cc := cX7_manyNow) (maxL := 7) (ret := (some FieldType.int)) (by decide) rfl (Nat.le_of_ble_eq_true rfl) ?_
  intro p e s m args below meth c ls A hx hb hr hml _ hown hlocks hin hA hAm hw hl
  have hown : s.vm.findClass RX7 = some m.cls := hown
  have hl : lv_has ls 7 [(0, .ref h0), (1, .int 6)] := hl
  refine lv_iconst (v := 0) hx hb dX7_manyNow_0 (by decide) ?_
  refine lv_istore_n (lv' := [(2, .int 0), (0, .ref h0), (1, .int 6)]) hx hb dX7_manyNow_1 rfl hl (by decide) rfl (fun ls hl => ?_)
  refine lv_iload_n hx hb dX7_manyNow_2 rfl (lv_at hl 2 rfl) ?_
  refine lv_tableIn (tgt := 130) hx hb dX7_manyNow_3 (by decide) (by decide) rfl (by decide) ?_
  refine lv_aload_n hx hb dX7_manyNow_130 rfl (lv_at hl 1 rfl) ?_
  refine rc_get (v := .int 0) hx hb hown hAm hw lyX7 0 rfl rfl 13 (by decide) qw_873 (fun _ h9 => h9) rfl dX7_manyNow_131 ?_
  exact rc_iret (v := 0) hx hb hr hlocks hw [(h0, .inr (12, [.int 0, .ref h1, .ref h2, .ref h3, .ref h4, .ref h5, .int 1, .int 3, .int 50, .int (-1), .int (-1), .int (-1), .int (-1), .int 0, .int 100, .int 1000, .long 0]))] (⟨rfl, rfl⟩) [0] rfl (by decide) (Nat.le_of_ble_eq_true rfl) (Nat.le_of_ble_eq_true rfl) dX7_manyNow_134
set_option maxHeartbeats 4000000 in
set_option maxRecDepth 100000 in
theorem cw_X7_many_8 (l : Launch) (E : rc_E) (sz : Nat) (h0 : Nat) (h1 : Nat) (h2 : Nat) (h3 : Nat) (h4 : Nat) (h5 : Nat) : rc_Mi l yX7_many [Cond.code yX7_many cX7_many 2 (some FieldType.int)] { frames := 1, cells := 0, slots := 0, locals := 26 } E [.ref h0, .int 6] [(h0, .inr (12, [.int 0, .ref h1, .ref h2, .ref h3, .ref h4, .ref h5, .int 1, .int 3, .int 50, .int (-1), .int (-1), .int (-1), .int (-1), .int 0, .int 100, .int 1000, .long 0]))] sz (S := va_W) (fun (r : Int32) (u : va_W) => (0 = r ∧ u = [(h0, .inr (12, [.int 0, .ref h1, .ref h2, .ref h3, .ref h4, .ref h5, .int 1, .int 3, .int 50, .int (-1), .int (-1), .int (-1), .int (-1), .int 0, .int 100, .int 1000, .long 0]))])) (fun u => u) 0 0 := by
  refine rc_ini (cc := cX7_many) (maxL := 2) (ret := (some FieldType.int)) (by decide) rfl (Nat.le_of_ble_eq_true rfl) ?_
  intro p e s m args below meth c ls A hx hb hr hml _ hown hlocks hin hA hAm hw hl
  have hown : s.vm.findClass RX7 = some m.cls := hown
  have hl : lv_has ls 2 [(0, .ref h0), (1, .int 6)] := hl
  refine lv_aload_n hx hb dX7_many_0 rfl (lv_at hl 0 rfl) ?_
  refine lv_iconst (v := 0) hx hb dX7_many_1 (by decide) ?_
  refine rc_put hx hb hown hAm hw lyX7 tyX7 tyX7_ok nmX7 0 rfl rfl 0 (by decide) qw_860 (fun _ h9 => h9) rfl rfl (by decide +kernel) (Nat.le_of_ble_eq_true rfl) [(h0, .inr (12, [.int 0, .ref h1, .ref h2, .ref h3, .ref h4, .ref h5, .int 1, .int 3, .int 50, .int (-1), .int (-1), .int (-1), .int (-1), .int 0, .int 100, .int 1000, .long 0]))] rfl dX7_many_2 (fun H locs hw => ?_)
  refine lv_iload_n hx hb dX7_many_5 rfl (lv_at hl 1 rfl) ?_
  refine lv_iconst (v := 0) hx hb dX7_many_6 (by decide) ?_
  refine lv_bipush (v := 8) hx hb dX7_many_7 (by decide) ?_
  refine rc_calli (wr := [(h0, .inr (12, [.int 0, .ref h1, .ref h2, .ref h3, .ref h4, .ref h5, .int 1, .int 3, .int 50, .int (-1), .int (-1), .int (-1), .int (-1), .int 0, .int 100, .int 1000, .long 0]))]) (va_runS (As := [.int 6, .int 0, .int 8]) (rest := []) (Ts := []) ⟨hx, hb, hml, hown, fun _ h9 => absurd h9 List.not_mem_nil⟩ (cw_X7_is_76 l E _) (rc_cwS hAm qw_921 qw_13 qw_923 qw_922 rfl rfl hd_X7_is ⟨Nat.le_of_ble_eq_true rfl, Nat.le_of_ble_eq_true rfl⟩) (rc_preS hAm hA hw [] rfl rfl) rfl rfl hl.1 rfl (lv_room (Nat.le_of_ble_eq_true rfl)) dX7_many_9 ⟨Nat.le_of_ble_eq_true rfl, Nat.le_of_ble_eq_true rfl⟩) hA hw [] [0] rfl rfl rfl (by decide) (fun r_1 u_2 H locs hp hw => ?_)
  obtain ⟨rfl, rfl⟩ := hp
  have hw : rc_W E A s [(h0, .inr (12, [.int 0, .ref h1, .ref h2, .ref h3, .ref h4, .ref h5, .int 1, .int 3, .int 50, .int (-1), .int (-1), .int (-1), .int (-1), .int 0, .int 100, .int 1000, .long 0]))] H locs := hw
  refine lv_if_eq (tgt := 23) hx hb dX7_many_12 (by decide) (fun c9 => absurd c9 (by decide)) (fun _ => ?_)
  refine lv_aload_n hx hb dX7_many_15 rfl (lv_at hl 0 rfl) ?_
  refine lv_iload_n hx hb dX7_many_16 rfl (lv_at hl 1 rfl) ?_
  refine rc_calli (wr := []) (va_runV (As := [.int 6]) (rest := []) (Ts := []) ⟨hx, hb, hml, hown, fun _ h9 => absurd h9 List.not_mem_nil⟩ (cw_X7_manyNow_17 l E _ h0 h1 h2 h3 h4 h5) (rc_cwV hAm qw_1433 qw_13 qw_1436 qw_1435 qs_69 rfl rfl hd_X7_manyNow ⟨Nat.le_of_ble_eq_true rfl, Nat.le_of_ble_eq_true rfl⟩) (rc_preV hAm hA hw [0] rfl rfl 0 rfl (q := vwCl[12]) rfl) rfl rfl hl.1 rfl (lv_room (Nat.le_of_ble_eq_true rfl)) dX7_many_17 ⟨Nat.le_of_ble_eq_true rfl, Nat.le_of_ble_eq_true rfl⟩) hA hw [0] [] rfl rfl rfl (by decide) (fun r_3 u_4 H locs hp hw => ?_)
  obtain ⟨rfl, rfl⟩ := hp
  have hw : rc_W E A s [(h0, .inr (12, [.int 0, .ref h1, .ref h2, .ref h3, .ref h4, .ref h5, .int 1, .int 3, .int 50, .int (-1), .int (-1), .int (-1), .int (-1), .int 0, .int 100, .int 1000, .long 0]))] H locs := hw
  refine lv_goto (tgt := 28) hx hb dX7_many_20 (by decide) ?_
  exact rc_iret (v := 0) hx hb hr hlocks hw [(h0, .inr (12, [.int 0, .ref h1, .ref h2, .ref h3, .ref h4, .ref h5, .int 1, .int 3, .int 50, .int (-1), .int (-1), .int (-1), .int (-1), .int 0, .int 100, .int 1000, .long 0]))] (⟨rfl, rfl⟩) [0] rfl (by decide) (Nat.le_of_ble_eq_true rfl) (Nat.le_of_ble_eq_true rfl) dX7_many_28
set_option maxHeartbeats 4000000 in
set_option maxRecDepth 100000 in
theorem cw_X7_is_77 (l : Launch) (E : rc_E) (sz : Nat) : rc_Mi l yX7_is [Cond.code yX7_is cX7_is 3 (some FieldType.boolean)] { frames := 0, cells := 0, slots := 0, locals := 0 } E [.int 7, .int 0, .int 8] [] sz (S := va_W) (fun (r : Int32) (u : va_W) => (1 = r ∧ u = [])) (fun u => u) 0 0 := by
  refine rc_ini (cc := cX7_is) (maxL := 3) (ret := (some FieldType.boolean)) (by decide) rfl (Nat.le_of_ble_eq_true rfl) ?_
  intro p e s m args below meth c ls A hx hb hr hml _ hown hlocks hin hA hAm hw hl
  have hown : s.vm.findClass RX7 = some m.cls := hown
  have hl : lv_has ls 3 [(0, .int 7), (1, .int 0), (2, .int 8)] := hl
  refine lv_iload_n hx hb dX7_is_0 rfl (lv_at hl 0 rfl) ?_
  refine lv_iload_n hx hb dX7_is_1 rfl (lv_at hl 1 rfl) ?_
  refine lv_icmp_lt (tgt := 14) hx hb dX7_is_2 (by decide) (fun c9 => absurd c9 (by decide)) (fun _ => ?_)
  refine lv_iload_n hx hb dX7_is_5 rfl (lv_at hl 0 rfl) ?_
  refine lv_iload_n hx hb dX7_is_6 rfl (lv_at hl 2 rfl) ?_
  refine lv_icmp_gt (tgt := 14) hx hb dX7_is_7 (by decide) (fun c9 => absurd c9 (by decide)) (fun _ => ?_)
  refine lv_iconst (v := 1) hx hb dX7_is_10 (by decide) ?_
  refine lv_goto (tgt := 15) hx hb dX7_is_11 (by decide) ?_
  exact rc_zret (v := 1) hx hb hr hlocks hw rfl [] (⟨rfl, rfl⟩) [] rfl (by decide) (Nat.le_of_ble_eq_true rfl) (Nat.le_of_ble_eq_true rfl) dX7_is_15
set_option maxHeartbeats 4000000 in
set_option maxRecDepth 100000 in
theorem cw_X7_manyNow_18 (l : Launch) (E : rc_E) (sz : Nat) (h0 : Nat) (h1 : Nat) (h2 : Nat) (h3 : Nat) (h4 : Nat) (h5 : Nat) : rc_Mi l yX7_manyNow [Cond.code yX7_manyNow cX7_manyNow 7 (some FieldType.int)] { frames := 0, cells := 0, slots := 0, locals := 0 } E [.ref h0, .int 7] [(h0, .inr (12, [.int 0, .ref h1, .ref h2, .ref h3, .ref h4, .ref h5, .int 1, .int 3, .int 50, .int (-1), .int (-1), .int (-1), .int (-1), .int 0, .int 100, .int 1000, .long 0])), (h4, .inl (E.2.1 3, 40, .inl (fun _ => 0)))] sz (S := va_W) (fun (r : Int32) (u : va_W) => (0 = r ∧ u = [(h0, .inr (12, [.int 0, .ref h1, .ref h2, .ref h3, .ref h4, .ref h5, .int 1, .int 3, .int 50, .int (-1), .int (-1), .int (-1), .int (-1), .int 0, .int 100, .int 1000, .long 0])), (h4, .inl (E.2.1 3, 40, .inl (fun _ => 0)))])) (fun u => u) 0 0 := by
  refine rc_ini (cc := cX7_manyNow) (maxL := 7) (ret := (some FieldType.int)) (by decide) rfl (Nat.le_of_ble_eq_true rfl) ?_
  intro p e s m args below meth c ls A hx hb hr hml _ hown hlocks hin hA hAm hw hl
  have hown : s.vm.findClass RX7 = some m.cls := hown
  have hl : lv_has ls 7 [(0, .ref h0), (1, .int 7)] := hl
  refine lv_iconst (v := 0) hx hb dX7_manyNow_0 (by decide) ?_
  refine lv_istore_n (lv' := [(2, .int 0), (0, .ref h0), (1, .int 7)]) hx hb dX7_manyNow_1 rfl hl (by decide) rfl (fun ls hl => ?_)
  refine lv_iload_n hx hb dX7_manyNow_2 rfl (lv_at hl 2 rfl) ?_
  refine lv_tableIn (tgt := 135) hx hb dX7_manyNow_3 (by decide) (by decide) rfl (by decide) ?_
  refine lv_aload_n hx hb dX7_manyNow_135 rfl (lv_at hl 1 rfl) ?_
  refine rc_get (v := .ref h4) hx hb hown hAm hw lyX7 0 rfl rfl 4 (by decide) qw_864 (fun _ h9 => h9) rfl dX7_manyNow_136 ?_
  refine lv_astore_n (lv' := [(3, .ref h4), (2, .int 0), (0, .ref h0), (1, .int 7)]) hx hb dX7_manyNow_139 rfl hl (by decide) rfl (fun ls hl => ?_)
  refine lv_aload_n hx hb dX7_manyNow_140 rfl (lv_at hl 0 rfl) ?_
  refine rc_alen hx hb hAm hw 1 3 rfl rfl 40 rfl dX7_manyNow_141 ?_
  refine lv_istore (lv' := [(4, .int 40), (3, .ref h4), (2, .int 0), (0, .ref h0), (1, .int 7)]) hx hb dX7_manyNow_142 hl (by decide) rfl (fun ls hl => ?_)
  refine lv_iconst (v := 0) hx hb dX7_manyNow_144 (by decide) ?_
  refine lv_istore (lv' := [(5, .int 0), (4, .int 40), (3, .ref h4), (2, .int 0), (0, .ref h0), (1, .int 7)]) hx hb dX7_manyNow_145 hl (by decide) rfl (fun ls hl => ?_)
  refine lv_iload hx hb dX7_manyNow_147 (lv_at hl 0 rfl) ?_
  refine lv_iload hx hb dX7_manyNow_149 (lv_at hl 1 rfl) ?_
  refine lv_icmp_ge (tgt := 179) hx hb dX7_manyNow_151 (by decide) (fun c9 => absurd c9 (by decide)) (fun _ => ?_)
  refine lv_aload_n hx hb dX7_manyNow_154 rfl (lv_at hl 2 rfl) ?_
  refine lv_iload hx hb dX7_manyNow_155 (lv_at hl 0 rfl) ?_
  refine rc_zald hx hb hAm hw 1 rfl (vp_in_iff.mpr (by decide)) dX7_manyNow_157 ?_
  refine rc_topi 0 rfl ?_
  refine lv_istore (lv' := [(6, .int 0), (5, .int 0), (4, .int 40), (3, .ref h4), (2, .int 0), (0, .ref h0), (1, .int 7)]) hx hb dX7_manyNow_158 hl (by decide) rfl (fun ls hl => ?_)
  refine lv_iload_n hx hb dX7_manyNow_160 rfl (lv_at hl 4 rfl) ?_
  refine lv_iload hx hb dX7_manyNow_161 (lv_at hl 0 rfl) ?_
  refine lv_if_eq (tgt := 170) hx hb dX7_manyNow_163 (by decide) (fun _ => ?_) (fun c9 => absurd (by decide) c9)
  refine lv_iconst (v := 0) hx hb dX7_manyNow_170 (by decide) ?_
  refine lv_iadd hx hb dX7_manyNow_171 ?_
  refine rc_topi 0 (by decide) ?_
  refine lv_istore_n (lv' := [(2, .int 0), (6, .int 0), (5, .int 0), (4, .int 40), (3, .ref h4), (0, .ref h0), (1, .int 7)]) hx hb dX7_manyNow_172 rfl hl (by decide) rfl (fun ls hl => ?_)
  refine lv_iinc (v := 1) (lv' := [(5, .int 1), (2, .int 0), (6, .int 0), (4, .int 40), (3, .ref h4), (0, .ref h0), (1, .int 7)]) hx hb dX7_manyNow_173 hl (k := 2) rfl (by decide) (by decide) rfl (fun ls hl => ?_)
  refine lv_goto (tgt := 147) hx hb dX7_manyNow_176 (by decide) ?_
  refine lv_iload hx hb dX7_manyNow_147 (lv_at hl 0 rfl) ?_
  refine lv_iload hx hb dX7_manyNow_149 (lv_at hl 3 rfl) ?_
  refine lv_icmp_ge (tgt := 179) hx hb dX7_manyNow_151 (by decide) (fun c9 => absurd c9 (by decide)) (fun _ => ?_)
  refine lv_aload_n hx hb dX7_manyNow_154 rfl (lv_at hl 4 rfl) ?_
  refine lv_iload hx hb dX7_manyNow_155 (lv_at hl 0 rfl) ?_
  refine rc_zald hx hb hAm hw 1 rfl (vp_in_iff.mpr (by decide)) dX7_manyNow_157 ?_
  refine rc_topi 0 rfl ?_
  refine lv_istore (lv' := [(6, .int 0), (5, .int 1), (2, .int 0), (4, .int 40), (3, .ref h4), (0, .ref h0), (1, .int 7)]) hx hb dX7_manyNow_158 hl (by decide) rfl (fun ls hl => ?_)
  refine lv_iload_n hx hb dX7_manyNow_160 rfl (lv_at hl 2 rfl) ?_
  refine lv_iload hx hb dX7_manyNow_161 (lv_at hl 0 rfl) ?_
  refine lv_if_eq (tgt := 170) hx hb dX7_manyNow_163 (by decide) (fun _ => ?_) (fun c9 => absurd (by decide) c9)
  refine lv_iconst (v := 0) hx hb dX7_manyNow_170 (by decide) ?_
  refine lv_iadd hx hb dX7_manyNow_171 ?_
  refine rc_topi 0 (by decide) ?_
  refine lv_istore_n (lv' := [(2, .int 0), (6, .int 0), (5, .int 1), (4, .int 40), (3, .ref h4), (0, .ref h0), (1, .int 7)]) hx hb dX7_manyNow_172 rfl hl (by decide) rfl (fun ls hl => ?_)
  refine lv_iinc (v := 2) (lv' := [(5, .int 2), (2, .int 0), (6, .int 0), (4, .int 40), (3, .ref h4), (0, .ref h0), (1, .int 7)]) hx hb dX7_manyNow_173 hl (k := 2) rfl (by decide) (by decide) rfl (fun ls hl => ?_)
  refine lv_goto (tgt := 147) hx hb dX7_manyNow_176 (by decide) ?_
  refine lv_iload hx hb dX7_manyNow_147 (lv_at hl 0 rfl) ?_
  refine lv_iload hx hb dX7_manyNow_149 (lv_at hl 3 rfl) ?_
  refine lv_icmp_ge (tgt := 179) hx hb dX7_manyNow_151 (by decide) (fun c9 => absurd c9 (by decide)) (fun _ => ?_)
  refine lv_aload_n hx hb dX7_manyNow_154 rfl (lv_at hl 4 rfl) ?_
  refine lv_iload hx hb dX7_manyNow_155 (lv_at hl 0 rfl) ?_
  refine rc_zald hx hb hAm hw 1 rfl (vp_in_iff.mpr (by decide)) dX7_manyNow_157 ?_
  refine rc_topi 0 rfl ?_
  refine lv_istore (lv' := [(6, .int 0), (5, .int 2), (2, .int 0), (4, .int 40), (3, .ref h4), (0, .ref h0), (1, .int 7)]) hx hb dX7_manyNow_158 hl (by decide) rfl (fun ls hl => ?_)
  refine lv_iload_n hx hb dX7_manyNow_160 rfl (lv_at hl 2 rfl) ?_
  refine lv_iload hx hb dX7_manyNow_161 (lv_at hl 0 rfl) ?_
  refine lv_if_eq (tgt := 170) hx hb dX7_manyNow_163 (by decide) (fun _ => ?_) (fun c9 => absurd (by decide) c9)
  refine lv_iconst (v := 0) hx hb dX7_manyNow_170 (by decide) ?_
  refine lv_iadd hx hb dX7_manyNow_171 ?_
  refine rc_topi 0 (by decide) ?_
  refine lv_istore_n (lv' := [(2, .int 0), (6, .int 0), (5, .int 2), (4, .int 40), (3, .ref h4), (0, .ref h0), (1, .int 7)]) hx hb dX7_manyNow_172 rfl hl (by decide) rfl (fun ls hl => ?_)
  refine lv_iinc (v := 3) (lv' := [(5, .int 3), (2, .int 0), (6, .int 0), (4, .int 40), (3, .ref h4), (0, .ref h0), (1, .int 7)]) hx hb dX7_manyNow_173 hl (k := 2) rfl (by decide) (by decide) rfl (fun ls hl => ?_)
  refine lv_goto (tgt := 147) hx hb dX7_manyNow_176 (by decide) ?_
  refine lv_iload hx hb dX7_manyNow_147 (lv_at hl 0 rfl) ?_
  refine lv_iload hx hb dX7_manyNow_149 (lv_at hl 3 rfl) ?_
  refine lv_icmp_ge (tgt := 179) hx hb dX7_manyNow_151 (by decide) (fun c9 => absurd c9 (by decide)) (fun _ => ?_)
  refine lv_aload_n hx hb dX7_manyNow_154 rfl (lv_at hl 4 rfl) ?_
  refine lv_iload hx hb dX7_manyNow_155 (lv_at hl 0 rfl) ?_
  refine rc_zald hx hb hAm hw 1 rfl (vp_in_iff.mpr (by decide)) dX7_manyNow_157 ?_
  refine rc_topi 0 rfl ?_
  refine lv_istore (lv' := [(6, .int 0), (5, .int 3), (2, .int 0), (4, .int 40), (3, .ref h4), (0, .ref h0), (1, .int 7)]) hx hb dX7_manyNow_158 hl (by decide) rfl (fun ls hl => ?_)
  refine lv_iload_n hx hb dX7_manyNow_160 rfl (lv_at hl 2 rfl) ?_
  refine lv_iload hx hb dX7_manyNow_161 (lv_at hl 0 rfl) ?_
  refine lv_if_eq (tgt := 170) hx hb dX7_manyNow_163 (by decide) (fun _ => ?_) (fun c9 => absurd (by decide) c9)
  refine lv_iconst (v := 0) hx hb dX7_manyNow_170 (by decide) ?_
  refine lv_iadd hx hb dX7_manyNow_171 ?_
  refine rc_topi 0 (by decide) ?_
  refine lv_istore_n (lv' := [(2, .int 0), (6, .int 0), (5, .int 3), (4, .int 40), (3, .ref h4), (0, .ref h0), (1, .int 7)]) hx hb dX7_manyNow_172 rfl hl (by decide) rfl (fun ls hl => ?_)
  refine lv_iinc (v := 4) (lv' := [(5, .int 4), (2, .int 0), (6, .int 0), (4, .int 40), (3, .ref h4), (0, .ref h0), (1, .int 7)]) hx hb dX7_manyNow_173 hl (k := 2) rfl (by decide) (by decide) rfl (fun ls hl => ?_)
  refine lv_goto (tgt := 147) hx hb dX7_manyNow_176 (by decide) ?_
  refine lv_iload hx hb dX7_manyNow_147 (lv_at hl 0 rfl) ?_
  refine lv_iload hx hb dX7_manyNow_149 (lv_at hl 3 rfl) ?_
  refine lv_icmp_ge (tgt := 179) hx hb dX7_manyNow_151 (by decide) (fun c9 => absurd c9 (by decide)) (fun _ => ?_)
  refine lv_aload_n hx hb dX7_manyNow_154 rfl (lv_at hl 4 rfl) ?_
  refine lv_iload hx hb dX7_manyNow_155 (lv_at hl 0 rfl) ?_
  refine rc_zald hx hb hAm hw 1 rfl (vp_in_iff.mpr (by decide)) dX7_manyNow_157 ?_
  refine rc_topi 0 rfl ?_
  refine lv_istore (lv' := [(6, .int 0), (5, .int 4), (2, .int 0), (4, .int 40), (3, .ref h4), (0, .ref h0), (1, .int 7)]) hx hb dX7_manyNow_158 hl (by decide) rfl (fun ls hl => ?_)
  refine lv_iload_n hx hb dX7_manyNow_160 rfl (lv_at hl 2 rfl) ?_
  refine lv_iload hx hb dX7_manyNow_161 (lv_at hl 0 rfl) ?_
  refine lv_if_eq (tgt := 170) hx hb dX7_manyNow_163 (by decide) (fun _ => ?_) (fun c9 => absurd (by decide) c9)
  refine lv_iconst (v := 0) hx hb dX7_manyNow_170 (by decide) ?_
  refine lv_iadd hx hb dX7_manyNow_171 ?_
  refine rc_topi 0 (by decide) ?_
  refine lv_istore_n (lv' := [(2, .int 0), (6, .int 0), (5, .int 4), (4, .int 40), (3, .ref h4), (0, .ref h0), (1, .int 7)]) hx hb dX7_manyNow_172 rfl hl (by decide) rfl (fun ls hl => ?_)
  refine lv_iinc (v := 5) (lv' := [(5, .int 5), (2, .int 0), (6, .int 0), (4, .int 40), (3, .ref h4), (0, .ref h0), (1, .int 7)]) hx hb dX7_manyNow_173 hl (k := 2) rfl (by decide) (by decide) rfl (fun ls hl => ?_)
  refine lv_goto (tgt := 147) hx hb dX7_manyNow_176 (by decide) ?_
  refine lv_iload hx hb dX7_manyNow_147 (lv_at hl 0 rfl) ?_
  refine lv_iload hx hb dX7_manyNow_149 (lv_at hl 3 rfl) ?_
  refine lv_icmp_ge (tgt := 179) hx hb dX7_manyNow_151 (by decide) (fun c9 => absurd c9 (by decide)) (fun _ => ?_)
  refine lv_aload_n hx hb dX7_manyNow_154 rfl (lv_at hl 4 rfl) ?_
  refine lv_iload hx hb dX7_manyNow_155 (lv_at hl 0 rfl) ?_
  refine rc_zald hx hb hAm hw 1 rfl (vp_in_iff.mpr (by decide)) dX7_manyNow_157 ?_
  refine rc_topi 0 rfl ?_
  refine lv_istore (lv' := [(6, .int 0), (5, .int 5), (2, .int 0), (4, .int 40), (3, .ref h4), (0, .ref h0), (1, .int 7)]) hx hb dX7_manyNow_158 hl (by decide) rfl (fun ls hl => ?_)
  refine lv_iload_n hx hb dX7_manyNow_160 rfl (lv_at hl 2 rfl) ?_
  refine lv_iload hx hb dX7_manyNow_161 (lv_at hl 0 rfl) ?_
  refine lv_if_eq (tgt := 170) hx hb dX7_manyNow_163 (by decide) (fun _ => ?_) (fun c9 => absurd (by decide) c9)
  refine lv_iconst (v := 0) hx hb dX7_manyNow_170 (by decide) ?_
  refine lv_iadd hx hb dX7_manyNow_171 ?_
  refine rc_topi 0 (by decide) ?_
  refine lv_istore_n (lv' := [(2, .int 0), (6, .int 0), (5, .int 5), (4, .int 40), (3, .ref h4), (0, .ref h0), (1, .int 7)]) hx hb dX7_manyNow_172 rfl hl (by decide) rfl (fun ls hl => ?_)
  refine lv_iinc (v := 6) (lv' := [(5, .int 6), (2, .int 0), (6, .int 0), (4, .int 40), (3, .ref h4), (0, .ref h0), (1, .int 7)]) hx hb dX7_manyNow_173 hl (k := 2) rfl (by decide) (by decide) rfl (fun ls hl => ?_)
  refine lv_goto (tgt := 147) hx hb dX7_manyNow_176 (by decide) ?_
  refine lv_iload hx hb dX7_manyNow_147 (lv_at hl 0 rfl) ?_
  refine lv_iload hx hb dX7_manyNow_149 (lv_at hl 3 rfl) ?_
  refine lv_icmp_ge (tgt := 179) hx hb dX7_manyNow_151 (by decide) (fun c9 => absurd c9 (by decide)) (fun _ => ?_)
  refine lv_aload_n hx hb dX7_manyNow_154 rfl (lv_at hl 4 rfl) ?_
  refine lv_iload hx hb dX7_manyNow_155 (lv_at hl 0 rfl) ?_
  refine rc_zald hx hb hAm hw 1 rfl (vp_in_iff.mpr (by decide)) dX7_manyNow_157 ?_
  refine rc_topi 0 rfl ?_
  refine lv_istore (lv' := [(6, .int 0), (5, .int 6), (2, .int 0), (4, .int 40), (3, .ref h4), (0, .ref h0), (1, .int 7)]) hx hb dX7_manyNow_158 hl (by decide) rfl (fun ls hl => ?_)
  refine lv_iload_n hx hb dX7_manyNow_160 rfl (lv_at hl 2 rfl) ?_
  refine lv_iload hx hb dX7_manyNow_161 (lv_at hl 0 rfl) ?_
  refine lv_if_eq (tgt := 170) hx hb dX7_manyNow_163 (by decide) (fun _ => ?_) (fun c9 => absurd (by decide) c9)
  refine lv_iconst (v := 0) hx hb dX7_manyNow_170 (by decide) ?_
  refine lv_iadd hx hb dX7_manyNow_171 ?_
  refine rc_topi 0 (by decide) ?_
  refine lv_istore_n (lv' := [(2, .int 0), (6, .int 0), (5, .int 6), (4, .int 40), (3, .ref h4), (0, .ref h0), (1, .int 7)]) hx hb dX7_manyNow_172 rfl hl (by decide) rfl (fun ls hl => ?_)
  refine lv_iinc (v := 7) (lv' := [(5, .int 7), (2, .int 0), (6, .int 0), (4, .int 40), (3, .ref h4), (0, .ref h0), (1, .int 7)]) hx hb dX7_manyNow_173 hl (k := 2) rfl (by decide) (by decide) rfl (fun ls hl => ?_)
  refine lv_goto (tgt := 147) hx hb dX7_manyNow_176 (by decide) ?_
  refine lv_iload hx hb dX7_manyNow_147 (lv_at hl 0 rfl) ?_
  refine lv_iload hx hb dX7_manyNow_149 (lv_at hl 3 rfl) ?_
  refine lv_icmp_ge (tgt := 179) hx hb dX7_manyNow_151 (by decide) (fun c9 => absurd c9 (by decide)) (fun _ => ?_)
  refine lv_aload_n hx hb dX7_manyNow_154 rfl (lv_at hl 4 rfl) ?_
  refine lv_iload hx hb dX7_manyNow_155 (lv_at hl 0 rfl) ?_
  refine rc_zald hx hb hAm hw 1 rfl (vp_in_iff.mpr (by decide)) dX7_manyNow_157 ?_
  refine rc_topi 0 rfl ?_
  refine lv_istore (lv' := [(6, .int 0), (5, .int 7), (2, .int 0), (4, .int 40), (3, .ref h4), (0, .ref h0), (1, .int 7)]) hx hb dX7_manyNow_158 hl (by decide) rfl (fun ls hl => ?_)
  refine lv_iload_n hx hb dX7_manyNow_160 rfl (lv_at hl 2 rfl) ?_
  refine lv_iload hx hb dX7_manyNow_161 (lv_at hl 0 rfl) ?_
  refine lv_if_eq (tgt := 170) hx hb dX7_manyNow_163 (by decide) (fun _ => ?_) (fun c9 => absurd (by decide) c9)
  refine lv_iconst (v := 0) hx hb dX7_manyNow_170 (by decide) ?_
  refine lv_iadd hx hb dX7_manyNow_171 ?_
  refine rc_topi 0 (by decide) ?_
  refine lv_istore_n (lv' := [(2, .int 0), (6, .int 0), (5, .int 7), (4, .int 40), (3, .ref h4), (0, .ref h0), (1, .int 7)]) hx hb dX7_manyNow_172 rfl hl (by decide) rfl (fun ls hl => ?_)
  refine lv_iinc (v := 8) (lv' := [(5, .int 8), (2, .int 0), (6, .int 0), (4, .int 40), (3, .ref h4), (0, .ref h0), (1, .int 7)]) hx hb dX7_manyNow_173 hl (k := 2) rfl (by decide) (by decide) rfl (fun ls hl => ?_)
  refine lv_goto (tgt := 147) hx hb dX7_manyNow_176 (by decide) ?_
  refine lv_iload hx hb dX7_manyNow_147 (lv_at hl 0 rfl) ?_
  refine lv_iload hx hb dX7_manyNow_149 (lv_at hl 3 rfl) ?_
  refine lv_icmp_ge (tgt := 179) hx hb dX7_manyNow_151 (by decide) (fun c9 => absurd c9 (by decide)) (fun _ => ?_)
  refine lv_aload_n hx hb dX7_manyNow_154 rfl (lv_at hl 4 rfl) ?_
  refine lv_iload hx hb dX7_manyNow_155 (lv_at hl 0 rfl) ?_
  refine rc_zald hx hb hAm hw 1 rfl (vp_in_iff.mpr (by decide)) dX7_manyNow_157 ?_
  refine rc_topi 0 rfl ?_
  refine lv_istore (lv' := [(6, .int 0), (5, .int 8), (2, .int 0), (4, .int 40), (3, .ref h4), (0, .ref h0), (1, .int 7)]) hx hb dX7_manyNow_158 hl (by decide) rfl (fun ls hl => ?_)
  refine lv_iload_n hx hb dX7_manyNow_160 rfl (lv_at hl 2 rfl) ?_
  refine lv_iload hx hb dX7_manyNow_161 (lv_at hl 0 rfl) ?_
  refine lv_if_eq (tgt := 170) hx hb dX7_manyNow_163 (by decide) (fun _ => ?_) (fun c9 => absurd (by decide) c9)
  refine lv_iconst (v := 0) hx hb dX7_manyNow_170 (by decide) ?_
  refine lv_iadd hx hb dX7_manyNow_171 ?_
  refine rc_topi 0 (by decide) ?_
  refine lv_istore_n (lv' := [(2, .int 0), (6, .int 0), (5, .int 8), (4, .int 40), (3, .ref h4), (0, .ref h0), (1, .int 7)]) hx hb dX7_manyNow_172 rfl hl (by decide) rfl (fun ls hl => ?_)
  refine lv_iinc (v := 9) (lv' := [(5, .int 9), (2, .int 0), (6, .int 0), (4, .int 40), (3, .ref h4), (0, .ref h0), (1, .int 7)]) hx hb dX7_manyNow_173 hl (k := 2) rfl (by decide) (by decide) rfl (fun ls hl => ?_)
  refine lv_goto (tgt := 147) hx hb dX7_manyNow_176 (by decide) ?_
  refine lv_iload hx hb dX7_manyNow_147 (lv_at hl 0 rfl) ?_
  refine lv_iload hx hb dX7_manyNow_149 (lv_at hl 3 rfl) ?_
  refine lv_icmp_ge (tgt := 179) hx hb dX7_manyNow_151 (by decide) (fun c9 => absurd c9 (by decide)) (fun _ => ?_)
  refine lv_aload_n hx hb dX7_manyNow_154 rfl (lv_at hl 4 rfl) ?_
  refine lv_iload hx hb dX7_manyNow_155 (lv_at hl 0 rfl) ?_
  refine rc_zald hx hb hAm hw 1 rfl (vp_in_iff.mpr (by decide)) dX7_manyNow_157 ?_
  refine rc_topi 0 rfl ?_
  refine lv_istore (lv' := [(6, .int 0), (5, .int 9), (2, .int 0), (4, .int 40), (3, .ref h4), (0, .ref h0), (1, .int 7)]) hx hb dX7_manyNow_158 hl (by decide) rfl (fun ls hl => ?_)
  refine lv_iload_n hx hb dX7_manyNow_160 rfl (lv_at hl 2 rfl) ?_
  refine lv_iload hx hb dX7_manyNow_161 (lv_at hl 0 rfl) ?_
  refine lv_if_eq (tgt := 170) hx hb dX7_manyNow_163 (by decide) (fun _ => ?_) (fun c9 => absurd (by decide) c9)
  refine lv_iconst (v := 0) hx hb dX7_manyNow_170 (by decide) ?_
  refine lv_iadd hx hb dX7_manyNow_171 ?_
  refine rc_topi 0 (by decide) ?_
  refine lv_istore_n (lv' := [(2, .int 0), (6, .int 0), (5, .int 9), (4, .int 40), (3, .ref h4), (0, .ref h0), (1, .int 7)]) hx hb dX7_manyNow_172 rfl hl (by decide) rfl (fun ls hl => ?_)
  refine lv_iinc (v := 10) (lv' := [(5, .int 10), (2, .int 0), (6, .int 0), (4, .int 40), (3, .ref h4), (0, .ref h0), (1, .int 7)]) hx hb dX7_manyNow_173 hl (k := 2) rfl (by decide) (by decide) rfl (fun ls hl => ?_)
  refine lv_goto (tgt := 147) hx hb dX7_manyNow_176 (by decide) ?_
  refine lv_iload hx hb dX7_manyNow_147 (lv_at hl 0 rfl) ?_
  refine lv_iload hx hb dX7_manyNow_149 (lv_at hl 3 rfl) ?_
  refine lv_icmp_ge (tgt := 179) hx hb dX7_manyNow_151 (by decide) (fun c9 => absurd c9 (by decide)) (fun _ => ?_)
  refine lv_aload_n hx hb dX7_manyNow_154 rfl (lv_at hl 4 rfl) ?_
  refine lv_iload hx hb dX7_manyNow_155 (lv_at hl 0 rfl) ?_
  refine rc_zald hx hb hAm hw 1 rfl (vp_in_iff.mpr (by decide)) dX7_manyNow_157 ?_
  refine rc_topi 0 rfl ?_
  refine lv_istore (lv' := [(6, .int 0), (5, .int 10), (2, .int 0), (4, .int 40), (3, .ref h4), (0, .ref h0), (1, .int 7)]) hx hb dX7_manyNow_158 hl (by decide) rfl (fun ls hl => ?_)
  refine lv_iload_n hx hb dX7_manyNow_160 rfl (lv_at hl 2 rfl) ?_
  refine lv_iload hx hb dX7_manyNow_161 (lv_at hl 0 rfl) ?_
  refine lv_if_eq (tgt := 170) hx hb dX7_manyNow_163 (by decide) (fun _ => ?_) (fun c9 => absurd (by decide) c9)
  refine lv_iconst (v := 0) hx hb dX7_manyNow_170 (by decide) ?_
  refine lv_iadd hx hb dX7_manyNow_171 ?_
  refine rc_topi 0 (by decide) ?_
  refine lv_istore_n (lv' := [(2, .int 0), (6, .int 0), (5, .int 10), (4, .int 40), (3, .ref h4), (0, .ref h0), (1, .int 7)]) hx hb dX7_manyNow_172 rfl hl (by decide) rfl (fun ls hl => ?_)
  refine lv_iinc (v := 11) (lv' := [(5, .int 11), (2, .int 0), (6, .int 0), (4, .int 40), (3, .ref h4), (0, .ref h0), (1, .int 7)]) hx hb dX7_manyNow_173 hl (k := 2) rfl (by decide) (by decide) rfl (fun ls hl => ?_)
  refine lv_goto (tgt := 147) hx hb dX7_manyNow_176 (by decide) ?_
  refine lv_iload hx hb dX7_manyNow_147 (lv_at hl 0 rfl) ?_
  refine lv_iload hx hb dX7_manyNow_149 (lv_at hl 3 rfl) ?_
  refine lv_icmp_ge (tgt := 179) hx hb dX7_manyNow_151 (by decide) (fun c9 => absurd c9 (by decide)) (fun _ => ?_)
  refine lv_aload_n hx hb dX7_manyNow_154 rfl (lv_at hl 4 rfl) ?_
  refine lv_iload hx hb dX7_manyNow_155 (lv_at hl 0 rfl) ?_
  refine rc_zald hx hb hAm hw 1 rfl (vp_in_iff.mpr (by decide)) dX7_manyNow_157 ?_
  refine rc_topi 0 rfl ?_
  refine lv_istore (lv' := [(6, .int 0), (5, .int 11), (2, .int 0), (4, .int 40), (3, .ref h4), (0, .ref h0), (1, .int 7)]) hx hb dX7_manyNow_158 hl (by decide) rfl (fun ls hl => ?_)
  refine lv_iload_n hx hb dX7_manyNow_160 rfl (lv_at hl 2 rfl) ?_
  refine lv_iload hx hb dX7_manyNow_161 (lv_at hl 0 rfl) ?_
  refine lv_if_eq (tgt := 170) hx hb dX7_manyNow_163 (by decide) (fun _ => ?_) (fun c9 => absurd (by decide) c9)
  refine lv_iconst (v := 0) hx hb dX7_manyNow_170 (by decide) ?_
  refine lv_iadd hx hb dX7_manyNow_171 ?_
  refine rc_topi 0 (by decide) ?_
  refine lv_istore_n (lv' := [(2, .int 0), (6, .int 0), (5, .int 11), (4, .int 40), (3, .ref h4), (0, .ref h0), (1, .int 7)]) hx hb dX7_manyNow_172 rfl hl (by decide) rfl (fun ls hl => ?_)
  refine lv_iinc (v := 12) (lv' := [(5, .int 12), (2, .int 0), (6, .int 0), (4, .int 40), (3, .ref h4), (0, .ref h0), (1, .int 7)]) hx hb dX7_manyNow_173 hl (k := 2) rfl (by decide) (by decide) rfl (fun ls hl => ?_)
  refine lv_goto (tgt := 147) hx hb dX7_manyNow_176 (by decide) ?_
  refine lv_iload hx hb dX7_manyNow_147 (lv_at hl 0 rfl) ?_
  refine lv_iload hx hb dX7_manyNow_149 (lv_at hl 3 rfl) ?_
  refine lv_icmp_ge (tgt := 179) hx hb dX7_manyNow_151 (by decide) (fun c9 => absurd c9 (by decide)) (fun _ => ?_)
  refine lv_aload_n hx hb dX7_manyNow_154 rfl (lv_at hl 4 rfl) ?_
  refine lv_iload hx hb dX7_manyNow_155 (lv_at hl 0 rfl) ?_
  refine rc_zald hx hb hAm hw 1 rfl (vp_in_iff.mpr (by decide)) dX7_manyNow_157 ?_
  refine rc_topi 0 rfl ?_
  refine lv_istore (lv' := [(6, .int 0), (5, .int 12), (2, .int 0), (4, .int 40), (3, .ref h4), (0, .ref h0), (1, .int 7)]) hx hb dX7_manyNow_158 hl (by decide) rfl (fun ls hl => ?_)
  refine lv_iload_n hx hb dX7_manyNow_160 rfl (lv_at hl 2 rfl) ?_
  refine lv_iload hx hb dX7_manyNow_161 (lv_at hl 0 rfl) ?_
  refine lv_if_eq (tgt := 170) hx hb dX7_manyNow_163 (by decide) (fun _ => ?_) (fun c9 => absurd (by decide) c9)
  refine lv_iconst (v := 0) hx hb dX7_manyNow_170 (by decide) ?_
  refine lv_iadd hx hb dX7_manyNow_171 ?_
  refine rc_topi 0 (by decide) ?_
  refine lv_istore_n (lv' := [(2, .int 0), (6, .int 0), (5, .int 12), (4, .int 40), (3, .ref h4), (0, .ref h0), (1, .int 7)]) hx hb dX7_manyNow_172 rfl hl (by decide) rfl (fun ls hl => ?_)
  refine lv_iinc (v := 13) (lv' := [(5, .int 13), (2, .int 0), (6, .int 0), (4, .int 40), (3, .ref h4), (0, .ref h0), (1, .int 7)]) hx hb dX7_manyNow_173 hl (k := 2) rfl (by decide) (by decide) rfl (fun ls hl => ?_)
  refine lv_goto (tgt := 147) hx hb dX7_manyNow_176 (by decide) ?_
  refine lv_iload hx hb dX7_manyNow_147 (lv_at hl 0 rfl) ?_
  refine lv_iload hx hb dX7_manyNow_149 (lv_at hl 3 rfl) ?_
  refine lv_icmp_ge (tgt := 179) hx hb dX7_manyNow_151 (by decide) (fun c9 => absurd c9 (by decide)) (fun _ => ?_)
  refine lv_aload_n hx hb dX7_manyNow_154 rfl (lv_at hl 4 rfl) ?_
  refine lv_iload hx hb dX7_manyNow_155 (lv_at hl 0 rfl) ?_
  refine rc_zald hx hb hAm hw 1 rfl (vp_in_iff.mpr (by decide)) dX7_manyNow_157 ?_
  refine rc_topi 0 rfl ?_
  refine lv_istore (lv' := [(6, .int 0), (5, .int 13), (2, .int 0), (4, .int 40), (3, .ref h4), (0, .ref h0), (1, .int 7)]) hx hb dX7_manyNow_158 hl (by decide) rfl (fun ls hl => ?_)
  refine lv_iload_n hx hb dX7_manyNow_160 rfl (lv_at hl 2 rfl) ?_
  refine lv_iload hx hb dX7_manyNow_161 (lv_at hl 0 rfl) ?_
  refine lv_if_eq (tgt := 170) hx hb dX7_manyNow_163 (by decide) (fun _ => ?_) (fun c9 => absurd (by decide) c9)
  refine lv_iconst (v := 0) hx hb dX7_manyNow_170 (by decide) ?_
  refine lv_iadd hx hb dX7_manyNow_171 ?_
  refine rc_topi 0 (by decide) ?_
  refine lv_istore_n (lv' := [(2, .int 0), (6, .int 0), (5, .int 13), (4, .int 40), (3, .ref h4), (0, .ref h0), (1, .int 7)]) hx hb dX7_manyNow_172 rfl hl (by decide) rfl (fun ls hl => ?_)
  refine lv_iinc (v := 14) (lv' := [(5, .int 14), (2, .int 0), (6, .int 0), (4, .int 40), (3, .ref h4), (0, .ref h0), (1, .int 7)]) hx hb dX7_manyNow_173 hl (k := 2) rfl (by decide) (by decide) rfl (fun ls hl => ?_)
  refine lv_goto (tgt := 147) hx hb dX7_manyNow_176 (by decide) ?_
  refine lv_iload hx hb dX7_manyNow_147 (lv_at hl 0 rfl) ?_
  refine lv_iload hx hb dX7_manyNow_149 (lv_at hl 3 rfl) ?_
  refine lv_icmp_ge (tgt := 179) hx hb dX7_manyNow_151 (by decide) (fun c9 => absurd c9 (by decide)) (fun _ => ?_)
  refine lv_aload_n hx hb dX7_manyNow_154 rfl (lv_at hl 4 rfl) ?_
  refine lv_iload hx hb dX7_manyNow_155 (lv_at hl 0 rfl) ?_
  refine rc_zald hx hb hAm hw 1 rfl (vp_in_iff.mpr (by decide)) dX7_manyNow_157 ?_
  refine rc_topi 0 rfl ?_
  refine lv_istore (lv' := [(6, .int 0), (5, .int 14), (2, .int 0), (4, .int 40), (3, .ref h4), (0, .ref h0), (1, .int 7)]) hx hb dX7_manyNow_158 hl (by decide) rfl (fun ls hl => ?_)
  refine lv_iload_n hx hb dX7_manyNow_160 rfl (lv_at hl 2 rfl) ?_
  refine lv_iload hx hb dX7_manyNow_161 (lv_at hl 0 rfl) ?_
  refine lv_if_eq (tgt := 170) hx hb dX7_manyNow_163 (by decide) (fun _ => ?_) (fun c9 => absurd (by decide) c9)
  refine lv_iconst (v := 0) hx hb dX7_manyNow_170 (by decide) ?_
  refine lv_iadd hx hb dX7_manyNow_171 ?_
  refine rc_topi 0 (by decide) ?_
  refine lv_istore_n (lv' := [(2, .int 0), (6, .int 0), (5, .int 14), (4, .int 40), (3, .ref h4), (0, .ref h0), (1, .int 7)]) hx hb dX7_manyNow_172 rfl hl (by decide) rfl (fun ls hl => ?_)
  refine lv_iinc (v := 15) (lv' := [(5, .int 15), (2, .int 0), (6, .int 0), (4, .int 40), (3, .ref h4), (0, .ref h0), (1, .int 7)]) hx hb dX7_manyNow_173 hl (k := 2) rfl (by decide) (by decide) rfl (fun ls hl => ?_)
  refine lv_goto (tgt := 147) hx hb dX7_manyNow_176 (by decide) ?_
  refine lv_iload hx hb dX7_manyNow_147 (lv_at hl 0 rfl) ?_
  refine lv_iload hx hb dX7_manyNow_149 (lv_at hl 3 rfl) ?_
  refine lv_icmp_ge (tgt := 179) hx hb dX7_manyNow_151 (by decide) (fun c9 => absurd c9 (by decide)) (fun _ => ?_)
  refine lv_aload_n hx hb dX7_manyNow_154 rfl (lv_at hl 4 rfl) ?_
  refine lv_iload hx hb dX7_manyNow_155 (lv_at hl 0 rfl) ?_
  refine rc_zald hx hb hAm hw 1 rfl (vp_in_iff.mpr (by decide)) dX7_manyNow_157 ?_
  refine rc_topi 0 rfl ?_
  refine lv_istore (lv' := [(6, .int 0), (5, .int 15), (2, .int 0), (4, .int 40), (3, .ref h4), (0, .ref h0), (1, .int 7)]) hx hb dX7_manyNow_158 hl (by decide) rfl (fun ls hl => ?_)
  refine lv_iload_n hx hb dX7_manyNow_160 rfl (lv_at hl 2 rfl) ?_
  refine lv_iload hx hb dX7_manyNow_161 (lv_at hl 0 rfl) ?_
  refine lv_if_eq (tgt := 170) hx hb dX7_manyNow_163 (by decide) (fun _ => ?_) (fun c9 => absurd (by decide) c9)
  refine lv_iconst (v := 0) hx hb dX7_manyNow_170 (by decide) ?_
  refine lv_iadd hx hb dX7_manyNow_171 ?_
  refine rc_topi 0 (by decide) ?_
  refine lv_istore_n (lv' := [(2, .int 0), (6, .int 0), (5, .int 15), (4, .int 40), (3, .ref h4), (0, .ref h0), (1, .int 7)]) hx hb dX7_manyNow_172 rfl hl (by decide) rfl (fun ls hl => ?_)
  refine lv_iinc (v := 16) (lv' := [(5, .int 16), (2, .int 0), (6, .int 0), (4, .int 40), (3, .ref h4), (0, .ref h0), (1, .int 7)]) hx hb dX7_manyNow_173 hl (k := 2) rfl (by decide) (by decide) rfl (fun ls hl => ?_)
  refine lv_goto (tgt := 147) hx hb dX7_manyNow_176 (by decide) ?_
  refine lv_iload hx hb dX7_manyNow_147 (lv_at hl 0 rfl) ?_
  refine lv_iload hx hb dX7_manyNow_149 (lv_at hl 3 rfl) ?_
  refine lv_icmp_ge (tgt := 179) hx hb dX7_manyNow_151 (by decide) (fun c9 => absurd c9 (by decide)) (fun _ => ?_)
  refine lv_aload_n hx hb dX7_manyNow_154 rfl (lv_at hl 4 rfl) ?_
  refine lv_iload hx hb dX7_manyNow_155 (lv_at hl 0 rfl) ?_
  refine rc_zald hx hb hAm hw 1 rfl (vp_in_iff.mpr (by decide)) dX7_manyNow_157 ?_
  refine rc_topi 0 rfl ?_
  refine lv_istore (lv' := [(6, .int 0), (5, .int 16), (2, .int 0), (4, .int 40), (3, .ref h4), (0, .ref h0), (1, .int 7)]) hx hb dX7_manyNow_158 hl (by decide) rfl (fun ls hl => ?_)
  refine lv_iload_n hx hb dX7_manyNow_160 rfl (lv_at hl 2 rfl) ?_
  refine lv_iload hx hb dX7_manyNow_161 (lv_at hl 0 rfl) ?_
  refine lv_if_eq (tgt := 170) hx hb dX7_manyNow_163 (by decide) (fun _ => ?_) (fun c9 => absurd (by decide) c9)
  refine lv_iconst (v := 0) hx hb dX7_manyNow_170 (by decide) ?_
  refine lv_iadd hx hb dX7_manyNow_171 ?_
  refine rc_topi 0 (by decide) ?_
  refine lv_istore_n (lv' := [(2, .int 0), (6, .int 0), (5, .int 16), (4, .int 40), (3, .ref h4), (0, .ref h0), (1, .int 7)]) hx hb dX7_manyNow_172 rfl hl (by decide) rfl (fun ls hl => ?_)
  refine lv_iinc (v := 17) (lv' := [(5, .int 17), (2, .int 0), (6, .int 0), (4, .int 40), (3, .ref h4), (0, .ref h0), (1, .int 7)]) hx hb dX7_manyNow_173 hl (k := 2) rfl (by decide) (by decide) rfl (fun ls hl => ?_)
  refine lv_goto (tgt := 147) hx hb dX7_manyNow_176 (by decide) ?_
  refine lv_iload hx hb dX7_manyNow_147 (lv_at hl 0 rfl) ?_
  refine lv_iload hx hb dX7_manyNow_149 (lv_at hl 3 rfl) ?_
  refine lv_icmp_ge (tgt := 179) hx hb dX7_manyNow_151 (by decide) (fun c9 => absurd c9 (by decide)) (fun _ => ?_)
  refine lv_aload_n hx hb dX7_manyNow_154 rfl (lv_at hl 4 rfl) ?_
  refine lv_iload hx hb dX7_manyNow_155 (lv_at hl 0 rfl) ?_
  refine rc_zald hx hb hAm hw 1 rfl (vp_in_iff.mpr (by decide)) dX7_manyNow_157 ?_
  refine rc_topi 0 rfl ?_
  refine lv_istore (lv' := [(6, .int 0), (5, .int 17), (2, .int 0), (4, .int 40), (3, .ref h4), (0, .ref h0), (1, .int 7)]) hx hb dX7_manyNow_158 hl (by decide) rfl (fun ls hl => ?_)
  refine lv_iload_n hx hb dX7_manyNow_160 rfl (lv_at hl 2 rfl) ?_
  refine lv_iload hx hb dX7_manyNow_161 (lv_at hl 0 rfl) ?_
  refine lv_if_eq (tgt := 170) hx hb dX7_manyNow_163 (by decide) (fun _ => ?_) (fun c9 => absurd (by decide) c9)
  refine lv_iconst (v := 0) hx hb dX7_manyNow_170 (by decide) ?_
  refine lv_iadd hx hb dX7_manyNow_171 ?_
  refine rc_topi 0 (by decide) ?_
  refine lv_istore_n (lv' := [(2, .int 0), (6, .int 0), (5, .int 17), (4, .int 40), (3, .ref h4), (0, .ref h0), (1, .int 7)]) hx hb dX7_manyNow_172 rfl hl (by decide) rfl (fun ls hl => ?_)
  refine lv_iinc (v := 18) (lv' := [(5, .int 18), (2, .int 0), (6, .int 0), (4, .int 40), (3, .ref h4), (0, .ref h0), (1, .int 7)]) hx hb dX7_manyNow_173 hl (k := 2) rfl (by decide) (by decide) rfl (fun ls hl => ?_)
  refine lv_goto (tgt := 147) hx hb dX7_manyNow_176 (by decide) ?_
  refine lv_iload hx hb dX7_manyNow_147 (lv_at hl 0 rfl) ?_
  refine lv_iload hx hb dX7_manyNow_149 (lv_at hl 3 rfl) ?_
  refine lv_icmp_ge (tgt := 179) hx hb dX7_manyNow_151 (by decide) (fun c9 => absurd c9 (by decide)) (fun _ => ?_)
  refine lv_aload_n hx hb dX7_manyNow_154 rfl (lv_at hl 4 rfl) ?_
  refine lv_iload hx hb dX7_manyNow_155 (lv_at hl 0 rfl) ?_
  refine rc_zald hx hb hAm hw 1 rfl (vp_in_iff.mpr (by decide)) dX7_manyNow_157 ?_
  refine rc_topi 0 rfl ?_
  refine lv_istore (lv' := [(6, .int 0), (5, .int 18), (2, .int 0), (4, .int 40), (3, .ref h4), (0, .ref h0), (1, .int 7)]) hx hb dX7_manyNow_158 hl (by decide) rfl (fun ls hl => ?_)
  refine lv_iload_n hx hb dX7_manyNow_160 rfl (lv_at hl 2 rfl) ?_
  refine lv_iload hx hb dX7_manyNow_161 (lv_at hl 0 rfl) ?_
  refine lv_if_eq (tgt := 170) hx hb dX7_manyNow_163 (by decide) (fun _ => ?_) (fun c9 => absurd (by decide) c9)
  refine lv_iconst (v := 0) hx hb dX7_manyNow_170 (by decide) ?_
  refine lv_iadd hx hb dX7_manyNow_171 ?_
  refine rc_topi 0 (by decide) ?_
  refine lv_istore_n (lv' := [(2, .int 0), (6, .int 0), (5, .int 18), (4, .int 40), (3, .ref h4), (0, .ref h0), (1, .int 7)]) hx hb dX7_manyNow_172 rfl hl (by decide) rfl (fun ls hl => ?_)
  refine lv_iinc (v := 19) (lv' := [(5, .int 19), (2, .int 0), (6, .int 0), (4, .int 40), (3, .ref h4), (0, .ref h0), (1, .int 7)]) hx hb dX7_manyNow_173 hl (k := 2) rfl (by decide) (by decide) rfl (fun ls hl => ?_)
  refine lv_goto (tgt := 147) hx hb dX7_manyNow_176 (by decide) ?_
  refine lv_iload hx hb dX7_manyNow_147 (lv_at hl 0 rfl) ?_
  refine lv_iload hx hb dX7_manyNow_149 (lv_at hl 3 rfl) ?_
  refine lv_icmp_ge (tgt := 179) hx hb dX7_manyNow_151 (by decide) (fun c9 => absurd c9 (by decide)) (fun _ => ?_)
  refine lv_aload_n hx hb dX7_manyNow_154 rfl (lv_at hl 4 rfl) ?_
  refine lv_iload hx hb dX7_manyNow_155 (lv_at hl 0 rfl) ?_
  refine rc_zald hx hb hAm hw 1 rfl (vp_in_iff.mpr (by decide)) dX7_manyNow_157 ?_
  refine rc_topi 0 rfl ?_
  refine lv_istore (lv' := [(6, .int 0), (5, .int 19), (2, .int 0), (4, .int 40), (3, .ref h4), (0, .ref h0), (1, .int 7)]) hx hb dX7_manyNow_158 hl (by decide) rfl (fun ls hl => ?_)
  refine lv_iload_n hx hb dX7_manyNow_160 rfl (lv_at hl 2 rfl) ?_
  refine lv_iload hx hb dX7_manyNow_161 (lv_at hl 0 rfl) ?_
  refine lv_if_eq (tgt := 170) hx hb dX7_manyNow_163 (by decide) (fun _ => ?_) (fun c9 => absurd (by decide) c9)
  refine lv_iconst (v := 0) hx hb dX7_manyNow_170 (by decide) ?_
  refine lv_iadd hx hb dX7_manyNow_171 ?_
  refine rc_topi 0 (by decide) ?_
  refine lv_istore_n (lv' := [(2, .int 0), (6, .int 0), (5, .int 19), (4, .int 40), (3, .ref h4), (0, .ref h0), (1, .int 7)]) hx hb dX7_manyNow_172 rfl hl (by decide) rfl (fun ls hl => ?_)
  refine lv_iinc (v := 20) (lv' := [(5, .int 20), (2, .int 0), (6, .int 0), (4, .int 40), (3, .ref h4), (0, .ref h0), (1, .int 7)]) hx hb dX7_manyNow_173 hl (k := 2) rfl (by decide) (by decide) rfl (fun ls hl => ?_)
  refine lv_goto (tgt := 147) hx hb dX7_manyNow_176 (by decide) ?_
  refine lv_iload hx hb dX7_manyNow_147 (lv_at hl 0 rfl) ?_
  refine lv_iload hx hb dX7_manyNow_149 (lv_at hl 3 rfl) ?_
  refine lv_icmp_ge (tgt := 179) hx hb dX7_manyNow_151 (by decide) (fun c9 => absurd c9 (by decide)) (fun _ => ?_)
  refine lv_aload_n hx hb dX7_manyNow_154 rfl (lv_at hl 4 rfl) ?_
  refine lv_iload hx hb dX7_manyNow_155 (lv_at hl 0 rfl) ?_
  refine rc_zald hx hb hAm hw 1 rfl (vp_in_iff.mpr (by decide)) dX7_manyNow_157 ?_
  refine rc_topi 0 rfl ?_
  refine lv_istore (lv' := [(6, .int 0), (5, .int 20), (2, .int 0), (4, .int 40), (3, .ref h4), (0, .ref h0), (1, .int 7)]) hx hb dX7_manyNow_158 hl (by decide) rfl (fun ls hl => ?_)
  refine lv_iload_n hx hb dX7_manyNow_160 rfl (lv_at hl 2 rfl) ?_
  refine lv_iload hx hb dX7_manyNow_161 (lv_at hl 0 rfl) ?_
  refine lv_if_eq (tgt := 170) hx hb dX7_manyNow_163 (by decide) (fun _ => ?_) (fun c9 => absurd (by decide) c9)
  refine lv_iconst (v := 0) hx hb dX7_manyNow_170 (by decide) ?_
  refine lv_iadd hx hb dX7_manyNow_171 ?_
  refine rc_topi 0 (by decide) ?_
  refine lv_istore_n (lv' := [(2, .int 0), (6, .int 0), (5, .int 20), (4, .int 40), (3, .ref h4), (0, .ref h0), (1, .int 7)]) hx hb dX7_manyNow_172 rfl hl (by decide) rfl (fun ls hl => ?_)
  refine lv_iinc (v := 21) (lv' := [(5, .int 21), (2, .int 0), (6, .int 0), (4, .int 40), (3, .ref h4), (0, .ref h0), (1, .int 7)]) hx hb dX7_manyNow_173 hl (k := 2) rfl (by decide) (by decide) rfl (fun ls hl => ?_)
  refine lv_goto (tgt := 147) hx hb dX7_manyNow_176 (by decide) ?_
  refine lv_iload hx hb dX7_manyNow_147 (lv_at hl 0 rfl) ?_
  refine lv_iload hx hb dX7_manyNow_149 (lv_at hl 3 rfl) ?_
  refine lv_icmp_ge (tgt := 179) hx hb dX7_manyNow_151 (by decide) (fun c9 => absurd c9 (by decide)) (fun _ => ?_)
  refine lv_aload_n hx hb dX7_manyNow_154 rfl (lv_at hl 4 rfl) ?_
  refine lv_iload hx hb dX7_manyNow_155 (lv_at hl 0 rfl) ?_
  refine rc_zald hx hb hAm hw 1 rfl (vp_in_iff.mpr (by decide)) dX7_manyNow_157 ?_
  refine rc_topi 0 rfl ?_
  refine lv_istore (lv' := [(6, .int 0), (5, .int 21), (2, .int 0), (4, .int 40), (3, .ref h4), (0, .ref h0), (1, .int 7)]) hx hb dX7_manyNow_158 hl (by decide) rfl (fun ls hl => ?_)
  refine lv_iload_n hx hb dX7_manyNow_160 rfl (lv_at hl 2 rfl) ?_
  refine lv_iload hx hb dX7_manyNow_161 (lv_at hl 0 rfl) ?_
  refine lv_if_eq (tgt := 170) hx hb dX7_manyNow_163 (by decide) (fun _ => ?_) (fun c9 => absurd (by decide) c9)
  refine lv_iconst (v := 0) hx hb dX7_manyNow_170 (by decide) ?_
  refine lv_iadd hx hb dX7_manyNow_171 ?_
  refine rc_topi 0 (by decide) ?_
  refine lv_istore_n (lv' := [(2, .int 0), (6, .int 0), (5, .int 21), (4, .int 40), (3, .ref h4), (0, .ref h0), (1, .int 7)]) hx hb dX7_manyNow_172 rfl hl (by decide) rfl (fun ls hl => ?_)
  refine lv_iinc (v := 22) (lv' := [(5, .int 22), (2, .int 0), (6, .int 0), (4, .int 40), (3, .ref h4), (0, .ref h0), (1, .int 7)]) hx hb dX7_manyNow_173 hl (k := 2) rfl (by decide) (by decide) rfl (fun ls hl => ?_)
  refine lv_goto (tgt := 147) hx hb dX7_manyNow_176 (by decide) ?_
  refine lv_iload hx hb dX7_manyNow_147 (lv_at hl 0 rfl) ?_
  refine lv_iload hx hb dX7_manyNow_149 (lv_at hl 3 rfl) ?_
  refine lv_icmp_ge (tgt := 179) hx hb dX7_manyNow_151 (by decide) (fun c9 => absurd c9 (by decide)) (fun _ => ?_)
  refine lv_aload_n hx hb dX7_manyNow_154 rfl (lv_at hl 4 rfl) ?_
  refine lv_iload hx hb dX7_manyNow_155 (lv_at hl 0 rfl) ?_
  refine rc_zald hx hb hAm hw 1 rfl (vp_in_iff.mpr (by decide)) dX7_manyNow_157 ?_
  refine rc_topi 0 rfl ?_
  refine lv_istore (lv' := [(6, .int 0), (5, .int 22), (2, .int 0), (4, .int 40), (3, .ref h4), (0, .ref h0), (1, .int 7)]) hx hb dX7_manyNow_158 hl (by decide) rfl (fun ls hl => ?_)
  refine lv_iload_n hx hb dX7_manyNow_160 rfl (lv_at hl 2 rfl) ?_
  refine lv_iload hx hb dX7_manyNow_161 (lv_at hl 0 rfl) ?_
  refine lv_if_eq (tgt := 170) hx hb dX7_manyNow_163 (by decide) (fun _ => ?_) (fun c9 => absurd (by decide) c9)
  refine lv_iconst (v := 0) hx hb dX7_manyNow_170 (by decide) ?_
  refine lv_iadd hx hb dX7_manyNow_171 ?_
  refine rc_topi 0 (by decide) ?_
  refine lv_istore_n (lv' := [(2, .int 0), (6, .int 0), (5, .int 22), (4, .int 40), (3, .ref h4), (0, .ref h0), (1, .int 7)]) hx hb dX7_manyNow_172 rfl hl (by decide) rfl (fun ls hl => ?_)
  refine lv_iinc (v := 23) (lv' := [(5, .int 23), (2, .int 0), (6, .int 0), (4, .int 40), (3, .ref h4), (0, .ref h0), (1, .int 7)]) hx hb dX7_manyNow_173 hl (k := 2) rfl (by decide) (by decide) rfl (fun ls hl => ?_)
  refine lv_goto (tgt := 147) hx hb dX7_manyNow_176 (by decide) ?_
  refine lv_iload hx hb dX7_manyNow_147 (lv_at hl 0 rfl) ?_
  refine lv_iload hx hb dX7_manyNow_149 (lv_at hl 3 rfl) ?_
  refine lv_icmp_ge (tgt := 179) hx hb dX7_manyNow_151 (by decide) (fun c9 => absurd c9 (by decide)) (fun _ => ?_)
  refine lv_aload_n hx hb dX7_manyNow_154 rfl (lv_at hl 4 rfl) ?_
  refine lv_iload hx hb dX7_manyNow_155 (lv_at hl 0 rfl) ?_
  refine rc_zald hx hb hAm hw 1 rfl (vp_in_iff.mpr (by decide)) dX7_manyNow_157 ?_
  refine rc_topi 0 rfl ?_
  refine lv_istore (lv' := [(6, .int 0), (5, .int 23), (2, .int 0), (4, .int 40), (3, .ref h4), (0, .ref h0), (1, .int 7)]) hx hb dX7_manyNow_158 hl (by decide) rfl (fun ls hl => ?_)
  refine lv_iload_n hx hb dX7_manyNow_160 rfl (lv_at hl 2 rfl) ?_
  refine lv_iload hx hb dX7_manyNow_161 (lv_at hl 0 rfl) ?_
  refine lv_if_eq (tgt := 170) hx hb dX7_manyNow_163 (by decide) (fun _ => ?_) (fun c9 => absurd (by decide) c9)
  refine lv_iconst (v := 0) hx hb dX7_manyNow_170 (by decide) ?_
  refine lv_iadd hx hb dX7_manyNow_171 ?_
  refine rc_topi 0 (by decide) ?_
  refine lv_istore_n (lv' := [(2, .int 0), (6, .int 0), (5, .int 23), (4, .int 40), (3, .ref h4), (0, .ref h0), (1, .int 7)]) hx hb dX7_manyNow_172 rfl hl (by decide) rfl (fun ls hl => ?_)
  refine lv_iinc (v := 24) (lv' := [(5, .int 24), (2, .int 0), (6, .int 0), (4, .int 40), (3, .ref h4), (0, .ref h0), (1, .int 7)]) hx hb dX7_manyNow_173 hl (k := 2) rfl (by decide) (by decide) rfl (fun ls hl => ?_)
  refine lv_goto (tgt := 147) hx hb dX7_manyNow_176 (by decide) ?_
  refine lv_iload hx hb dX7_manyNow_147 (lv_at hl 0 rfl) ?_
  refine lv_iload hx hb dX7_manyNow_149 (lv_at hl 3 rfl) ?_
  refine lv_icmp_ge (tgt := 179) hx hb dX7_manyNow_151 (by decide) (fun c9 => absurd c9 (by decide)) (fun _ => ?_)
  refine lv_aload_n hx hb dX7_manyNow_154 rfl (lv_at hl 4 rfl) ?_
  refine lv_iload hx hb dX7_manyNow_155 (lv_at hl 0 rfl) ?_
  refine rc_zald hx hb hAm hw 1 rfl (vp_in_iff.mpr (by decide)) dX7_manyNow_157 ?_
  refine rc_topi 0 rfl ?_
  refine lv_istore (lv' := [(6, .int 0), (5, .int 24), (2, .int 0), (4, .int 40), (3, .ref h4), (0, .ref h0), (1, .int 7)]) hx hb dX7_manyNow_158 hl (by decide) rfl (fun ls hl => ?_)
  refine lv_iload_n hx hb dX7_manyNow_160 rfl (lv_at hl 2 rfl) ?_
  refine lv_iload hx hb dX7_manyNow_161 (lv_at hl 0 rfl) ?_
  refine lv_if_eq (tgt := 170) hx hb dX7_manyNow_163 (by decide) (fun _ => ?_) (fun c9 => absurd (by decide) c9)
  refine lv_iconst (v := 0) hx hb dX7_manyNow_170 (by decide) ?_
  refine lv_iadd hx hb dX7_manyNow_171 ?_
  refine rc_topi 0 (by decide) ?_
  refine lv_istore_n (lv' := [(2, .int 0), (6, .int 0), (5, .int 24), (4, .int 40), (3, .ref h4), (0, .ref h0), (1, .int 7)]) hx hb dX7_manyNow_172 rfl hl (by decide) rfl (fun ls hl => ?_)
  refine lv_iinc (v := 25) (lv' := [(5, .int 25), (2, .int 0), (6, .int 0), (4, .int 40), (3, .ref h4), (0, .ref h0), (1, .int 7)]) hx hb dX7_manyNow_173 hl (k := 2) rfl (by decide) (by decide) rfl (fun ls hl => ?_)
  refine lv_goto (tgt := 147) hx hb dX7_manyNow_176 (by decide) ?_
  refine lv_iload hx hb dX7_manyNow_147 (lv_at hl 0 rfl) ?_
  refine lv_iload hx hb dX7_manyNow_149 (lv_at hl 3 rfl) ?_
  refine lv_icmp_ge (tgt := 179) hx hb dX7_manyNow_151 (by decide) (fun c9 => absurd c9 (by decide)) (fun _ => ?_)
  refine lv_aload_n hx hb dX7_manyNow_154 rfl (lv_at hl 4 rfl) ?_
  refine lv_iload hx hb dX7_manyNow_155 (lv_at hl 0 rfl) ?_
  refine rc_zald hx hb hAm hw 1 rfl (vp_in_iff.mpr (by decide)) dX7_manyNow_157 ?_
  refine rc_topi 0 rfl ?_
  refine lv_istore (lv' := [(6, .int 0), (5, .int 25), (2, .int 0), (4, .int 40), (3, .ref h4), (0, .ref h0), (1, .int 7)]) hx hb dX7_manyNow_158 hl (by decide) rfl (fun ls hl => ?_)
  refine lv_iload_n hx hb dX7_manyNow_160 rfl (lv_at hl 2 rfl) ?_
  refine lv_iload hx hb dX7_manyNow_161 (lv_at hl 0 rfl) ?_
  refine lv_if_eq (tgt := 170) hx hb dX7_manyNow_163 (by decide) (fun _ => ?_) (fun c9 => absurd (by decide) c9)
  refine lv_iconst (v := 0) hx hb dX7_manyNow_170 (by decide) ?_
  refine lv_iadd hx hb dX7_manyNow_171 ?_
  refine rc_topi 0 (by decide) ?_
  refine lv_istore_n (lv' := [(2, .int 0), (6, .int 0), (5, .int 25), (4, .int 40), (3, .ref h4), (0, .ref h0), (1, .int 7)]) hx hb dX7_manyNow_172 rfl hl (by decide) rfl (fun ls hl => ?_)
  refine lv_iinc (v := 26) (lv' := [(5, .int 26), (2, .int 0), (6, .int 0), (4, .int 40), (3, .ref h4), (0, .ref h0), (1, .int 7)]) hx hb dX7_manyNow_173 hl (k := 2) rfl (by decide) (by decide) rfl (fun ls hl => ?_)
  refine lv_goto (tgt := 147) hx hb dX7_manyNow_176 (by decide) ?_
  refine lv_iload hx hb dX7_manyNow_147 (lv_at hl 0 rfl) ?_
  refine lv_iload hx hb dX7_manyNow_149 (lv_at hl 3 rfl) ?_
  refine lv_icmp_ge (tgt := 179) hx hb dX7_manyNow_151 (by decide) (fun c9 => absurd c9 (by decide)) (fun _ => ?_)
  refine lv_aload_n hx hb dX7_manyNow_154 rfl (lv_at hl 4 rfl) ?_
  refine lv_iload hx hb dX7_manyNow_155 (lv_at hl 0 rfl) ?_
  refine rc_zald hx hb hAm hw 1 rfl (vp_in_iff.mpr (by decide)) dX7_manyNow_157 ?_
  refine rc_topi 0 rfl ?_
  refine lv_istore (lv' := [(6, .int 0), (5, .int 26), (2, .int 0), (4, .int 40), (3, .ref h4), (0, .ref h0), (1, .int 7)]) hx hb dX7_manyNow_158 hl (by decide) rfl (fun ls hl => ?_)
  refine lv_iload_n hx hb dX7_manyNow_160 rfl (lv_at hl 2 rfl) ?_
  refine lv_iload hx hb dX7_manyNow_161 (lv_at hl 0 rfl) ?_
  refine lv_if_eq (tgt := 170) hx hb dX7_manyNow_163 (by decide) (fun _ => ?_) (fun c9 => absurd (by decide) c9)
  refine lv_iconst (v := 0) hx hb dX7_manyNow_170 (by decide) ?_
  refine lv_iadd hx hb dX7_manyNow_171 ?_
  refine rc_topi 0 (by decide) ?_
  refine lv_istore_n (lv' := [(2, .int 0), (6, .int 0), (5, .int 26), (4, .int 40), (3, .ref h4), (0, .ref h0), (1, .int 7)]) hx hb dX7_manyNow_172 rfl hl (by decide) rfl (fun ls hl => ?_)
  refine lv_iinc (v := 27) (lv' := [(5, .int 27), (2, .int 0), (6, .int 0), (4, .int 40), (3, .ref h4), (0, .ref h0), (1, .int 7)]) hx hb dX7_manyNow_173 hl (k := 2) rfl (by decide) (by decide) rfl (fun ls hl => ?_)
  refine lv_goto (tgt := 147) hx hb dX7_manyNow_176 (by decide) ?_
  refine lv_iload hx hb dX7_manyNow_147 (lv_at hl 0 rfl) ?_
  refine lv_iload hx hb dX7_manyNow_149 (lv_at hl 3 rfl) ?_
  refine lv_icmp_ge (tgt := 179) hx hb dX7_manyNow_151 (by decide) (fun c9 => absurd c9 (by decide)) (fun _ => ?_)
  refine lv_aload_n hx hb dX7_manyNow_154 rfl (lv_at hl 4 rfl) ?_
  refine lv_iload hx hb dX7_manyNow_155 (lv_at hl 0 rfl) ?_
  refine rc_zald hx hb hAm hw 1 rfl (vp_in_iff.mpr (by decide)) dX7_manyNow_157 ?_
  refine rc_topi 0 rfl ?_
  refine lv_istore (lv' := [(6, .int 0), (5, .int 27), (2, .int 0), (4, .int 40), (3, .ref h4), (0, .ref h0), (1, .int 7)]) hx hb dX7_manyNow_158 hl (by decide) rfl (fun ls hl => ?_)
  refine lv_iload_n hx hb dX7_manyNow_160 rfl (lv_at hl 2 rfl) ?_
  refine lv_iload hx hb dX7_manyNow_161 (lv_at hl 0 rfl) ?_
  refine lv_if_eq (tgt := 170) hx hb dX7_manyNow_163 (by decide) (fun _ => ?_) (fun c9 => absurd (by decide) c9)
  refine lv_iconst (v := 0) hx hb dX7_manyNow_170 (by decide) ?_
  refine lv_iadd hx hb dX7_manyNow_171 ?_
  refine rc_topi 0 (by decide) ?_
  refine lv_istore_n (lv' := [(2, .int 0), (6, .int 0), (5, .int 27), (4, .int 40), (3, .ref h4), (0, .ref h0), (1, .int 7)]) hx hb dX7_manyNow_172 rfl hl (by decide) rfl (fun ls hl => ?_)
  refine lv_iinc (v := 28) (lv' := [(5, .int 28), (2, .int 0), (6, .int 0), (4, .int 40), (3, .ref h4), (0, .ref h0), (1, .int 7)]) hx hb dX7_manyNow_173 hl (k := 2) rfl (by decide) (by decide) rfl (fun ls hl => ?_)
  refine lv_goto (tgt := 147) hx hb dX7_manyNow_176 (by decide) ?_
  refine lv_iload hx hb dX7_manyNow_147 (lv_at hl 0 rfl) ?_
  refine lv_iload hx hb dX7_manyNow_149 (lv_at hl 3 rfl) ?_
  refine lv_icmp_ge (tgt := 179) hx hb dX7_manyNow_151 (by decide) (fun c9 => absurd c9 (by decide)) (fun _ => ?_)
  refine lv_aload_n hx hb dX7_manyNow_154 rfl (lv_at hl 4 rfl) ?_
  refine lv_iload hx hb dX7_manyNow_155 (lv_at hl 0 rfl) ?_
  refine rc_zald hx hb hAm hw 1 rfl (vp_in_iff.mpr (by decide)) dX7_manyNow_157 ?_
  refine rc_topi 0 rfl ?_
  refine lv_istore (lv' := [(6, .int 0), (5, .int 28), (2, .int 0), (4, .int 40), (3, .ref h4), (0, .ref h0), (1, .int 7)]) hx hb dX7_manyNow_158 hl (by decide) rfl (fun ls hl => ?_)
  refine lv_iload_n hx hb dX7_manyNow_160 rfl (lv_at hl 2 rfl) ?_
  refine lv_iload hx hb dX7_manyNow_161 (lv_at hl 0 rfl) ?_
  refine lv_if_eq (tgt := 170) hx hb dX7_manyNow_163 (by decide) (fun _ => ?_) (fun c9 => absurd (by decide) c9)
  refine lv_iconst (v := 0) hx hb dX7_manyNow_170 (by decide) ?_
  refine lv_iadd hx hb dX7_manyNow_171 ?_
  refine rc_topi 0 (by decide) ?_
  refine lv_istore_n (lv' := [(2, .int 0), (6, .int 0), (5, .int 28), (4, .int 40), (3, .ref h4), (0, .ref h0), (1, .int 7)]) hx hb dX7_manyNow_172 rfl hl (by decide) rfl (fun ls hl => ?_)
  refine lv_iinc (v := 29) (lv' := [(5, .int 29), (2, .int 0), (6, .int 0), (4, .int 40), (3, .ref h4), (0, .ref h0), (1, .int 7)]) hx hb dX7_manyNow_173 hl (k := 2) rfl (by decide) (by decide) rfl (fun ls hl => ?_)
  refine lv_goto (tgt := 147) hx hb dX7_manyNow_176 (by decide) ?_
  refine lv_iload hx hb dX7_manyNow_147 (lv_at hl 0 rfl) ?_
  refine lv_iload hx hb dX7_manyNow_149 (lv_at hl 3 rfl) ?_
  refine lv_icmp_ge (tgt := 179) hx hb dX7_manyNow_151 (by decide) (fun c9 => absurd c9 (by decide)) (fun _ => ?_)
  refine lv_aload_n hx hb dX7_manyNow_154 rfl (lv_at hl 4 rfl) ?_
  refine lv_iload hx hb dX7_manyNow_155 (lv_at hl 0 rfl) ?_
  refine rc_zald hx hb hAm hw 1 rfl (vp_in_iff.mpr (by decide)) dX7_manyNow_157 ?_
  refine rc_topi 0 rfl ?_
  refine lv_istore (lv' := [(6, .int 0), (5, .int 29), (2, .int 0), (4, .int 40), (3, .ref h4), (0, .ref h0), (1, .int 7)]) hx hb dX7_manyNow_158 hl (by decide) rfl (fun ls hl => ?_)
  refine lv_iload_n hx hb dX7_manyNow_160 rfl (lv_at hl 2 rfl) ?_
  refine lv_iload hx hb dX7_manyNow_161 (lv_at hl 0 rfl) ?_
  refine lv_if_eq (tgt := 170) hx hb dX7_manyNow_163 (by decide) (fun _ => ?_) (fun c9 => absurd (by decide) c9)
  refine lv_iconst (v := 0) hx hb dX7_manyNow_170 (by decide) ?_
  refine lv_iadd hx hb dX7_manyNow_171 ?_
  refine rc_topi 0 (by decide) ?_
  refine lv_istore_n (lv' := [(2, .int 0), (6, .int 0), (5, .int 29), (4, .int 40), (3, .ref h4), (0, .ref h0), (1, .int 7)]) hx hb dX7_manyNow_172 rfl hl (by decide) rfl (fun ls hl => ?_)
  refine lv_iinc (v := 30) (lv' := [(5, .int 30), (2, .int 0), (6, .int 0), (4, .int 40), (3, .ref h4), (0, .ref h0), (1, .int 7)]) hx hb dX7_manyNow_173 hl (k := 2) rfl (by decide) (by decide) rfl (fun ls hl => ?_)
  refine lv_goto (tgt := 147) hx hb dX7_manyNow_176 (by decide) ?_
  refine lv_iload hx hb dX7_manyNow_147 (lv_at hl 0 rfl) ?_
  refine lv_iload hx hb dX7_manyNow_149 (lv_at hl 3 rfl) ?_
  refine lv_icmp_ge (tgt := 179) hx hb dX7_manyNow_151 (by decide) (fun c9 => absurd c9 (by decide)) (fun _ => ?_)
  refine lv_aload_n hx hb dX7_manyNow_154 rfl (lv_at hl 4 rfl) ?_
  refine lv_iload hx hb dX7_manyNow_155 (lv_at hl 0 rfl) ?_
  refine rc_zald hx hb hAm hw 1 rfl (vp_in_iff.mpr (by decide)) dX7_manyNow_157 ?_
  refine rc_topi 0 rfl ?_
  refine lv_istore (lv' := [(6, .int 0), (5, .int 30), (2, .int 0), (4, .int 40), (3, .ref h4), (0, .ref h0), (1, .int 7)]) hx hb dX7_manyNow_158 hl (by decide) rfl (fun ls hl => ?_)
  refine lv_iload_n hx hb dX7_manyNow_160 rfl (lv_at hl 2 rfl) ?_
  refine lv_iload hx hb dX7_manyNow_161 (lv_at hl 0 rfl) ?_
  refine lv_if_eq (tgt := 170) hx hb dX7_manyNow_163 (by decide) (fun _ => ?_) (fun c9 => absurd (by decide) c9)
  refine lv_iconst (v := 0) hx hb dX7_manyNow_170 (by decide) ?_
  refine lv_iadd hx hb dX7_manyNow_171 ?_
  refine rc_topi 0 (by decide) ?_
  refine lv_istore_n (lv' := [(2, .int 0), (6, .int 0), (5, .int 30), (4, .int 40), (3, .ref h4), (0, .ref h0), (1, .int 7)]) hx hb dX7_manyNow_172 rfl hl (by decide) rfl (fun ls hl => ?_)
  refine lv_iinc (v := 31) (lv' := [(5, .int 31), (2, .int 0), (6, .int 0), (4, .int 40), (3, .ref h4), (0, .ref h0), (1, .int 7)]) hx hb dX7_manyNow_173 hl (k := 2) rfl (by decide) (by decide) rfl (fun ls hl => ?_)
  refine lv_goto (tgt := 147) hx hb dX7_manyNow_176 (by decide) ?_
  refine lv_iload hx hb dX7_manyNow_147 (lv_at hl 0 rfl) ?_
  refine lv_iload hx hb dX7_manyNow_149 (lv_at hl 3 rfl) ?_
  refine lv_icmp_ge (tgt := 179) hx hb dX7_manyNow_151 (by decide) (fun c9 => absurd c9 (by decide)) (fun _ => ?_)
  refine lv_aload_n hx hb dX7_manyNow_154 rfl (lv_at hl 4 rfl) ?_
  refine lv_iload hx hb dX7_manyNow_155 (lv_at hl 0 rfl) ?_
  refine rc_zald hx hb hAm hw 1 rfl (vp_in_iff.mpr (by decide)) dX7_manyNow_157 ?_
  refine rc_topi 0 rfl ?_
  refine lv_istore (lv' := [(6, .int 0), (5, .int 31), (2, .int 0), (4, .int 40), (3, .ref h4), (0, .ref h0), (1, .int 7)]) hx hb dX7_manyNow_158 hl (by decide) rfl (fun ls hl => ?_)
  refine lv_iload_n hx hb dX7_manyNow_160 rfl (lv_at hl 2 rfl) ?_
  refine lv_iload hx hb dX7_manyNow_161 (lv_at hl 0 rfl) ?_
  refine lv_if_eq (tgt := 170) hx hb dX7_manyNow_163 (by decide) (fun _ => ?_) (fun c9 => absurd (by decide) c9)
  refine lv_iconst (v := 0) hx hb dX7_manyNow_170 (by decide) ?_
  refine lv_iadd hx hb dX7_manyNow_171 ?_
  refine rc_topi 0 (by decide) ?_
  refine lv_istore_n (lv' := [(2, .int 0), (6, .int 0), (5, .int 31), (4, .int 40), (3, .ref h4), (0, .ref h0), (1, .int 7)]) hx hb dX7_manyNow_172 rfl hl (by decide) rfl (fun ls hl => ?_)
  refine lv_iinc (v := 32) (lv' := [(5, .int 32), (2, .int 0), (6, .int 0), (4, .int 40), (3, .ref h4), (0, .ref h0), (1, .int 7)]) hx hb dX7_manyNow_173 hl (k := 2) rfl (by decide) (by decide) rfl (fun ls hl => ?_)
  refine lv_goto (tgt := 147) hx hb dX7_manyNow_176 (by decide) ?_
  refine lv_iload hx hb dX7_manyNow_147 (lv_at hl 0 rfl) ?_
  refine lv_iload hx hb dX7_manyNow_149 (lv_at hl 3 rfl) ?_
  refine lv_icmp_ge (tgt := 179) hx hb dX7_manyNow_151 (by decide) (fun c9 => absurd c9 (by decide)) (fun _ => ?_)
  refine lv_aload_n hx hb dX7_manyNow_154 rfl (lv_at hl 4 rfl) ?_
  refine lv_iload hx hb dX7_manyNow_155 (lv_at hl 0 rfl) ?_
  refine rc_zald hx hb hAm hw 1 rfl (vp_in_iff.mpr (by decide)) dX7_manyNow_157 ?_
  refine rc_topi 0 rfl ?_
  refine lv_istore (lv' := [(6, .int 0), (5, .int 32), (2, .int 0), (4, .int 40), (3, .ref h4), (0, .ref h0), (1, .int 7)]) hx hb dX7_manyNow_158 hl (by decide) rfl (fun ls hl => ?_)
  refine lv_iload_n hx hb dX7_manyNow_160 rfl (lv_at hl 2 rfl) ?_
  refine lv_iload hx hb dX7_manyNow_161 (lv_at hl 0 rfl) ?_
  refine lv_if_eq (tgt := 170) hx hb dX7_manyNow_163 (by decide) (fun _ => ?_) (fun c9 => absurd (by decide) c9)
  refine lv_iconst (v := 0) hx hb dX7_manyNow_170 (by decide) ?_
  refine lv_iadd hx hb dX7_manyNow_171 ?_
  refine rc_topi 0 (by decide) ?_
  refine lv_istore_n (lv' := [(2, .int 0), (6, .int 0), (5, .int 32), (4, .int 40), (3, .ref h4), (0, .ref h0), (1, .int 7)]) hx hb dX7_manyNow_172 rfl hl (by decide) rfl (fun ls hl => ?_)
  refine lv_iinc (v := 33) (lv' := [(5, .int 33), (2, .int 0), (6, .int 0), (4, .int 40), (3, .ref h4), (0, .ref h0), (1, .int 7)]) hx hb dX7_manyNow_173 hl (k := 2) rfl (by decide) (by decide) rfl (fun ls hl => ?_)
  refine lv_goto (tgt := 147) hx hb dX7_manyNow_176 (by decide) ?_
  refine lv_iload hx hb dX7_manyNow_147 (lv_at hl 0 rfl) ?_
  refine lv_iload hx hb dX7_manyNow_149 (lv_at hl 3 rfl) ?_
  refine lv_icmp_ge (tgt := 179) hx hb dX7_manyNow_151 (by decide) (fun c9 => absurd c9 (by decide)) (fun _ => ?_)
  refine lv_aload_n hx hb dX7_manyNow_154 rfl (lv_at hl 4 rfl) ?_
  refine lv_iload hx hb dX7_manyNow_155 (lv_at hl 0 rfl) ?_
  refine rc_zald hx hb hAm hw 1 rfl (vp_in_iff.mpr (by decide)) dX7_manyNow_157 ?_
  refine rc_topi 0 rfl ?_
  refine lv_istore (lv' := [(6, .int 0), (5, .int 33), (2, .int 0), (4, .int 40), (3, .ref h4), (0, .ref h0), (1, .int 7)]) hx hb dX7_manyNow_158 hl (by decide) rfl (fun ls hl => ?_)
  refine lv_iload_n hx hb dX7_manyNow_160 rfl (lv_at hl 2 rfl) ?_
  refine lv_iload hx hb dX7_manyNow_161 (lv_at hl 0 rfl) ?_
  refine lv_if_eq (tgt := 170) hx hb dX7_manyNow_163 (by decide) (fun _ => ?_) (fun c9 => absurd (by decide) c9)
  refine lv_iconst (v := 0) hx hb dX7_manyNow_170 (by decide) ?_
  refine lv_iadd hx hb dX7_manyNow_171 ?_
  refine rc_topi 0 (by decide) ?_
  refine lv_istore_n (lv' := [(2, .int 0), (6, .int 0), (5, .int 33), (4, .int 40), (3, .ref h4), (0, .ref h0), (1, .int 7)]) hx hb dX7_manyNow_172 rfl hl (by decide) rfl (fun ls hl => ?_)
  refine lv_iinc (v := 34) (lv' := [(5, .int 34), (2, .int 0), (6, .int 0), (4, .int 40), (3, .ref h4), (0, .ref h0), (1, .int 7)]) hx hb dX7_manyNow_173 hl (k := 2) rfl (by decide) (by decide) rfl (fun ls hl => ?_)
  refine lv_goto (tgt := 147) hx hb dX7_manyNow_176 (by decide) ?_
  refine lv_iload hx hb dX7_manyNow_147 (lv_at hl 0 rfl) ?_
  refine lv_iload hx hb dX7_manyNow_149 (lv_at hl 3 rfl) ?_
  refine lv_icmp_ge (tgt := 179) hx hb dX7_manyNow_151 (by decide) (fun c9 => absurd c9 (by decide)) (fun _ => ?_)
  refine lv_aload_n hx hb dX7_manyNow_154 rfl (lv_at hl 4 rfl) ?_
  refine lv_iload hx hb dX7_manyNow_155 (lv_at hl 0 rfl) ?_
  refine rc_zald hx hb hAm hw 1 rfl (vp_in_iff.mpr (by decide)) dX7_manyNow_157 ?_
  refine rc_topi 0 rfl ?_
  refine lv_istore (lv' := [(6, .int 0), (5, .int 34), (2, .int 0), (4, .int 40), (3, .ref h4), (0, .ref h0), (1, .int 7)]) hx hb dX7_manyNow_158 hl (by decide) rfl (fun ls hl => ?_)
  refine lv_iload_n hx hb dX7_manyNow_160 rfl (lv_at hl 2 rfl) ?_
  refine lv_iload hx hb dX7_manyNow_161 (lv_at hl 0 rfl) ?_
  refine lv_if_eq (tgt := 170) hx hb dX7_manyNow_163 (by decide) (fun _ => ?_) (fun c9 => absurd (by decide) c9)
  refine lv_iconst (v := 0) hx hb dX7_manyNow_170 (by decide) ?_
  refine lv_iadd hx hb dX7_manyNow_171 ?_
  refine rc_topi 0 (by decide) ?_
  refine lv_istore_n (lv' := [(2, .int 0), (6, .int 0), (5, .int 34), (4, .int 40), (3, .ref h4), (0, .ref h0), (1, .int 7)]) hx hb dX7_manyNow_172 rfl hl (by decide) rfl (fun ls hl => ?_)
  refine lv_iinc (v := 35) (lv' := [(5, .int 35), (2, .int 0), (6, .int 0), (4, .int 40), (3, .ref h4), (0, .ref h0), (1, .int 7)]) hx hb dX7_manyNow_173 hl (k := 2) rfl (by decide) (by decide) rfl (fun ls hl => ?_)
  refine lv_goto (tgt := 147) hx hb dX7_manyNow_176 (by decide) ?_
  refine lv_iload hx hb dX7_manyNow_147 (lv_at hl 0 rfl) ?_
  refine lv_iload hx hb dX7_manyNow_149 (lv_at hl 3 rfl) ?_
  refine lv_icmp_ge (tgt := 179) hx hb dX7_manyNow_151 (by decide) (fun c9 => absurd c9 (by decide)) (fun _ => ?_)
  refine lv_aload_n hx hb dX7_manyNow_154 rfl (lv_at hl 4 rfl) ?_
  refine lv_iload hx hb dX7_manyNow_155 (lv_at hl 0 rfl) ?_
  refine rc_zald hx hb hAm hw 1 rfl (vp_in_iff.mpr (by decide)) dX7_manyNow_157 ?_
  refine rc_topi 0 rfl ?_
  refine lv_istore (lv' := [(6, .int 0), (5, .int 35), (2, .int 0), (4, .int 40), (3, .ref h4), (0, .ref h0), (1, .int 7)]) hx hb dX7_manyNow_158 hl (by decide) rfl (fun ls hl => ?_)
  refine lv_iload_n hx hb dX7_manyNow_160 rfl (lv_at hl 2 rfl) ?_
  refine lv_iload hx hb dX7_manyNow_161 (lv_at hl 0 rfl) ?_
  refine lv_if_eq (tgt := 170) hx hb dX7_manyNow_163 (by decide) (fun _ => ?_) (fun c9 => absurd (by decide) c9)
  refine lv_iconst (v := 0) hx hb dX7_manyNow_170 (by decide) ?_
  refine lv_iadd hx hb dX7_manyNow_171 ?_
  refine rc_topi 0 (by decide) ?_
  refine lv_istore_n (lv' := [(2, .int 0), (6, .int 0), (5, .int 35), (4, .int 40), (3, .ref h4), (0, .ref h0), (1, .int 7)]) hx hb dX7_manyNow_172 rfl hl (by decide) rfl (fun ls hl => ?_)
  refine lv_iinc (v := 36) (lv' := [(5, .int 36), (2, .int 0), (6, .int 0), (4, .int 40), (3, .ref h4), (0, .ref h0), (1, .int 7)]) hx hb dX7_manyNow_173 hl (k := 2) rfl (by decide) (by decide) rfl (fun ls hl => ?_)
  refine lv_goto (tgt := 147) hx hb dX7_manyNow_176 (by decide) ?_
  refine lv_iload hx hb dX7_manyNow_147 (lv_at hl 0 rfl) ?_
  refine lv_iload hx hb dX7_manyNow_149 (lv_at hl 3 rfl) ?_
  refine lv_icmp_ge (tgt := 179) hx hb dX7_manyNow_151 (by decide) (fun c9 => absurd c9 (by decide)) (fun _ => ?_)
  refine lv_aload_n hx hb dX7_manyNow_154 rfl (lv_at hl 4 rfl) ?_
  refine lv_iload hx hb dX7_manyNow_155 (lv_at hl 0 rfl) ?_
  refine rc_zald hx hb hAm hw 1 rfl (vp_in_iff.mpr (by decide)) dX7_manyNow_157 ?_
  refine rc_topi 0 rfl ?_
  refine lv_istore (lv' := [(6, .int 0), (5, .int 36), (2, .int 0), (4, .int 40), (3, .ref h4), (0, .ref h0), (1, .int 7)]) hx hb dX7_manyNow_158 hl (by decide) rfl (fun ls hl => ?_)
  refine lv_iload_n hx hb dX7_manyNow_160 rfl (lv_at hl 2 rfl) ?_
  refine lv_iload hx hb dX7_manyNow_161 (lv_at hl 0 rfl) ?_
  refine lv_if_eq (tgt := 170) hx hb dX7_manyNow_163 (by decide) (fun _ => ?_) (fun c9 => absurd (by decide) c9)
  refine lv_iconst (v := 0) hx hb dX7_manyNow_170 (by decide) ?_
  refine lv_iadd hx hb dX7_manyNow_171 ?_
  refine rc_topi 0 (by decide) ?_
  refine lv_istore_n (lv' := [(2, .int 0), (6, .int 0), (5, .int 36), (4, .int 40), (3, .ref h4), (0, .ref h0), (1, .int 7)]) hx hb dX7_manyNow_172 rfl hl (by decide) rfl (fun ls hl => ?_)
  refine lv_iinc (v := 37) (lv' := [(5, .int 37), (2, .int 0), (6, .int 0), (4, .int 40), (3, .ref h4), (0, .ref h0), (1, .int 7)]) hx hb dX7_manyNow_173 hl (k := 2) rfl (by decide) (by decide) rfl (fun ls hl => ?_)
  refine lv_goto (tgt := 147) hx hb dX7_manyNow_176 (by decide) ?_
  refine lv_iload hx hb dX7_manyNow_147 (lv_at hl 0 rfl) ?_
  refine lv_iload hx hb dX7_manyNow_149 (lv_at hl 3 rfl) ?_
  refine lv_icmp_ge (tgt := 179) hx hb dX7_manyNow_151 (by decide) (fun c9 => absurd c9 (by decide)) (fun _ => ?_)
  refine lv_aload_n hx hb dX7_manyNow_154 rfl (lv_at hl 4 rfl) ?_
  refine lv_iload hx hb dX7_manyNow_155 (lv_at hl 0 rfl) ?_
  refine rc_zald hx hb hAm hw 1 rfl (vp_in_iff.mpr (by decide)) dX7_manyNow_157 ?_
  refine rc_topi 0 rfl ?_
  refine lv_istore (lv' := [(6, .int 0), (5, .int 37), (2, .int 0), (4, .int 40), (3, .ref h4), (0, .ref h0), (1, .int 7)]) hx hb dX7_manyNow_158 hl (by decide) rfl (fun ls hl => ?_)
  refine lv_iload_n hx hb dX7_manyNow_160 rfl (lv_at hl 2 rfl) ?_
  refine lv_iload hx hb dX7_manyNow_161 (lv_at hl 0 rfl) ?_
  refine lv_if_eq (tgt := 170) hx hb dX7_manyNow_163 (by decide) (fun _ => ?_) (fun c9 => absurd (by decide) c9)
  refine lv_iconst (v := 0) hx hb dX7_manyNow_170 (by decide) ?_
  refine lv_iadd hx hb dX7_manyNow_171 ?_
  refine rc_topi 0 (by decide) ?_
  refine lv_istore_n (lv' := [(2, .int 0), (6, .int 0), (5, .int 37), (4, .int 40), (3, .ref h4), (0, .ref h0), (1, .int 7)]) hx hb dX7_manyNow_172 rfl hl (by decide) rfl (fun ls hl => ?_)
  refine lv_iinc (v := 38) (lv' := [(5, .int 38), (2, .int 0), (6, .int 0), (4, .int 40), (3, .ref h4), (0, .ref h0), (1, .int 7)]) hx hb dX7_manyNow_173 hl (k := 2) rfl (by decide) (by decide) rfl (fun ls hl => ?_)
  refine lv_goto (tgt := 147) hx hb dX7_manyNow_176 (by decide) ?_
  refine lv_iload hx hb dX7_manyNow_147 (lv_at hl 0 rfl) ?_
  refine lv_iload hx hb dX7_manyNow_149 (lv_at hl 3 rfl) ?_
  refine lv_icmp_ge (tgt := 179) hx hb dX7_manyNow_151 (by decide) (fun c9 => absurd c9 (by decide)) (fun _ => ?_)
  refine lv_aload_n hx hb dX7_manyNow_154 rfl (lv_at hl 4 rfl) ?_
  refine lv_iload hx hb dX7_manyNow_155 (lv_at hl 0 rfl) ?_
  refine rc_zald hx hb hAm hw 1 rfl (vp_in_iff.mpr (by decide)) dX7_manyNow_157 ?_
  refine rc_topi 0 rfl ?_
  refine lv_istore (lv' := [(6, .int 0), (5, .int 38), (2, .int 0), (4, .int 40), (3, .ref h4), (0, .ref h0), (1, .int 7)]) hx hb dX7_manyNow_158 hl (by decide) rfl (fun ls hl => ?_)
  refine lv_iload_n hx hb dX7_manyNow_160 rfl (lv_at hl 2 rfl) ?_
  refine lv_iload hx hb dX7_manyNow_161 (lv_at hl 0 rfl) ?_
  refine lv_if_eq (tgt := 170) hx hb dX7_manyNow_163 (by decide) (fun _ => ?_) (fun c9 => absurd (by decide) c9)
  refine lv_iconst (v := 0) hx hb dX7_manyNow_170 (by decide) ?_
  refine lv_iadd hx hb dX7_manyNow_171 ?_
  refine rc_topi 0 (by decide) ?_
  refine lv_istore_n (lv' := [(2, .int 0), (6, .int 0), (5, .int 38), (4, .int 40), (3, .ref h4), (0, .ref h0), (1, .int 7)]) hx hb dX7_manyNow_172 rfl hl (by decide) rfl (fun ls hl => ?_)
  refine lv_iinc (v := 39) (lv' := [(5, .int 39), (2, .int 0), (6, .int 0), (4, .int 40), (3, .ref h4), (0, .ref h0), (1, .int 7)]) hx hb dX7_manyNow_173 hl (k := 2) rfl (by decide) (by decide) rfl (fun ls hl => ?_)
  refine lv_goto (tgt := 147) hx hb dX7_manyNow_176 (by decide) ?_
  refine lv_iload hx hb dX7_manyNow_147 (lv_at hl 0 rfl) ?_
  refine lv_iload hx hb dX7_manyNow_149 (lv_at hl 3 rfl) ?_
  refine lv_icmp_ge (tgt := 179) hx hb dX7_manyNow_151 (by decide) (fun c9 => absurd c9 (by decide)) (fun _ => ?_)
  refine lv_aload_n hx hb dX7_manyNow_154 rfl (lv_at hl 4 rfl) ?_
  refine lv_iload hx hb dX7_manyNow_155 (lv_at hl 0 rfl) ?_
  refine rc_zald hx hb hAm hw 1 rfl (vp_in_iff.mpr (by decide)) dX7_manyNow_157 ?_
  refine rc_topi 0 rfl ?_
  refine lv_istore (lv' := [(6, .int 0), (5, .int 39), (2, .int 0), (4, .int 40), (3, .ref h4), (0, .ref h0), (1, .int 7)]) hx hb dX7_manyNow_158 hl (by decide) rfl (fun ls hl => ?_)
  refine lv_iload_n hx hb dX7_manyNow_160 rfl (lv_at hl 2 rfl) ?_
  refine lv_iload hx hb dX7_manyNow_161 (lv_at hl 0 rfl) ?_
  refine lv_if_eq (tgt := 170) hx hb dX7_manyNow_163 (by decide) (fun _ => ?_) (fun c9 => absurd (by decide) c9)
  refine lv_iconst (v := 0) hx hb dX7_manyNow_170 (by decide) ?_
  refine lv_iadd hx hb dX7_manyNow_171 ?_
  refine rc_topi 0 (by decide) ?_
  refine lv_istore_n (lv' := [(2, .int 0), (6, .int 0), (5, .int 39), (4, .int 40), (3, .ref h4), (0, .ref h0), (1, .int 7)]) hx hb dX7_manyNow_172 rfl hl (by decide) rfl (fun ls hl => ?_)
  refine lv_iinc (v := 40) (lv' := [(5, .int 40), (2, .int 0), (6, .int 0), (4, .int 40), (3, .ref h4), (0, .ref h0), (1, .int 7)]) hx hb dX7_manyNow_173 hl (k := 2) rfl (by decide) (by decide) rfl (fun ls hl => ?_)
  refine lv_goto (tgt := 147) hx hb dX7_manyNow_176 (by decide) ?_
  refine lv_iload hx hb dX7_manyNow_147 (lv_at hl 0 rfl) ?_
  refine lv_iload hx hb dX7_manyNow_149 (lv_at hl 3 rfl) ?_
  refine lv_icmp_ge (tgt := 179) hx hb dX7_manyNow_151 (by decide) (fun _ => ?_) (fun c9 => absurd (by decide) c9)
  refine lv_iload_n hx hb dX7_manyNow_179 rfl (lv_at hl 1 rfl) ?_
  exact rc_iret (v := 0) hx hb hr hlocks hw [(h0, .inr (12, [.int 0, .ref h1, .ref h2, .ref h3, .ref h4, .ref h5, .int 1, .int 3, .int 50, .int (-1), .int (-1), .int (-1), .int (-1), .int 0, .int 100, .int 1000, .long 0])), (h4, .inl (E.2.1 3, 40, .inl (fun _ => 0)))] (⟨rfl, rfl⟩) [0, 1] rfl (by decide) (Nat.le_of_ble_eq_true rfl) (Nat.le_of_ble_eq_true rfl) dX7_manyNow_180
