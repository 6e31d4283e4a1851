theorem hd_X7_manyNow : yX7_manyNow.cls ≠ "java/lang/invoke/MethodHandle" ∧ yX7_manyNow.cls ≠ "java/lang/invoke/VarHandle" ∧ (parseMethodDescriptor yX7_manyNow.desc).map (fun d => d.parameters.length) = some 1 := by decide +kernel
set_option maxHeartbeats 4000000 in
set_option maxRecDepth 100000 in
theorem cw_X7_many (l : Launch) (E : rc_E) (sz : Nat) (h0 : Nat) (x0 : Int32) (h1 : Nat) (h2 : Nat) (h3 : Nat) (h4 : Nat) (h5 : Nat) : rc_Mi l yX7_many [Cond.code yX7_many cX7_many 2 (some FieldType.int)] { frames := 4, cells := 1, slots := 4, locals := 79 } E [.ref h0, .int x0] [(h0, .inr (12, [.int 0, .ref h1, .ref h2, .ref h3, .ref h4, .ref h5, .int 1, .int 3, .int 50, .int (-1), .int (-1), .int (-1), .int (-1), .int 0, .int 100, .int 1000, .long 0])), (h2, .inr (4, [.int 0, .ref (E.2.2 0), .int 0])), (h3, .inr (4, [.int 0, .ref (E.2.2 0), .int 0])), (h4, .inl (E.2.1 3, 40, .inl (fun _ => 0)))] sz (S := va_W) (fun (r : Int32) (u : va_W) => (x0 < 0 ∧ 0 = r ∧ u = [(h0, .inr (12, [.int 1, .ref h1, .ref h2, .ref h3, .ref h4, .ref h5, .int 1, .int 3, .int 50, .int (-1), .int (-1), .int (-1), .int (-1), .int 0, .int 100, .int 1000, .long 0])), (h2, .inr (4, [.int 0, .ref (E.2.2 0), .int 0])), (h3, .inr (4, [.int 0, .ref (E.2.2 0), .int 0])), (h4, .inl (E.2.1 3, 40, .inl (fun _ => 0)))]) ∨ (¬ x0 < 0 ∧ 8 < x0 ∧ 0 = r ∧ u = [(h0, .inr (12, [.int 1, .ref h1, .ref h2, .ref h3, .ref h4, .ref h5, .int 1, .int 3, .int 50, .int (-1), .int (-1), .int (-1), .int (-1), .int 0, .int 100, .int 1000, .long 0])), (h2, .inr (4, [.int 0, .ref (E.2.2 0), .int 0])), (h3, .inr (4, [.int 0, .ref (E.2.2 0), .int 0])), (h4, .inl (E.2.1 3, 40, .inl (fun _ => 0)))]) ∨ (x0 = 0 ∧ 0 = r ∧ u = [(h0, .inr (12, [.int 0, .ref h1, .ref h2, .ref h3, .ref h4, .ref h5, .int 1, .int 3, .int 50, .int (-1), .int (-1), .int (-1), .int (-1), .int 0, .int 100, .int 1000, .long 0])), (h2, .inr (4, [.int 0, .ref (E.2.2 0), .int 0])), (h3, .inr (4, [.int 0, .ref (E.2.2 0), .int 0])), (h4, .inl (E.2.1 3, 40, .inl (fun _ => 0)))]) ∨ (x0 = 1 ∧ 1 = r ∧ u = [(h0, .inr (12, [.int 0, .ref h1, .ref h2, .ref h3, .ref h4, .ref h5, .int 1, .int 3, .int 50, .int (-1), .int (-1), .int (-1), .int (-1), .int 0, .int 100, .int 1000, .long 0])), (h2, .inr (4, [.int 0, .ref (E.2.2 0), .int 0])), (h3, .inr (4, [.int 0, .ref (E.2.2 0), .int 0])), (h4, .inl (E.2.1 3, 40, .inl (fun _ => 0)))]) ∨ (x0 = 2 ∧ 0 = r ∧ u = [(h0, .inr (12, [.int 0, .ref h1, .ref h2, .ref h3, .ref h4, .ref h5, .int 1, .int 3, .int 50, .int (-1), .int (-1), .int (-1), .int (-1), .int 0, .int 100, .int 1000, .long 0])), (h2, .inr (4, [.int 0, .ref (E.2.2 0), .int 0])), (h3, .inr (4, [.int 0, .ref (E.2.2 0), .int 0])), (h4, .inl (E.2.1 3, 40, .inl (fun _ => 0)))]) ∨ (x0 = 3 ∧ 0 = r ∧ u = [(h0, .inr (12, [.int 0, .ref h1, .ref h2, .ref h3, .ref h4, .ref h5, .int 1, .int 3, .int 50, .int (-1), .int (-1), .int (-1), .int (-1), .int 0, .int 100, .int 1000, .long 0])), (h2, .inr (4, [.int 0, .ref (E.2.2 0), .int 0])), (h3, .inr (4, [.int 0, .ref (E.2.2 0), .int 0])), (h4, .inl (E.2.1 3, 40, .inl (fun _ => 0)))]) ∨ (x0 = 4 ∧ 1000 = r ∧ u = [(h0, .inr (12, [.int 0, .ref h1, .ref h2, .ref h3, .ref h4, .ref h5, .int 1, .int 3, .int 50, .int (-1), .int (-1), .int (-1), .int (-1), .int 0, .int 100, .int 1000, .long 0])), (h2, .inr (4, [.int 0, .ref (E.2.2 0), .int 0])), (h3, .inr (4, [.int 0, .ref (E.2.2 0), .int 0])), (h4, .inl (E.2.1 3, 40, .inl (fun _ => 0)))]) ∨ (x0 = 5 ∧ 100 = r ∧ u = [(h0, .inr (12, [.int 0, .ref h1, .ref h2, .ref h3, .ref h4, .ref h5, .int 1, .int 3, .int 50, .int (-1), .int (-1), .int (-1), .int (-1), .int 0, .int 100, .int 1000, .long 0])), (h2, .inr (4, [.int 0, .ref (E.2.2 0), .int 0])), (h3, .inr (4, [.int 0, .ref (E.2.2 0), .int 0])), (h4, .inl (E.2.1 3, 40, .inl (fun _ => 0)))]) ∨ (x0 = 6 ∧ 0 = r ∧ u = [(h0, .inr (12, [.int 0, .ref h1, .ref h2, .ref h3, .ref h4, .ref h5, .int 1, .int 3, .int 50, .int (-1), .int (-1), .int (-1), .int (-1), .int 0, .int 100, .int 1000, .long 0])), (h2, .inr (4, [.int 0, .ref (E.2.2 0), .int 0])), (h3, .inr (4, [.int 0, .ref (E.2.2 0), .int 0])), (h4, .inl (E.2.1 3, 40, .inl (fun _ => 0)))]) ∨ (x0 = 7 ∧ 0 = r ∧ u = [(h0, .inr (12, [.int 0, .ref h1, .ref h2, .ref h3, .ref h4, .ref h5, .int 1, .int 3, .int 50, .int (-1), .int (-1), .int (-1), .int (-1), .int 0, .int 100, .int 1000, .long 0])), (h2, .inr (4, [.int 0, .ref (E.2.2 0), .int 0])), (h3, .inr (4, [.int 0, .ref (E.2.2 0), .int 0])), (h4, .inl (E.2.1 3, 40, .inl (fun _ => 0)))]) ∨ (x0 = 8 ∧ 0 = r ∧ u = [(h0, .inr (12, [.int 0, .ref h1, .ref h2, .ref h3, .ref h4, .ref h5, .int 1, .int 3, .int 50, .int (-1), .int (-1), .int (-1), .int (-1), .int 0, .int 100, .int 1000, .long 0])), (h2, .inr (4, [.int 0, .ref (E.2.2 0), .int 0])), (h3, .inr (4, [.int 0, .ref (E.2.2 0), .int 0])), (h4, .inl (E.2.1 3, 40, .inl (fun _ => 0)))])) (fun u => u) 1 4 := by
  refine rc_ini (cc := cX7_many) (maxL := 2) (ret := (some FieldType.int)) (by decide) rfl (Nat.le_of_ble_eq_true rfl) ?_
  intro p e s m args below meth c ls A hx hb hr hml _ hown hlocks hin hA hAm hw hl
  have hown : s.vm.findClass RX7 = some m.cls := hown
  have hl : lv_has ls 2 [(0, .ref h0), (1, .int x0)] := hl
  refine lv_aload_n hx hb dX7_many_0 rfl (lv_at hl 0 rfl) ?_
  refine lv_iconst (v := 0) hx hb dX7_many_1 (by decide) ?_
  refine rc_put hx hb hown hAm hw lyX7 tyX7 tyX7_ok nmX7 0 rfl rfl 0 (by decide) qw_860 (fun _ h9 => h9) rfl rfl (by decide +kernel) (Nat.le_of_ble_eq_true rfl) [(h0, .inr (12, [.int 0, .ref h1, .ref h2, .ref h3, .ref h4, .ref h5, .int 1, .int 3, .int 50, .int (-1), .int (-1), .int (-1), .int (-1), .int 0, .int 100, .int 1000, .long 0])), (h2, .inr (4, [.int 0, .ref (E.2.2 0), .int 0])), (h3, .inr (4, [.int 0, .ref (E.2.2 0), .int 0])), (h4, .inl (E.2.1 3, 40, .inl (fun _ => 0)))] rfl dX7_many_2 (fun H locs hw => ?_)
  refine lv_iload_n hx hb dX7_many_5 rfl (lv_at hl 1 rfl) ?_
  refine lv_iconst (v := 0) hx hb dX7_many_6 (by decide) ?_
  refine lv_bipush (v := 8) hx hb dX7_many_7 (by decide) ?_
  refine rc_calli (wr := [(h0, .inr (12, [.int 0, .ref h1, .ref h2, .ref h3, .ref h4, .ref h5, .int 1, .int 3, .int 50, .int (-1), .int (-1), .int (-1), .int (-1), .int 0, .int 100, .int 1000, .long 0])), (h2, .inr (4, [.int 0, .ref (E.2.2 0), .int 0])), (h3, .inr (4, [.int 0, .ref (E.2.2 0), .int 0])), (h4, .inl (E.2.1 3, 40, .inl (fun _ => 0)))]) (va_runS (As := [.int x0, .int 0, .int 8]) (rest := []) (Ts := []) ⟨hx, hb, hml, hown, fun _ h9 => absurd h9 List.not_mem_nil⟩ (cw_X7_is_10 l E _ x0) (rc_cwS hAm qw_921 qw_13 qw_923 qw_922 rfl rfl hd_X7_is ⟨Nat.le_of_ble_eq_true rfl, Nat.le_of_ble_eq_true rfl⟩) (rc_preS hAm hA hw [] rfl rfl) rfl rfl hl.1 rfl (lv_room (Nat.le_of_ble_eq_true rfl)) dX7_many_9 ⟨Nat.le_of_ble_eq_true rfl, Nat.le_of_ble_eq_true rfl⟩) hA hw [] [0, 1, 2, 3] rfl rfl rfl (by decide) (fun r_1 u_2 H locs hp hw => ?_)
  rcases hp with ⟨c_3, rfl, rfl⟩ | ⟨c_4, c_5, rfl, rfl⟩ | ⟨c_6, c_7, rfl, rfl⟩
  · have hw : rc_W E A s [(h0, .inr (12, [.int 0, .ref h1, .ref h2, .ref h3, .ref h4, .ref h5, .int 1, .int 3, .int 50, .int (-1), .int (-1), .int (-1), .int (-1), .int 0, .int 100, .int 1000, .long 0])), (h2, .inr (4, [.int 0, .ref (E.2.2 0), .int 0])), (h3, .inr (4, [.int 0, .ref (E.2.2 0), .int 0])), (h4, .inl (E.2.1 3, 40, .inl (fun _ => 0)))] H locs := hw
    refine lv_if_eq (tgt := 23) hx hb dX7_many_12 (by decide) (fun _ => ?_) (fun c9 => absurd (by decide) c9)
    refine lv_aload_n hx hb dX7_many_23 rfl (lv_at hl 0 rfl) ?_
    refine lv_iconst (v := 1) hx hb dX7_many_24 (by decide) ?_
    refine rc_calli (wr := [(h2, .inr (4, [.int 0, .ref (E.2.2 0), .int 0])), (h3, .inr (4, [.int 0, .ref (E.2.2 0), .int 0])), (h4, .inl (E.2.1 3, 40, .inl (fun _ => 0)))]) (va_runV (As := [.int 1]) (rest := []) (Ts := []) ⟨hx, hb, hml, hown, fun _ h9 => absurd h9 List.not_mem_nil⟩ (cw_X7_refuse l E _ h0 h1 h2 h3 h4 h5) (rc_cwV hAm qw_924 qw_13 qw_927 qw_926 qs_50 rfl rfl hd_X7_refuse ⟨Nat.le_of_ble_eq_true rfl, Nat.le_of_ble_eq_true rfl⟩) (rc_preV hAm hA hw [0] rfl rfl 0 rfl (q := vwCl[12]) rfl) rfl rfl hl.1 rfl (lv_room (Nat.le_of_ble_eq_true rfl)) dX7_many_25 ⟨Nat.le_of_ble_eq_true rfl, Nat.le_of_ble_eq_true rfl⟩) hA hw [0] [1, 2, 3] rfl rfl rfl (by decide) (fun r_8 u_9 H locs hp hw => ?_)
    obtain ⟨rfl, rfl⟩ := hp
    have hw : rc_W E A s [(h2, .inr (4, [.int 0, .ref (E.2.2 0), .int 0])), (h3, .inr (4, [.int 0, .ref (E.2.2 0), .int 0])), (h4, .inl (E.2.1 3, 40, .inl (fun _ => 0))), (h0, .inr (12, [.int 1, .ref h1, .ref h2, .ref h3, .ref h4, .ref h5, .int 1, .int 3, .int 50, .int (-1), .int (-1), .int (-1), .int (-1), .int 0, .int 100, .int 1000, .long 0]))] H locs := hw
    exact rc_iret (v := 0) hx hb hr hlocks hw [(h0, .inr (12, [.int 1, .ref h1, .ref h2, .ref h3, .ref h4, .ref h5, .int 1, .int 3, .int 50, .int (-1), .int (-1), .int (-1), .int (-1), .int 0, .int 100, .int 1000, .long 0])), (h2, .inr (4, [.int 0, .ref (E.2.2 0), .int 0])), (h3, .inr (4, [.int 0, .ref (E.2.2 0), .int 0])), (h4, .inl (E.2.1 3, 40, .inl (fun _ => 0)))] (Or.inl ⟨c_3, rfl, rfl⟩) [3, 0, 1, 2] rfl (by decide) (Nat.le_of_ble_eq_true rfl) (Nat.le_of_ble_eq_true rfl) dX7_many_28
  · have hw : rc_W E A s [(h0, .inr (12, [.int 0, .ref h1, .ref h2, .ref h3, .ref h4, .ref h5, .int 1, .int 3, .int 50, .int (-1), .int (-1), .int (-1), .int (-1), .int 0, .int 100, .int 1000, .long 0])), (h2, .inr (4, [.int 0, .ref (E.2.2 0), .int 0])), (h3, .inr (4, [.int 0, .ref (E.2.2 0), .int 0])), (h4, .inl (E.2.1 3, 40, .inl (fun _ => 0)))] H locs := hw
    refine lv_if_eq (tgt := 23) hx hb dX7_many_12 (by decide) (fun _ => ?_) (fun c9 => absurd (by decide) c9)
    refine lv_aload_n hx hb dX7_many_23 rfl (lv_at hl 0 rfl) ?_
    refine lv_iconst (v := 1) hx hb dX7_many_24 (by decide) ?_
    refine rc_calli (wr := [(h2, .inr (4, [.int 0, .ref (E.2.2 0), .int 0])), (h3, .inr (4, [.int 0, .ref (E.2.2 0), .int 0])), (h4, .inl (E.2.1 3, 40, .inl (fun _ => 0)))]) (va_runV (As := [.int 1]) (rest := []) (Ts := []) ⟨hx, hb, hml, hown, fun _ h9 => absurd h9 List.not_mem_nil⟩ (cw_X7_refuse l E _ h0 h1 h2 h3 h4 h5) (rc_cwV hAm qw_924 qw_13 qw_927 qw_926 qs_50 rfl rfl hd_X7_refuse ⟨Nat.le_of_ble_eq_true rfl, Nat.le_of_ble_eq_true rfl⟩) (rc_preV hAm hA hw [0] rfl rfl 0 rfl (q := vwCl[12]) rfl) rfl rfl hl.1 rfl (lv_room (Nat.le_of_ble_eq_true rfl)) dX7_many_25 ⟨Nat.le_of_ble_eq_true rfl, Nat.le_of_ble_eq_true rfl⟩) hA hw [0] [1, 2, 3] rfl rfl rfl (by decide) (fun r_10 u_11 H locs hp hw => ?_)
    obtain ⟨rfl, rfl⟩ := hp
    have hw : rc_W E A s [(h2, .inr (4, [.int 0, .ref (E.2.2 0), .int 0])), (h3, .inr (4, [.int 0, .ref (E.2.2 0), .int 0])), (h4, .inl (E.2.1 3, 40, .inl (fun _ => 0))), (h0, .inr (12, [.int 1, .ref h1, .ref h2, .ref h3, .ref h4, .ref h5, .int 1, .int 3, .int 50, .int (-1), .int (-1), .int (-1), .int (-1), .int 0, .int 100, .int 1000, .long 0]))] H locs := hw
    exact rc_iret (v := 0) hx hb hr hlocks hw [(h0, .inr (12, [.int 1, .ref h1, .ref h2, .ref h3, .ref h4, .ref h5, .int 1, .int 3, .int 50, .int (-1), .int (-1), .int (-1), .int (-1), .int 0, .int 100, .int 1000, .long 0])), (h2, .inr (4, [.int 0, .ref (E.2.2 0), .int 0])), (h3, .inr (4, [.int 0, .ref (E.2.2 0), .int 0])), (h4, .inl (E.2.1 3, 40, .inl (fun _ => 0)))] (Or.inr (Or.inl ⟨c_4, c_5, rfl, rfl⟩)) [3, 0, 1, 2] rfl (by decide) (Nat.le_of_ble_eq_true rfl) (Nat.le_of_ble_eq_true rfl) dX7_many_28
  · have hw : rc_W E A s [(h0, .inr (12, [.int 0, .ref h1, .ref h2, .ref h3, .ref h4, .ref h5, .int 1, .int 3, .int 50, .int (-1), .int (-1), .int (-1), .int (-1), .int 0, .int 100, .int 1000, .long 0])), (h2, .inr (4, [.int 0, .ref (E.2.2 0), .int 0])), (h3, .inr (4, [.int 0, .ref (E.2.2 0), .int 0])), (h4, .inl (E.2.1 3, 40, .inl (fun _ => 0)))] H locs := hw
    refine lv_if_eq (tgt := 23) hx hb dX7_many_12 (by decide) (fun c9 => absurd c9 (by decide)) (fun _ => ?_)
    refine lv_aload_n hx hb dX7_many_15 rfl (lv_at hl 0 rfl) ?_
    refine lv_iload_n hx hb dX7_many_16 rfl (lv_at hl 1 rfl) ?_
    refine rc_calli (wr := []) (va_runV (As := [.int x0]) (rest := []) (Ts := []) ⟨hx, hb, hml, hown, fun _ h9 => absurd h9 List.not_mem_nil⟩ (cw_X7_manyNow l E _ h0 x0 h1 h2 h3 h4 h5) (rc_cwV hAm qw_1433 qw_13 qw_1436 qw_1435 qs_69 rfl rfl hd_X7_manyNow ⟨Nat.le_of_ble_eq_true rfl, Nat.le_of_ble_eq_true rfl⟩) (rc_preV hAm hA hw [0, 1, 2, 3] rfl rfl 0 rfl (q := vwCl[12]) rfl) rfl rfl hl.1 rfl (lv_room (Nat.le_of_ble_eq_true rfl)) dX7_many_17 ⟨Nat.le_of_ble_eq_true rfl, Nat.le_of_ble_eq_true rfl⟩) hA hw [0, 1, 2, 3] [] rfl rfl rfl (by decide) (fun r_12 u_13 H locs hp hw => ?_)
    rcases hp with ⟨c_14, rfl, rfl⟩ | ⟨c_15, c_16, rfl, rfl⟩ | ⟨c_17, c_18, c_19, rfl, rfl⟩ | ⟨c_20, c_21, c_22, c_23, rfl, rfl⟩ | ⟨c_24, c_25, c_26, c_27, c_28, rfl, rfl⟩ | ⟨c_29, c_30, c_31, c_32, c_33, c_34, rfl, rfl⟩ | ⟨c_35, c_36, c_37, c_38, c_39, c_40, c_41, rfl, rfl⟩ | ⟨c_42, c_43, c_44, c_45, c_46, c_47, c_48, c_49, rfl, rfl⟩ | ⟨c_50, c_51, c_52, c_53, c_54, c_55, c_56, c_57, rfl, rfl⟩
    · obtain rfl : x0 = 0 := rc_eqc (b := 0) rfl (by have g_c_6 := rc_n1 (b := 0) c_6 rfl; have g_c_7 := rc_n2 (b := 8) c_7 rfl; have g_c_14 := rc_g5 (b := 0) c_14 rfl; omega)
      have hw : rc_W E A s [(h0, .inr (12, [.int 0, .ref h1, .ref h2, .ref h3, .ref h4, .ref h5, .int 1, .int 3, .int 50, .int (-1), .int (-1), .int (-1), .int (-1), .int 0, .int 100, .int 1000, .long 0])), (h2, .inr (4, [.int 0, .ref (E.2.2 0), .int 0])), (h3, .inr (4, [.int 0, .ref (E.2.2 0), .int 0])), (h4, .inl (E.2.1 3, 40, .inl (fun _ => 0)))] H locs := hw
      refine lv_goto (tgt := 28) hx hb dX7_many_20 (by decide) ?_
      exact rc_iret (v := 0) hx hb hr hlocks hw [(h0, .inr (12, [.int 0, .ref h1, .ref h2, .ref h3, .ref h4, .ref h5, .int 1, .int 3, .int 50, .int (-1), .int (-1), .int (-1), .int (-1), .int 0, .int 100, .int 1000, .long 0])), (h2, .inr (4, [.int 0, .ref (E.2.2 0), .int 0])), (h3, .inr (4, [.int 0, .ref (E.2.2 0), .int 0])), (h4, .inl (E.2.1 3, 40, .inl (fun _ => 0)))] (Or.inr (Or.inr (Or.inl ⟨rfl, rfl, rfl⟩))) [0, 1, 2, 3] rfl (by decide) (Nat.le_of_ble_eq_true rfl) (Nat.le_of_ble_eq_true rfl) dX7_many_28
    · obtain rfl : x0 = 1 := rc_eqc (b := 1) rfl (by have g_c_6 := rc_n1 (b := 0) c_6 rfl; have g_c_7 := rc_n2 (b := 8) c_7 rfl; have g_c_15 := rc_n5 (b := 0) c_15 rfl; have g_c_16 := rc_g5 (b := 1) c_16 rfl; omega)
      have hw : rc_W E A s [(h0, .inr (12, [.int 0, .ref h1, .ref h2, .ref h3, .ref h4, .ref h5, .int 1, .int 3, .int 50, .int (-1), .int (-1), .int (-1), .int (-1), .int 0, .int 100, .int 1000, .long 0])), (h2, .inr (4, [.int 0, .ref (E.2.2 0), .int 0])), (h3, .inr (4, [.int 0, .ref (E.2.2 0), .int 0])), (h4, .inl (E.2.1 3, 40, .inl (fun _ => 0)))] H locs := hw
      refine lv_goto (tgt := 28) hx hb dX7_many_20 (by decide) ?_
      exact rc_iret (v := 1) hx hb hr hlocks hw [(h0, .inr (12, [.int 0, .ref h1, .ref h2, .ref h3, .ref h4, .ref h5, .int 1, .int 3, .int 50, .int (-1), .int (-1), .int (-1), .int (-1), .int 0, .int 100, .int 1000, .long 0])), (h2, .inr (4, [.int 0, .ref (E.2.2 0), .int 0])), (h3, .inr (4, [.int 0, .ref (E.2.2 0), .int 0])), (h4, .inl (E.2.1 3, 40, .inl (fun _ => 0)))] (Or.inr (Or.inr (Or.inr (Or.inl ⟨rfl, rfl, rfl⟩)))) [0, 1, 2, 3] rfl (by decide) (Nat.le_of_ble_eq_true rfl) (Nat.le_of_ble_eq_true rfl) dX7_many_28
    · obtain rfl : x0 = 2 := rc_eqc (b := 2) rfl (by have g_c_6 := rc_n1 (b := 0) c_6 rfl; have g_c_7 := rc_n2 (b := 8) c_7 rfl; have g_c_17 := rc_n5 (b := 0) c_17 rfl; have g_c_18 := rc_n5 (b := 1) c_18 rfl; have g_c_19 := rc_g5 (b := 2) c_19 rfl; omega)
      have hw : rc_W E A s [(h0, .inr (12, [.int 0, .ref h1, .ref h2, .ref h3, .ref h4, .ref h5, .int 1, .int 3, .int 50, .int (-1), .int (-1), .int (-1), .int (-1), .int 0, .int 100, .int 1000, .long 0])), (h2, .inr (4, [.int 0, .ref (E.2.2 0), .int 0])), (h3, .inr (4, [.int 0, .ref (E.2.2 0), .int 0])), (h4, .inl (E.2.1 3, 40, .inl (fun _ => 0)))] H locs := hw
      refine lv_goto (tgt := 28) hx hb dX7_many_20 (by decide) ?_
      exact rc_iret (v := 0) hx hb hr hlocks hw [(h0, .inr (12, [.int 0, .ref h1, .ref h2, .ref h3, .ref h4, .ref h5, .int 1, .int 3, .int 50, .int (-1), .int (-1), .int (-1), .int (-1), .int 0, .int 100, .int 1000, .long 0])), (h2, .inr (4, [.int 0, .ref (E.2.2 0), .int 0])), (h3, .inr (4, [.int 0, .ref (E.2.2 0), .int 0])), (h4, .inl (E.2.1 3, 40, .inl (fun _ => 0)))] (Or.inr (Or.inr (Or.inr (Or.inr (Or.inl ⟨rfl, rfl, rfl⟩))))) [0, 1, 2, 3] rfl (by decide) (Nat.le_of_ble_eq_true rfl) (Nat.le_of_ble_eq_true rfl) dX7_many_28
    · obtain rfl : x0 = 3 := rc_eqc (b := 3) rfl (by have g_c_6 := rc_n1 (b := 0) c_6 rfl; have g_c_7 := rc_n2 (b := 8) c_7 rfl; have g_c_20 := rc_n5 (b := 0) c_20 rfl; have g_c_21 := rc_n5 (b := 1) c_21 rfl; have g_c_22 := rc_n5 (b := 2) c_22 rfl; have g_c_23 := rc_g5 (b := 3) c_23 rfl; omega)
      have hw : rc_W E A s [(h0, .inr (12, [.int 0, .ref h1, .ref h2, .ref h3, .ref h4, .ref h5, .int 1, .int 3, .int 50, .int (-1), .int (-1), .int (-1), .int (-1), .int 0, .int 100, .int 1000, .long 0])), (h2, .inr (4, [.int 0, .ref (E.2.2 0), .int 0])), (h3, .inr (4, [.int 0, .ref (E.2.2 0), .int 0])), (h4, .inl (E.2.1 3, 40, .inl (fun _ => 0)))] H locs := hw
      refine lv_goto (tgt := 28) hx hb dX7_many_20 (by decide) ?_
      exact rc_iret (v := 0) hx hb hr hlocks hw [(h0, .inr (12, [.int 0, .ref h1, .ref h2, .ref h3, .ref h4, .ref h5, .int 1, .int 3, .int 50, .int (-1), .int (-1), .int (-1), .int (-1), .int 0, .int 100, .int 1000, .long 0])), (h2, .inr (4, [.int 0, .ref (E.2.2 0), .int 0])), (h3, .inr (4, [.int 0, .ref (E.2.2 0), .int 0])), (h4, .inl (E.2.1 3, 40, .inl (fun _ => 0)))] (Or.inr (Or.inr (Or.inr (Or.inr (Or.inr (Or.inl ⟨rfl, rfl, rfl⟩)))))) [0, 1, 2, 3] rfl (by decide) (Nat.le_of_ble_eq_true rfl) (Nat.le_of_ble_eq_true rfl) dX7_many_28
    · obtain rfl : x0 = 4 := rc_eqc (b := 4) rfl (by have g_c_6 := rc_n1 (b := 0) c_6 rfl; have g_c_7 := rc_n2 (b := 8) c_7 rfl; have g_c_24 := rc_n5 (b := 0) c_24 rfl; have g_c_25 := rc_n5 (b := 1) c_25 rfl; have g_c_26 := rc_n5 (b := 2) c_26 rfl; have g_c_27 := rc_n5 (b := 3) c_27 rfl; have g_c_28 := rc_g5 (b := 4) c_28 rfl; omega)
      have hw : rc_W E A s [(h0, .inr (12, [.int 0, .ref h1, .ref h2, .ref h3, .ref h4, .ref h5, .int 1, .int 3, .int 50, .int (-1), .int (-1), .int (-1), .int (-1), .int 0, .int 100, .int 1000, .long 0])), (h2, .inr (4, [.int 0, .ref (E.2.2 0), .int 0])), (h3, .inr (4, [.int 0, .ref (E.2.2 0), .int 0])), (h4, .inl (E.2.1 3, 40, .inl (fun _ => 0)))] H locs := hw
      refine lv_goto (tgt := 28) hx hb dX7_many_20 (by decide) ?_
      exact rc_iret (v := 1000) hx hb hr hlocks hw [(h0, .inr (12, [.int 0, .ref h1, .ref h2, .ref h3, .ref h4, .ref h5, .int 1, .int 3, .int 50, .int (-1), .int (-1), .int (-1), .int (-1), .int 0, .int 100, .int 1000, .long 0])), (h2, .inr (4, [.int 0, .ref (E.2.2 0), .int 0])), (h3, .inr (4, [.int 0, .ref (E.2.2 0), .int 0])), (h4, .inl (E.2.1 3, 40, .inl (fun _ => 0)))] (Or.inr (Or.inr (Or.inr (Or.inr (Or.inr (Or.inr (Or.inl ⟨rfl, rfl, rfl⟩))))))) [0, 1, 2, 3] rfl (by decide) (Nat.le_of_ble_eq_true rfl) (Nat.le_of_ble_eq_true rfl) dX7_many_28
    · obtain rfl : x0 = 5 := rc_eqc (b := 5) rfl (by have g_c_6 := rc_n1 (b := 0) c_6 rfl; have g_c_7 := rc_n2 (b := 8) c_7 rfl; have g_c_29 := rc_n5 (b := 0) c_29 rfl; have g_c_30 := rc_n5 (b := 1) c_30 rfl; have g_c_31 := rc_n5 (b := 2) c_31 rfl; have g_c_32 := rc_n5 (b := 3) c_32 rfl; have g_c_33 := rc_n5 (b := 4) c_33 rfl; have g_c_34 := rc_g5 (b := 5) c_34 rfl; omega)
      have hw : rc_W E A s [(h0, .inr (12, [.int 0, .ref h1, .ref h2, .ref h3, .ref h4, .ref h5, .int 1, .int 3, .int 50, .int (-1), .int (-1), .int (-1), .int (-1), .int 0, .int 100, .int 1000, .long 0])), (h2, .inr (4, [.int 0, .ref (E.2.2 0), .int 0])), (h3, .inr (4, [.int 0, .ref (E.2.2 0), .int 0])), (h4, .inl (E.2.1 3, 40, .inl (fun _ => 0)))] H locs := hw
      refine lv_goto (tgt := 28) hx hb dX7_many_20 (by decide) ?_
      exact rc_iret (v := 100) hx hb hr hlocks hw [(h0, .inr (12, [.int 0, .ref h1, .ref h2, .ref h3, .ref h4, .ref h5, .int 1, .int 3, .int 50, .int (-1), .int (-1), .int (-1), .int (-1), .int 0, .int 100, .int 1000, .long 0])), (h2, .inr (4, [.int 0, .ref (E.2.2 0), .int 0])), (h3, .inr (4, [.int 0, .ref (E.2.2 0), .int 0])), (h4, .inl (E.2.1 3, 40, .inl (fun _ => 0)))] (Or.inr (Or.inr (Or.inr (Or.inr (Or.inr (Or.inr (Or.inr (Or.inl ⟨rfl, rfl, rfl⟩)))))))) [0, 1, 2, 3] rfl (by decide) (Nat.le_of_ble_eq_true rfl) (Nat.le_of_ble_eq_true rfl) dX7_many_28
    · obtain rfl : x0 = 6 := rc_eqc (b := 6) rfl (by have g_c_6 := rc_n1 (b := 0) c_6 rfl; have g_c_7 := rc_n2 (b := 8) c_7 rfl; have g_c_35 := rc_n5 (b := 0) c_35 rfl; have g_c_36 := rc_n5 (b := 1) c_36 rfl; have g_c_37 := rc_n5 (b := 2) c_37 rfl; have g_c_38 := rc_n5 (b := 3) c_38 rfl; have g_c_39 := rc_n5 (b := 4) c_39 rfl; have g_c_40 := rc_n5 (b := 5) c_40 rfl; have g_c_41 := rc_g5 (b := 6) c_41 rfl; omega)
      have hw : rc_W E A s [(h0, .inr (12, [.int 0, .ref h1, .ref h2, .ref h3, .ref h4, .ref h5, .int 1, .int 3, .int 50, .int (-1), .int (-1), .int (-1), .int (-1), .int 0, .int 100, .int 1000, .long 0])), (h2, .inr (4, [.int 0, .ref (E.2.2 0), .int 0])), (h3, .inr (4, [.int 0, .ref (E.2.2 0), .int 0])), (h4, .inl (E.2.1 3, 40, .inl (fun _ => 0)))] H locs := hw
      refine lv_goto (tgt := 28) hx hb dX7_many_20 (by decide) ?_
      exact rc_iret (v := 0) hx hb hr hlocks hw [(h0, .inr (12, [.int 0, .ref h1, .ref h2, .ref h3, .ref h4, .ref h5, .int 1, .int 3, .int 50, .int (-1), .int (-1), .int (-1), .int (-1), .int 0, .int 100, .int 1000, .long 0])), (h2, .inr (4, [.int 0, .ref (E.2.2 0), .int 0])), (h3, .inr (4, [.int 0, .ref (E.2.2 0), .int 0])), (h4, .inl (E.2.1 3, 40, .inl (fun _ => 0)))] (Or.inr (Or.inr (Or.inr (Or.inr (Or.inr (Or.inr (Or.inr (Or.inr (Or.inl ⟨rfl, rfl, rfl⟩))))))))) [0, 1, 2, 3] rfl (by decide) (Nat.le_of_ble_eq_true rfl) (Nat.le_of_ble_eq_true rfl) dX7_many_28
    · obtain rfl : x0 = 7 := rc_eqc (b := 7) rfl (by have g_c_6 := rc_n1 (b := 0) c_6 rfl; have g_c_7 := rc_n2 (b := 8) c_7 rfl; have g_c_42 := rc_n5 (b := 0) c_42 rfl; have g_c_43 := rc_n5 (b := 1) c_43 rfl; have g_c_44 := rc_n5 (b := 2) c_44 rfl; have g_c_45 := rc_n5 (b := 3) c_45 rfl; have g_c_46 := rc_n5 (b := 4) c_46 rfl; have g_c_47 := rc_n5 (b := 5) c_47 rfl; have g_c_48 := rc_n5 (b := 6) c_48 rfl; have g_c_49 := rc_g5 (b := 7) c_49 rfl; omega)
      have hw : rc_W E A s [(h0, .inr (12, [.int 0, .ref h1, .ref h2, .ref h3, .ref h4, .ref h5, .int 1, .int 3, .int 50, .int (-1), .int (-1), .int (-1), .int (-1), .int 0, .int 100, .int 1000, .long 0])), (h2, .inr (4, [.int 0, .ref (E.2.2 0), .int 0])), (h3, .inr (4, [.int 0, .ref (E.2.2 0), .int 0])), (h4, .inl (E.2.1 3, 40, .inl (fun _ => 0)))] H locs := hw
      refine lv_goto (tgt := 28) hx hb dX7_many_20 (by decide) ?_
      exact rc_iret (v := 0) hx hb hr hlocks hw [(h0, .inr (12, [.int 0, .ref h1, .ref h2, .ref h3, .ref h4, .ref h5, .int 1, .int 3, .int 50, .int (-1), .int (-1), .int (-1), .int (-1), .int 0, .int 100, .int 1000, .long 0])), (h2, .inr (4, [.int 0, .ref (E.2.2 0), .int 0])), (h3, .inr (4, [.int 0, .ref (E.2.2 0), .int 0])), (h4, .inl (E.2.1 3, 40, .inl (fun _ => 0)))] (Or.inr (Or.inr (Or.inr (Or.inr (Or.inr (Or.inr (Or.inr (Or.inr (Or.inr (Or.inl ⟨rfl, rfl, rfl⟩)))))))))) [0, 1, 2, 3] rfl (by decide) (Nat.le_of_ble_eq_true rfl) (Nat.le_of_ble_eq_true rfl) dX7_many_28
    · obtain rfl : x0 = 8 := rc_eqc (b := 8) rfl (by have g_c_6 := rc_n1 (b := 0) c_6 rfl; have g_c_7 := rc_n2 (b := 8) c_7 rfl; have g_c_50 := rc_n5 (b := 0) c_50 rfl; have g_c_51 := rc_n5 (b := 1) c_51 rfl; have g_c_52 := rc_n5 (b := 2) c_52 rfl; have g_c_53 := rc_n5 (b := 3) c_53 rfl; have g_c_54 := rc_n5 (b := 4) c_54 rfl; have g_c_55 := rc_n5 (b := 5) c_55 rfl; have g_c_56 := rc_n5 (b := 6) c_56 rfl; have g_c_57 := rc_n5 (b := 7) c_57 rfl; omega)
      have hw : rc_W E A s [(h0, .inr (12, [.int 0, .ref h1, .ref h2, .ref h3, .ref h4, .ref h5, .int 1, .int 3, .int 50, .int (-1), .int (-1), .int (-1), .int (-1), .int 0, .int 100, .int 1000, .long 0])), (h2, .inr (4, [.int 0, .ref (E.2.2 0), .int 0])), (h3, .inr (4, [.int 0, .ref (E.2.2 0), .int 0])), (h4, .inl (E.2.1 3, 40, .inl (fun _ => 0)))] H locs := hw
      refine lv_goto (tgt := 28) hx hb dX7_many_20 (by decide) ?_
      exact rc_iret (v := 0) hx hb hr hlocks hw [(h0, .inr (12, [.int 0, .ref h1, .ref h2, .ref h3, .ref h4, .ref h5, .int 1, .int 3, .int 50, .int (-1), .int (-1), .int (-1), .int (-1), .int 0, .int 100, .int 1000, .long 0])), (h2, .inr (4, [.int 0, .ref (E.2.2 0), .int 0])), (h3, .inr (4, [.int 0, .ref (E.2.2 0), .int 0])), (h4, .inl (E.2.1 3, 40, .inl (fun _ => 0)))] (Or.inr (Or.inr (Or.inr (Or.inr (Or.inr (Or.inr (Or.inr (Or.inr (Or.inr (Or.inr ⟨rfl, rfl, rfl⟩)))))))))) [0, 1, 2, 3] rfl (by decide) (Nat.le_of_ble_eq_true rfl) (Nat.le_of_ble_eq_true rfl) dX7_many_28
set_option maxHeartbeats 4000000 in
set_option maxRecDepth 100000 in
theorem cw_X7_minutesForNow (l : Launch) (E : rc_E) (sz : Nat) (h0 : Nat) (h1 : Nat) (h2 : Nat) (h3 : Nat) (h4 : Nat) (h5 : Nat) : rc_Mi l yX7_minutesForNow [Cond.code yX7_minutesForNow cX7_minutesForNow 5 (some FieldType.int)] { frames := 5, cells := 2, slots := 6, locals := 132 } E [.ref h0, .int 0] [(h0, .inr (12, [.int 0, .ref h1, .ref h2, .ref h3, .ref h4, .ref h5, .int 1, .int 3, .int 50, .int (-1), .int (-1), .int (-1), .int (-1), .int 0, .int 100, .int 1000, .long 0])), (h2, .inr (4, [.int 0, .ref (E.2.2 0), .int 0])), (h3, .inr (4, [.int 0, .ref (E.2.2 0), .int 0]))] sz (S := va_W) (fun (r : Int32) (u : va_W) => ((-1) = r ∧ u = [(h0, .inr (12, [.int 0, .ref h1, .ref h2, .ref h3, .ref h4, .ref h5, .int 1, .int 3, .int 50, .int (-1), .int (-1), .int (-1), .int (-1), .int 0, .int 100, .int 1000, .long 0])), (h2, .inr (4, [.int 0, .ref (E.2.2 0), .int 0])), (h3, .inr (4, [.int 0, .ref (E.2.2 0), .int 0]))])) (fun u => u) 2 6 := by
  refine rc_ini (cc := cX7_minutesForNow) (maxL := 5) (ret := (some FieldType.int)) (by decide) rfl (Nat.le_of_ble_eq_true rfl) ?_
  intro p e s m args below meth c ls A hx hb hr hml _ hown hlocks hin hA hAm hw hl
  have hown : s.vm.findClass RX7 = some m.cls := hown
  have hl : lv_has ls 5 [(0, .ref h0), (1, .int 0)] := hl
  refine lv_bipush (v := 6) hx hb dX7_minutesForNow_0 (by decide) ?_
  refine lv_aload_n hx hb dX7_minutesForNow_2 rfl (lv_at hl 0 rfl) ?_
  refine lv_iload_n hx hb dX7_minutesForNow_3 rfl (lv_at hl 1 rfl) ?_
  refine rc_callr (wr := [(h2, .inr (4, [.int 0, .ref (E.2.2 0), .int 0]))]) (va_runV (As := [.int 0]) (rest := [.int 6]) (Ts := []) ⟨hx, hb, hml, hown, fun _ h9 => absurd h9 List.not_mem_nil⟩ (cw_X7_sample_ l E _ h0 h1 h2 h3 h4 h5) (rc_cwV hAm qw_967 qw_13 qw_970 qw_969 qs_54 rfl rfl hd_X7_sample_ ⟨Nat.le_of_ble_eq_true rfl, Nat.le_of_ble_eq_true rfl⟩) (rc_preV hAm hA hw [0, 2] rfl rfl 0 rfl (q := vwCl[12]) rfl) rfl rfl hl.1 rfl (lv_room (Nat.le_of_ble_eq_true rfl)) dX7_minutesForNow_4 ⟨Nat.le_of_ble_eq_true rfl, Nat.le_of_ble_eq_true rfl⟩) hA hw [0, 2] [1] rfl rfl rfl (by decide) (fun u_2 r_1 H locs hp hw => ?_)
  obtain ⟨q1, rfl, rfl⟩ := hp
  have hw : rc_W E A s [(h2, .inr (4, [.int 0, .ref (E.2.2 0), .int 0])), (h0, .inr (12, [.int 0, .ref h1, .ref h2, .ref h3, .ref h4, .ref h5, .int 1, .int 3, .int 50, .int (-1), .int (-1), .int (-1), .int (-1), .int 0, .int 100, .int 1000, .long 0])), (h3, .inr (4, [.int 0, .ref (E.2.2 0), .int 0])), (q1, .inl (E.2.1 0, 0, .inl (va_cpy (fun _ => 0) (fun _ => 0) 6 0 0)))] H locs := hw
  refine rc_alen hx hb hAm hw 3 0 rfl rfl 0 rfl dX7_minutesForNow_7 ?_
  refine lv_isub hx hb dX7_minutesForNow_8 ?_
  refine rc_topi 6 (by decide) ?_
  refine lv_istore_n (lv' := [(2, .int 6), (0, .ref h0), (1, .int 0)]) hx hb dX7_minutesForNow_9 rfl hl (by decide) rfl (fun ls hl => ?_)
  refine lv_iconst (v := (-1)) hx hb dX7_minutesForNow_10 (by decide) ?_
  refine lv_istore_n (lv' := [(3, .int (-1)), (2, .int 6), (0, .ref h0), (1, .int 0)]) hx hb dX7_minutesForNow_11 rfl hl (by decide) rfl (fun ls hl => ?_)
  refine lv_iconst (v := 0) hx hb dX7_minutesForNow_12 (by decide) ?_
  refine lv_istore (lv' := [(4, .int 0), (3, .int (-1)), (2, .int 6), (0, .ref h0), (1, .int 0)]) hx hb dX7_minutesForNow_13 hl (by decide) rfl (fun ls hl => ?_)
  refine lv_iload hx hb dX7_minutesForNow_15 (lv_at hl 0 rfl) ?_
  refine lv_aload_n hx hb dX7_minutesForNow_17 rfl (lv_at hl 3 rfl) ?_
  refine rc_get (v := .ref h2) hx hb hown hAm hw lyX7 1 rfl rfl 2 (by decide) qw_862 (fun _ h9 => h9) rfl dX7_minutesForNow_18 ?_
  refine rc_calli (wr := [(h0, .inr (12, [.int 0, .ref h1, .ref h2, .ref h3, .ref h4, .ref h5, .int 1, .int 3, .int 50, .int (-1), .int (-1), .int (-1), .int (-1), .int 0, .int 100, .int 1000, .long 0])), (h3, .inr (4, [.int 0, .ref (E.2.2 0), .int 0])), (q1, .inl (E.2.1 0, 0, .inl (va_cpy (fun _ => 0) (fun _ => 0) 6 0 0)))]) (va_runV (As := []) (rest := [.int 0]) (Ts := []) ⟨hx, hb, hml, hown, fun _ h9 => absurd h9 List.not_mem_nil⟩ (cw_Jx4a65c_size_8abf5 l E _ h2) (rc_cwV hAm qw_928 qw_4 qw_289 qw_287 qw_288 rfl rfl hd_Jx4a65c_size_8abf5 ⟨Nat.le_of_ble_eq_true rfl, Nat.le_of_ble_eq_true rfl⟩) (rc_preV hAm hA hw [0] rfl rfl 0 rfl (q := vwCl[4]) rfl) rfl rfl hl.1 rfl (lv_room (Nat.le_of_ble_eq_true rfl)) dX7_minutesForNow_21 ⟨Nat.le_of_ble_eq_true rfl, Nat.le_of_ble_eq_true rfl⟩) hA hw [0] [1, 2, 3] rfl rfl rfl (by decide) (fun r_3 u_4 H locs hp hw => ?_)
  obtain ⟨rfl, rfl⟩ := hp
  have hw : rc_W E A s [(h0, .inr (12, [.int 0, .ref h1, .ref h2, .ref h3, .ref h4, .ref h5, .int 1, .int 3, .int 50, .int (-1), .int (-1), .int (-1), .int (-1), .int 0, .int 100, .int 1000, .long 0])), (h3, .inr (4, [.int 0, .ref (E.2.2 0), .int 0])), (q1, .inl (E.2.1 0, 0, .inl (va_cpy (fun _ => 0) (fun _ => 0) 6 0 0))), (h2, .inr (4, [.int 0, .ref (E.2.2 0), .int 0]))] H locs := hw
  refine lv_icmp_ge (tgt := 82) hx hb dX7_minutesForNow_24 (by decide) (fun _ => ?_) (fun c9 => absurd (by decide) c9)
  refine lv_iload_n hx hb dX7_minutesForNow_82 rfl (lv_at hl 2 rfl) ?_
  refine lv_if_ne (tgt := 90) hx hb dX7_minutesForNow_83 (by decide) (fun _ => ?_) (fun c9 => absurd c9 (by decide))
  refine lv_iload_n hx hb dX7_minutesForNow_90 rfl (lv_at hl 1 rfl) ?_
  refine lv_iconst (v := (-1)) hx hb dX7_minutesForNow_91 (by decide) ?_
  refine lv_icmp_ne (tgt := 99) hx hb dX7_minutesForNow_92 (by decide) (fun c9 => absurd (by decide) c9) (fun _ => ?_)
  refine lv_iconst (v := (-1)) hx hb dX7_minutesForNow_95 (by decide) ?_
  refine lv_goto (tgt := 102) hx hb dX7_minutesForNow_96 (by decide) ?_
  exact rc_iret (v := (-1)) hx hb hr hlocks hw [(h0, .inr (12, [.int 0, .ref h1, .ref h2, .ref h3, .ref h4, .ref h5, .int 1, .int 3, .int 50, .int (-1), .int (-1), .int (-1), .int (-1), .int 0, .int 100, .int 1000, .long 0])), (h2, .inr (4, [.int 0, .ref (E.2.2 0), .int 0])), (h3, .inr (4, [.int 0, .ref (E.2.2 0), .int 0]))] (⟨rfl, rfl⟩) [0, 3, 1] rfl (by decide) (Nat.le_of_ble_eq_true rfl) (Nat.le_of_ble_eq_true rfl) dX7_minutesForNow_102
theorem hd_X7_minutesForNow : yX7_minutesForNow.cls ≠ "java/lang/invoke/MethodHandle" ∧ yX7_minutesForNow.cls ≠ "java/lang/invoke/VarHandle" ∧ (parseMethodDescriptor yX7_minutesForNow.desc).map (fun d => d.parameters.length) = some 1 := by decide +kernel
set_option maxHeartbeats 4000000 in
set_option maxRecDepth 100000 in
theorem cw_X7_minutesFor (l : Launch) (E : rc_E) (sz : Nat) (h0 : Nat) (x0 : Int32) (h1 : Nat) (h2 : Nat) (h3 : Nat) (h4 : Nat) (h5 : Nat) : rc_Mi l yX7_minutesFor [Cond.code yX7_minutesFor cX7_minutesFor 2 (some FieldType.int)] { frames := 6, cells := 2, slots := 6, locals := 156 } E [.ref h0, .int x0] [(h0, .inr (12, [.int 0, .ref h1, .ref h2, .ref h3, .ref h4, .ref h5, .int 1, .int 3, .int 50, .int (-1), .int (-1), .int (-1), .int (-1), .int 0, .int 100, .int 1000, .long 0])), (h2, .inr (4, [.int 0, .ref (E.2.2 0), .int 0])), (h3, .inr (4, [.int 0, .ref (E.2.2 0), .int 0]))] sz (S := va_W) (fun (r : Int32) (u : va_W) => (x0 < 0 ∧ 0 = r ∧ u = [(h0, .inr (12, [.int 1, .ref h1, .ref h2, .ref h3, .ref h4, .ref h5, .int 1, .int 3, .int 50, .int (-1), .int (-1), .int (-1), .int (-1), .int 0, .int 100, .int 1000, .long 0])), (h2, .inr (4, [.int 0, .ref (E.2.2 0), .int 0])), (h3, .inr (4, [.int 0, .ref (E.2.2 0), .int 0]))]) ∨ (¬ x0 < 0 ∧ 0 < x0 ∧ 0 = r ∧ u = [(h0, .inr (12, [.int 1, .ref h1, .ref h2, .ref h3, .ref h4, .ref h5, .int 1, .int 3, .int 50, .int (-1), .int (-1), .int (-1), .int (-1), .int 0, .int 100, .int 1000, .long 0])), (h2, .inr (4, [.int 0, .ref (E.2.2 0), .int 0])), (h3, .inr (4, [.int 0, .ref (E.2.2 0), .int 0]))]) ∨ (x0 = 0 ∧ (-1) = r ∧ u = [(h0, .inr (12, [.int 0, .ref h1, .ref h2, .ref h3, .ref h4, .ref h5, .int 1, .int 3, .int 50, .int (-1), .int (-1), .int (-1), .int (-1), .int 0, .int 100, .int 1000, .long 0])), (h2, .inr (4, [.int 0, .ref (E.2.2 0), .int 0])), (h3, .inr (4, [.int 0, .ref (E.2.2 0), .int 0]))])) (fun u => u) 2 6 := by
  refine rc_ini (cc := cX7_minutesFor) (maxL := 2) (ret := (some FieldType.int)) (by decide) rfl (Nat.le_of_ble_eq_true rfl) ?_
  intro p e s m args below meth c ls A hx hb hr hml _ hown hlocks hin hA hAm hw hl
  have hown : s.vm.findClass RX7 = some m.cls := hown
  have hl : lv_has ls 2 [(0, .ref h0), (1, .int x0)] := hl
  refine lv_aload_n hx hb dX7_minutesFor_0 rfl (lv_at hl 0 rfl) ?_
  refine lv_iconst (v := 0) hx hb dX7_minutesFor_1 (by decide) ?_
  refine rc_put hx hb hown hAm hw lyX7 tyX7 tyX7_ok nmX7 0 rfl rfl 0 (by decide) qw_860 (fun _ h9 => h9) rfl rfl (by decide +kernel) (Nat.le_of_ble_eq_true rfl) [(h0, .inr (12, [.int 0, .ref h1, .ref h2, .ref h3, .ref h4, .ref h5, .int 1, .int 3, .int 50, .int (-1), .int (-1), .int (-1), .int (-1), .int 0, .int 100, .int 1000, .long 0])), (h2, .inr (4, [.int 0, .ref (E.2.2 0), .int 0])), (h3, .inr (4, [.int 0, .ref (E.2.2 0), .int 0]))] rfl dX7_minutesFor_2 (fun H locs hw => ?_)
  refine lv_aload_n hx hb dX7_minutesFor_5 rfl (lv_at hl 0 rfl) ?_
  refine lv_iload_n hx hb dX7_minutesFor_6 rfl (lv_at hl 1 rfl) ?_
  refine rc_calli (wr := [(h2, .inr (4, [.int 0, .ref (E.2.2 0), .int 0])), (h3, .inr (4, [.int 0, .ref (E.2.2 0), .int 0]))]) (va_runV (As := [.int x0]) (rest := []) (Ts := []) ⟨hx, hb, hml, hown, fun _ h9 => absurd h9 List.not_mem_nil⟩ (cw_X7_isChange l E _ h0 x0 h1 h2 h3 h4 h5) (rc_cwV hAm qw_1353 qw_13 qw_1356 qw_1355 qs_62 rfl rfl hd_X7_isChange ⟨Nat.le_of_ble_eq_true rfl, Nat.le_of_ble_eq_true rfl⟩) (rc_preV hAm hA hw [0] rfl rfl 0 rfl (q := vwCl[12]) rfl) rfl rfl hl.1 rfl (lv_room (Nat.le_of_ble_eq_true rfl)) dX7_minutesFor_7 ⟨Nat.le_of_ble_eq_true rfl, Nat.le_of_ble_eq_true rfl⟩) hA hw [0] [1, 2] rfl rfl rfl (by decide) (fun r_1 u_2 H locs hp hw => ?_)
  rcases hp with ⟨c_3, rfl, rfl⟩ | ⟨c_4, c_5, rfl, rfl⟩ | ⟨c_6, rfl, rfl⟩
  · have hw : rc_W E A s [(h2, .inr (4, [.int 0, .ref (E.2.2 0), .int 0])), (h3, .inr (4, [.int 0, .ref (E.2.2 0), .int 0])), (h0, .inr (12, [.int 0, .ref h1, .ref h2, .ref h3, .ref h4, .ref h5, .int 1, .int 3, .int 50, .int (-1), .int (-1), .int (-1), .int (-1), .int 0, .int 100, .int 1000, .long 0]))] H locs := hw
    refine lv_if_eq (tgt := 21) hx hb dX7_minutesFor_10 (by decide) (fun _ => ?_) (fun c9 => absurd (by decide) c9)
    refine lv_aload_n hx hb dX7_minutesFor_21 rfl (lv_at hl 0 rfl) ?_
    refine lv_iconst (v := 1) hx hb dX7_minutesFor_22 (by decide) ?_
    refine rc_calli (wr := [(h2, .inr (4, [.int 0, .ref (E.2.2 0), .int 0])), (h3, .inr (4, [.int 0, .ref (E.2.2 0), .int 0]))]) (va_runV (As := [.int 1]) (rest := []) (Ts := []) ⟨hx, hb, hml, hown, fun _ h9 => absurd h9 List.not_mem_nil⟩ (cw_X7_refuse l E _ h0 h1 h2 h3 h4 h5) (rc_cwV hAm qw_924 qw_13 qw_927 qw_926 qs_50 rfl rfl hd_X7_refuse ⟨Nat.le_of_ble_eq_true rfl, Nat.le_of_ble_eq_true rfl⟩) (rc_preV hAm hA hw [2] rfl rfl 2 rfl (q := vwCl[12]) rfl) rfl rfl hl.1 rfl (lv_room (Nat.le_of_ble_eq_true rfl)) dX7_minutesFor_23 ⟨Nat.le_of_ble_eq_true rfl, Nat.le_of_ble_eq_true rfl⟩) hA hw [2] [0, 1] rfl rfl rfl (by decide) (fun r_7 u_8 H locs hp hw => ?_)
    obtain ⟨rfl, rfl⟩ := hp
    have hw : rc_W E A s [(h2, .inr (4, [.int 0, .ref (E.2.2 0), .int 0])), (h3, .inr (4, [.int 0, .ref (E.2.2 0), .int 0])), (h0, .inr (12, [.int 1, .ref h1, .ref h2, .ref h3, .ref h4, .ref h5, .int 1, .int 3, .int 50, .int (-1), .int (-1), .int (-1), .int (-1), .int 0, .int 100, .int 1000, .long 0]))] H locs := hw
    exact rc_iret (v := 0) hx hb hr hlocks hw [(h0, .inr (12, [.int 1, .ref h1, .ref h2, .ref h3, .ref h4, .ref h5, .int 1, .int 3, .int 50, .int (-1), .int (-1), .int (-1), .int (-1), .int 0, .int 100, .int 1000, .long 0])), (h2, .inr (4, [.int 0, .ref (E.2.2 0), .int 0])), (h3, .inr (4, [.int 0, .ref (E.2.2 0), .int 0]))] (Or.inl ⟨c_3, rfl, rfl⟩) [2, 0, 1] rfl (by decide) (Nat.le_of_ble_eq_true rfl) (Nat.le_of_ble_eq_true rfl) dX7_minutesFor_26
  · have hw : rc_W E A s [(h2, .inr (4, [.int 0, .ref (E.2.2 0), .int 0])), (h3, .inr (4, [.int 0, .ref (E.2.2 0), .int 0])), (h0, .inr (12, [.int 0, .ref h1, .ref h2, .ref h3, .ref h4, .ref h5, .int 1, .int 3, .int 50, .int (-1), .int (-1), .int (-1), .int (-1), .int 0, .int 100, .int 1000, .long 0]))] H locs := hw
    refine lv_if_eq (tgt := 21) hx hb dX7_minutesFor_10 (by decide) (fun _ => ?_) (fun c9 => absurd (by decide) c9)
    refine lv_aload_n hx hb dX7_minutesFor_21 rfl (lv_at hl 0 rfl) ?_
    refine lv_iconst (v := 1) hx hb dX7_minutesFor_22 (by decide) ?_
    refine rc_calli (wr := [(h2, .inr (4, [.int 0, .ref (E.2.2 0), .int 0])), (h3, .inr (4, [.int 0, .ref (E.2.2 0), .int 0]))]) (va_runV (As := [.int 1]) (rest := []) (Ts := []) ⟨hx, hb, hml, hown, fun _ h9 => absurd h9 List.not_mem_nil⟩ (cw_X7_refuse l E _ h0 h1 h2 h3 h4 h5) (rc_cwV hAm qw_924 qw_13 qw_927 qw_926 qs_50 rfl rfl hd_X7_refuse ⟨Nat.le_of_ble_eq_true rfl, Nat.le_of_ble_eq_true rfl⟩) (rc_preV hAm hA hw [2] rfl rfl 2 rfl (q := vwCl[12]) rfl) rfl rfl hl.1 rfl (lv_room (Nat.le_of_ble_eq_true rfl)) dX7_minutesFor_23 ⟨Nat.le_of_ble_eq_true rfl, Nat.le_of_ble_eq_true rfl⟩) hA hw [2] [0, 1] rfl rfl rfl (by decide) (fun r_9 u_10 H locs hp hw => ?_)
    obtain ⟨rfl, rfl⟩ := hp
    have hw : rc_W E A s [(h2, .inr (4, [.int 0, .ref (E.2.2 0), .int 0])), (h3, .inr (4, [.int 0, .ref (E.2.2 0), .int 0])), (h0, .inr (12, [.int 1, .ref h1, .ref h2, .ref h3, .ref h4, .ref h5, .int 1, .int 3, .int 50, .int (-1), .int (-1), .int (-1), .int (-1), .int 0, .int 100, .int 1000, .long 0]))] H locs := hw
    exact rc_iret (v := 0) hx hb hr hlocks hw [(h0, .inr (12, [.int 1, .ref h1, .ref h2, .ref h3, .ref h4, .ref h5, .int 1, .int 3, .int 50, .int (-1), .int (-1), .int (-1), .int (-1), .int 0, .int 100, .int 1000, .long 0])), (h2, .inr (4, [.int 0, .ref (E.2.2 0), .int 0])), (h3, .inr (4, [.int 0, .ref (E.2.2 0), .int 0]))] (Or.inr (Or.inl ⟨c_4, c_5, rfl, rfl⟩)) [2, 0, 1] rfl (by decide) (Nat.le_of_ble_eq_true rfl) (Nat.le_of_ble_eq_true rfl) dX7_minutesFor_26
  · obtain rfl : x0 = 0 := rc_eqc (b := 0) rfl (by have g_c_6 := rc_g5 (b := 0) c_6 rfl; omega)
    have hw : rc_W E A s [(h2, .inr (4, [.int 0, .ref (E.2.2 0), .int 0])), (h3, .inr (4, [.int 0, .ref (E.2.2 0), .int 0])), (h0, .inr (12, [.int 0, .ref h1, .ref h2, .ref h3, .ref h4, .ref h5, .int 1, .int 3, .int 50, .int (-1), .int (-1), .int (-1), .int (-1), .int 0, .int 100, .int 1000, .long 0]))] H locs := hw
    refine lv_if_eq (tgt := 21) hx hb dX7_minutesFor_10 (by decide) (fun c9 => absurd c9 (by decide)) (fun _ => ?_)
    refine lv_aload_n hx hb dX7_minutesFor_13 rfl (lv_at hl 0 rfl) ?_
    refine lv_iload_n hx hb dX7_minutesFor_14 rfl (lv_at hl 1 rfl) ?_
    refine rc_calli (wr := []) (va_runV (As := [.int 0]) (rest := []) (Ts := []) ⟨hx, hb, hml, hown, fun _ h9 => absurd h9 List.not_mem_nil⟩ (cw_X7_minutesForNow l E _ h0 h1 h2 h3 h4 h5) (rc_cwV hAm qw_1441 qw_13 qw_1444 qw_1443 qs_70 rfl rfl hd_X7_minutesForNow ⟨Nat.le_of_ble_eq_true rfl, Nat.le_of_ble_eq_true rfl⟩) (rc_preV hAm hA hw [2, 0, 1] rfl rfl 2 rfl (q := vwCl[12]) rfl) rfl rfl hl.1 rfl (lv_room (Nat.le_of_ble_eq_true rfl)) dX7_minutesFor_15 ⟨Nat.le_of_ble_eq_true rfl, Nat.le_of_ble_eq_true rfl⟩) hA hw [2, 0, 1] [] rfl rfl rfl (by decide) (fun r_11 u_12 H locs hp hw => ?_)
    obtain ⟨rfl, rfl⟩ := hp
    have hw : rc_W E A s [(h0, .inr (12, [.int 0, .ref h1, .ref h2, .ref h3, .ref h4, .ref h5, .int 1, .int 3, .int 50, .int (-1), .int (-1), .int (-1), .int (-1), .int 0, .int 100, .int 1000, .long 0])), (h2, .inr (4, [.int 0, .ref (E.2.2 0), .int 0])), (h3, .inr (4, [.int 0, .ref (E.2.2 0), .int 0]))] H locs := hw
    refine lv_goto (tgt := 26) hx hb dX7_minutesFor_18 (by decide) ?_
    exact rc_iret (v := (-1)) hx hb hr hlocks hw [(h0, .inr (12, [.int 0, .ref h1, .ref h2, .ref h3, .ref h4, .ref h5, .int 1, .int 3, .int 50, .int (-1), .int (-1), .int (-1), .int (-1), .int 0, .int 100, .int 1000, .long 0])), (h2, .inr (4, [.int 0, .ref (E.2.2 0), .int 0])), (h3, .inr (4, [.int 0, .ref (E.2.2 0), .int 0]))] (Or.inr (Or.inr ⟨rfl, rfl, rfl⟩)) [0, 1, 2] rfl (by decide) (Nat.le_of_ble_eq_true rfl) (Nat.le_of_ble_eq_true rfl) dX7_minutesFor_26
set_option maxHeartbeats 4000000 in
set_option maxRecDepth 100000 in
theorem cw_X7_is_11 (l : Launch) (E : rc_E) (sz : Nat) (x0 : Int32) : rc_Mi l yX7_is [Cond.code yX7_is cX7_is 3 (some FieldType.boolean)] { frames := 0, cells := 0, slots := 0, locals := 0 } E [.int x0, .int 1, .int 20000] [] sz (S := va_W) (fun (r : Int32) (u : va_W) => (x0 < 1 ∧ 0 = r ∧ u = []) ∨ (¬ x0 < 1 ∧ 20000 < x0 ∧ 0 = r ∧ u = []) ∨ (¬ x0 < 1 ∧ ¬ 20000 < x0 ∧ 1 = r ∧ u = [])) (fun u => u) 0 0 := by
  refine rc_ini (cc := cX7_is) (maxL := 3) (ret := (some FieldType.boolean)) (by decide) rfl (Nat.le_of_ble_eq_true rfl) ?_
  intro p e s m args below meth c ls A hx hb hr hml _ hown hlocks hin hA hAm hw hl
  have hown : s.vm.findClass RX7 = some m.cls := hown
  have hl : lv_has ls 3 [(0, .int x0), (1, .int 1), (2, .int 20000)] := hl
  refine lv_iload_n hx hb dX7_is_0 rfl (lv_at hl 0 rfl) ?_
  refine lv_iload_n hx hb dX7_is_1 rfl (lv_at hl 1 rfl) ?_
  refine lv_icmp_lt (tgt := 14) hx hb dX7_is_2 (by decide) (fun c_1 => ?_) (fun c_1 => ?_)
  · refine lv_iconst (v := 0) hx hb dX7_is_14 (by decide) ?_
    exact rc_zret (v := 0) hx hb hr hlocks hw rfl [] (Or.inl ⟨c_1, rfl, rfl⟩) [] rfl (by decide) (Nat.le_of_ble_eq_true rfl) (Nat.le_of_ble_eq_true rfl) dX7_is_15
  · refine lv_iload_n hx hb dX7_is_5 rfl (lv_at hl 0 rfl) ?_
    refine lv_iload_n hx hb dX7_is_6 rfl (lv_at hl 2 rfl) ?_
    refine lv_icmp_gt (tgt := 14) hx hb dX7_is_7 (by decide) (fun c_2 => ?_) (fun c_2 => ?_)
    · refine lv_iconst (v := 0) hx hb dX7_is_14 (by decide) ?_
      exact rc_zret (v := 0) hx hb hr hlocks hw rfl [] (Or.inr (Or.inl ⟨c_1, c_2, rfl, rfl⟩)) [] rfl (by decide) (Nat.le_of_ble_eq_true rfl) (Nat.le_of_ble_eq_true rfl) dX7_is_15
    · refine lv_iconst (v := 1) hx hb dX7_is_10 (by decide) ?_
      refine lv_goto (tgt := 15) hx hb dX7_is_11 (by decide) ?_
      exact rc_zret (v := 1) hx hb hr hlocks hw rfl [] (Or.inr (Or.inr ⟨c_1, c_2, rfl, rfl⟩)) [] rfl (by decide) (Nat.le_of_ble_eq_true rfl) (Nat.le_of_ble_eq_true rfl) dX7_is_15
set_option maxHeartbeats 4000000 in
set_option maxRecDepth 100000 in
theorem cw_J7_copyOf_59c91_2 (l : Launch) (E : rc_E) (sz : Nat) (h0 : Nat) (f0 : Nat → Int32) : rc_Mr l yJ7_copyOf_59c91 [Cond.code yJ7_copyOf_59c91 cJ7_copyOf_59c91 3 (some (FieldType.array FieldType.int))] { frames := 1, cells := 1, slots := 1, locals := 40 } E [.ref h0, .int 1] [(h0, .inl (E.2.1 0, 0, .inl f0))] sz (S := va_W) (fun (u : va_W) (r : Nat) => (∃ q1 : Nat, q1 = r ∧ u = [(h0, .inl (E.2.1 0, 0, .inl f0)), (q1, .inl (E.2.1 0, 1, .inl (va_cpy f0 (fun _ => 0) 0 0 0)))])) (fun u => u) 1 1 := by
  refine rc_inr (cc := cJ7_copyOf_59c91) (maxL := 3) (ret := (some (FieldType.array FieldType.int))) (by decide) rfl (Nat.le_of_ble_eq_true rfl) ?_
  intro p e s m args below meth c ls A hx hb hr hml _ hown hlocks hin hA hAm hw hl
  have hown : s.vm.findClass RJ7 = some m.cls := hown
  have hl : lv_has ls 3 [(0, .ref h0), (1, .int 1)] := hl
  refine lv_iload_n hx hb dJ7_copyOf_59c91_0 rfl (lv_at hl 1 rfl) ?_
  refine lv_aload_n hx hb dJ7_copyOf_59c91_1 rfl (lv_at hl 0 rfl) ?_
  refine rc_alen hx hb hAm hw 0 0 rfl rfl 0 rfl dJ7_copyOf_59c91_2 ?_
  refine lv_icmp_ne (tgt := 14) hx hb dJ7_copyOf_59c91_3 (by decide) (fun _ => ?_) (fun c9 => absurd c9 (by decide))
  refine lv_iload_n hx hb dJ7_copyOf_59c91_14 rfl (lv_at hl 1 rfl) ?_
  refine rc_inew hx hb hAm hA hw qw_108 1 (by decide) (by decide) (Nat.le_of_ble_eq_true rfl) (Nat.le_of_ble_eq_true rfl) (Nat.le_of_ble_eq_true rfl) dJ7_copyOf_59c91_15 (fun q1 H hw => ?_)
  have hw : rc_W E A s [(h0, .inl (E.2.1 0, 0, .inl f0)), (q1, .inl (E.2.1 0, 1, .inl (fun _ => 0)))] H _ := hw
  refine lv_astore_n (lv' := [(2, .ref q1), (0, .ref h0), (1, .int 1)]) hx hb dJ7_copyOf_59c91_17 rfl hl (by decide) rfl (fun ls hl => ?_)
  refine lv_aload_n hx hb dJ7_copyOf_59c91_18 rfl (lv_at hl 1 rfl) ?_
  refine lv_iconst (v := 0) hx hb dJ7_copyOf_59c91_19 (by decide) ?_
  refine lv_aload_n hx hb dJ7_copyOf_59c91_20 rfl (lv_at hl 0 rfl) ?_
  refine lv_iconst (v := 0) hx hb dJ7_copyOf_59c91_21 (by decide) ?_
  refine lv_aload_n hx hb dJ7_copyOf_59c91_22 rfl (lv_at hl 1 rfl) ?_
  refine rc_alen hx hb hAm hw 0 0 rfl rfl 0 rfl dJ7_copyOf_59c91_23 ?_
  refine lv_iload_n hx hb dJ7_copyOf_59c91_24 rfl (lv_at hl 2 rfl) ?_
  refine va_mmin hx hb (by rw [hml]; exact hl.1.symm) hown (hAm.wd qw_234 rfl rfl) (hAm.wd qw_235 rfl rfl) (hAm.wd qw_10 rfl rfl) (hAm.wd qw_236 rfl rfl) (Nat.le_of_ble_eq_true rfl) (Nat.le_of_ble_eq_true rfl) (Nat.le_of_ble_eq_true rfl) (Nat.le_of_ble_eq_true rfl) dJ7_copyOf_59c91_25 ?_
  refine rc_topi 0 (by decide) ?_
  refine va_copyi (sp := 0) (dp := 0) (n := 0) hx hb (by rw [hml]; exact hl.1.symm) hown (hAm.wd qw_237 rfl rfl) (hAm.wd qw_239 rfl rfl) (hAm.wd qw_238 rfl rfl) (hAm.wd qw_12 rfl rfl) hAm.K hw.1 hw.2.1 hw.2.2 0 1 0 0 rfl rfl rfl rfl rfl (by decide) (by decide) (by decide) (by decide) (by decide) (fun i hi => absurd hi (by exact Nat.not_lt_zero i)) (Nat.le_of_ble_eq_true rfl) (Nat.le_of_ble_eq_true rfl) dJ7_copyOf_59c91_28 (fun H locs hP hD hS => ?_)
  have hw : rc_W E A s [(h0, .inl (E.2.1 0, 0, .inl f0)), (q1, .inl (E.2.1 0, 1, .inl (va_cpy f0 (fun _ => 0) 0 0 0)))] H locs := ⟨hP, hD, hS⟩
  refine lv_aload_n hx hb dJ7_copyOf_59c91_31 rfl (lv_at hl 0 rfl) ?_
  exact rc_aret (v := q1) hx hb hr (by first | exact Or.inl ⟨_, rfl⟩ | exact Or.inr ⟨_, rfl⟩) hlocks hw [(h0, .inl (E.2.1 0, 0, .inl f0)), (q1, .inl (E.2.1 0, 1, .inl (va_cpy f0 (fun _ => 0) 0 0 0)))] (⟨q1, rfl, rfl⟩) [0, 1] rfl (by decide) (Nat.le_of_ble_eq_true rfl) (Nat.le_of_ble_eq_true rfl) dJ7_copyOf_59c91_32
set_option maxHeartbeats 4000000 in
set_option maxRecDepth 100000 in
theorem cw_X7_verdictWith (l : Launch) (E : rc_E) (sz : Nat) (h0 : Nat) (x0 : Int32) (x1 : Int32) (x2 : Int32) (h1 : Nat) (h2 : Nat) (h3 : Nat) (h4 : Nat) (h5 : Nat) : rc_Mi l yX7_verdictWith [Cond.code yX7_verdictWith cX7_verdictWith 6 (some FieldType.int)] { frames := 5, cells := 5, slots := 13, locals := 132 } E [.ref h0, .int x0, .int x1, .int x2] [(h0, .inr (12, [.int 0, .ref h1, .ref h2, .ref h3, .ref h4, .ref h5, .int 1, .int 3, .int 50, .int (-1), .int (-1), .int (-1), .int (-1), .int 0, .int 100, .int 1000, .long 0])), (h3, .inr (4, [.int 0, .ref (E.2.2 0), .int 0]))] sz (S := va_W) (fun (r : Int32) (u : va_W) => (x0 < 0 ∧ 0 = r ∧ u = [(h0, .inr (12, [.int 1, .ref h1, .ref h2, .ref h3, .ref h4, .ref h5, .int 1, .int 3, .int 50, .int (-1), .int (-1), .int (-1), .int (-1), .int 0, .int 100, .int 1000, .long 0])), (h3, .inr (4, [.int 0, .ref (E.2.2 0), .int 0]))]) ∨ (¬ x0 < 0 ∧ 0 < x0 ∧ 0 = r ∧ u = [(h0, .inr (12, [.int 1, .ref h1, .ref h2, .ref h3, .ref h4, .ref h5, .int 1, .int 3, .int 50, .int (-1), .int (-1), .int (-1), .int (-1), .int 0, .int 100, .int 1000, .long 0])), (h3, .inr (4, [.int 0, .ref (E.2.2 0), .int 0]))]) ∨ (x1 < 0 ∧ x0 = 0 ∧ 0 = r ∧ u = [(h0, .inr (12, [.int 1, .ref h1, .ref h2, .ref h3, .ref h4, .ref h5, .int 1, .int 3, .int 50, .int (-1), .int (-1), .int (-1), .int (-1), .int 0, .int 100, .int 1000, .long 0])), (h3, .inr (4, [.int 0, .ref (E.2.2 0), .int 0]))]) ∨ (¬ x1 < 0 ∧ 0 < x1 ∧ x0 = 0 ∧ 0 = r ∧ u = [(h0, .inr (12, [.int 1, .ref h1, .ref h2, .ref h3, .ref h4, .ref h5, .int 1, .int 3, .int 50, .int (-1), .int (-1), .int (-1), .int (-1), .int 0, .int 100, .int 1000, .long 0])), (h3, .inr (4, [.int 0, .ref (E.2.2 0), .int 0]))]) ∨ (x2 < 1 ∧ x0 = 0 ∧ x1 = 0 ∧ 0 = r ∧ u = [(h0, .inr (12, [.int 2, .ref h1, .ref h2, .ref h3, .ref h4, .ref h5, .int 1, .int 3, .int 50, .int (-1), .int (-1), .int (-1), .int (-1), .int 0, .int 100, .int 1000, .long 0])), (h3, .inr (4, [.int 0, .ref (E.2.2 0), .int 0]))]) ∨ (¬ x2 < 1 ∧ 20000 < x2 ∧ x0 = 0 ∧ x1 = 0 ∧ 0 = r ∧ u = [(h0, .inr (12, [.int 2, .ref h1, .ref h2, .ref h3, .ref h4, .ref h5, .int 1, .int 3, .int 50, .int (-1), .int (-1), .int (-1), .int (-1), .int 0, .int 100, .int 1000, .long 0])), (h3, .inr (4, [.int 0, .ref (E.2.2 0), .int 0]))]) ∨ (¬ x2 < 1 ∧ ¬ 20000 < x2 ∧ x0 = 0 ∧ x1 = 0 ∧ 0 = r ∧ u = [(h0, .inr (12, [.int 0, .ref h1, .ref h2, .ref h3, .ref h4, .ref h5, .int 1, .int 3, .int 50, .int (-1), .int (-1), .int (-1), .int (-1), .int 0, .int 100, .int 1000, .long 0])), (h3, .inr (4, [.int 0, .ref (E.2.2 0), .int 0]))])) (fun u => u) 5 13 := by
  refine rc_ini (cc := cX7_verdictWith) (maxL := 6) (ret := (some FieldType.int)) (by decide) rfl (Nat.le_of_ble_eq_true rfl) ?_
  intro p e s m args below meth c ls A hx hb hr hml _ hown hlocks hin hA hAm hw hl
  have hown : s.vm.findClass RX7 = some m.cls := hown
  have hl : lv_has ls 6 [(0, .ref h0), (1, .int x0), (2, .int x1), (3, .int x2)] := hl
  refine lv_aload_n hx hb dX7_verdictWith_0 rfl (lv_at hl 0 rfl) ?_
  refine lv_iconst (v := 0) hx hb dX7_verdictWith_1 (by decide) ?_
  refine rc_put hx hb hown hAm hw lyX7 tyX7 tyX7_ok nmX7 0 rfl rfl 0 (by decide) qw_860 (fun _ h9 => h9) rfl rfl (by decide +kernel) (Nat.le_of_ble_eq_true rfl) [(h0, .inr (12, [.int 0, .ref h1, .ref h2, .ref h3, .ref h4, .ref h5, .int 1, .int 3, .int 50, .int (-1), .int (-1), .int (-1), .int (-1), .int 0, .int 100, .int 1000, .long 0])), (h3, .inr (4, [.int 0, .ref (E.2.2 0), .int 0]))] rfl dX7_verdictWith_2 (fun H locs hw => ?_)
  refine lv_aload_n hx hb dX7_verdictWith_5 rfl (lv_at hl 0 rfl) ?_
  refine lv_iload_n hx hb dX7_verdictWith_6 rfl (lv_at hl 1 rfl) ?_
  refine rc_calli (wr := [(h3, .inr (4, [.int 0, .ref (E.2.2 0), .int 0]))]) (va_runV (As := [.int x0]) (rest := []) (Ts := []) ⟨hx, hb, hml, hown, fun _ h9 => absurd h9 List.not_mem_nil⟩ (cw_X7_isChange l E _ h0 x0 h1 h2 h3 h4 h5) (rc_cwV hAm qw_1353 qw_13 qw_1356 qw_1355 qs_62 rfl rfl hd_X7_isChange ⟨Nat.le_of_ble_eq_true rfl, Nat.le_of_ble_eq_true rfl⟩) (rc_preV hAm hA hw [0] rfl rfl 0 rfl (q := vwCl[12]) rfl) rfl rfl hl.1 rfl (lv_room (Nat.le_of_ble_eq_true rfl)) dX7_verdictWith_7 ⟨Nat.le_of_ble_eq_true rfl, Nat.le_of_ble_eq_true rfl⟩) hA hw [0] [1] rfl rfl rfl (by decide) (fun r_1 u_2 H locs hp hw => ?_)
  rcases hp with ⟨c_3, rfl, rfl⟩ | ⟨c_4, c_5, rfl, rfl⟩ | ⟨c_6, rfl, rfl⟩
  · have hw : rc_W E A s [(h3, .inr (4, [.int 0, .ref (E.2.2 0), .int 0])), (h0, .inr (12, [.int 0, .ref h1, .ref h2, .ref h3, .ref h4, .ref h5, .int 1, .int 3, .int 50, .int (-1), .int (-1), .int (-1), .int (-1), .int 0, .int 100, .int 1000, .long 0]))] H locs := hw
    refine lv_if_eq (tgt := 21) hx hb dX7_verdictWith_10 (by decide) (fun _ => ?_) (fun c9 => absurd (by decide) c9)
    refine lv_aload_n hx hb dX7_verdictWith_21 rfl (lv_at hl 0 rfl) ?_
    refine lv_iconst (v := 1) hx hb dX7_verdictWith_22 (by decide) ?_
    refine rc_calli (wr := [(h3, .inr (4, [.int 0, .ref (E.2.2 0), .int 0]))]) (va_runV (As := [.int 1]) (rest := []) (Ts := []) ⟨hx, hb, hml, hown, fun _ h9 => absurd h9 List.not_mem_nil⟩ (cw_X7_refuse l E _ h0 h1 h2 h3 h4 h5) (rc_cwV hAm qw_924 qw_13 qw_927 qw_926 qs_50 rfl rfl hd_X7_refuse ⟨Nat.le_of_ble_eq_true rfl, Nat.le_of_ble_eq_true rfl⟩) (rc_preV hAm hA hw [1] rfl rfl 1 rfl (q := vwCl[12]) rfl) rfl rfl hl.1 rfl (lv_room (Nat.le_of_ble_eq_true rfl)) dX7_verdictWith_23 ⟨Nat.le_of_ble_eq_true rfl, Nat.le_of_ble_eq_true rfl⟩) hA hw [1] [0] rfl rfl rfl (by decide) (fun r_7 u_8 H locs hp hw => ?_)
    obtain ⟨rfl, rfl⟩ := hp
    have hw : rc_W E A s [(h3, .inr (4, [.int 0, .ref (E.2.2 0), .int 0])), (h0, .inr (12, [.int 1, .ref h1, .ref h2, .ref h3, .ref h4, .ref h5, .int 1, .int 3, .int 50, .int (-1), .int (-1), .int (-1), .int (-1), .int 0, .int 100, .int 1000, .long 0]))] H locs := hw
    exact rc_iret (v := 0) hx hb hr hlocks hw [(h0, .inr (12, [.int 1, .ref h1, .ref h2, .ref h3, .ref h4, .ref h5, .int 1, .int 3, .int 50, .int (-1), .int (-1), .int (-1), .int (-1), .int 0, .int 100, .int 1000, .long 0])), (h3, .inr (4, [.int 0, .ref (E.2.2 0), .int 0]))] (Or.inl ⟨c_3, rfl, rfl⟩) [1, 0] rfl (by decide) (Nat.le_of_ble_eq_true rfl) (Nat.le_of_ble_eq_true rfl) dX7_verdictWith_26
  · have hw : rc_W E A s [(h3, .inr (4, [.int 0, .ref (E.2.2 0), .int 0])), (h0, .inr (12, [.int 0, .ref h1, .ref h2, .ref h3, .ref h4, .ref h5, .int 1, .int 3, .int 50, .int (-1), .int (-1), .int (-1), .int (-1), .int 0, .int 100, .int 1000, .long 0]))] H locs := hw
    refine lv_if_eq (tgt := 21) hx hb dX7_verdictWith_10 (by decide) (fun _ => ?_) (fun c9 => absurd (by decide) c9)
    refine lv_aload_n hx hb dX7_verdictWith_21 rfl (lv_at hl 0 rfl) ?_
    refine lv_iconst (v := 1) hx hb dX7_verdictWith_22 (by decide) ?_
    refine rc_calli (wr := [(h3, .inr (4, [.int 0, .ref (E.2.2 0), .int 0]))]) (va_runV (As := [.int 1]) (rest := []) (Ts := []) ⟨hx, hb, hml, hown, fun _ h9 => absurd h9 List.not_mem_nil⟩ (cw_X7_refuse l E _ h0 h1 h2 h3 h4 h5) (rc_cwV hAm qw_924 qw_13 qw_927 qw_926 qs_50 rfl rfl hd_X7_refuse ⟨Nat.le_of_ble_eq_true rfl, Nat.le_of_ble_eq_true rfl⟩) (rc_preV hAm hA hw [1] rfl rfl 1 rfl (q := vwCl[12]) rfl) rfl rfl hl.1 rfl (lv_room (Nat.le_of_ble_eq_true rfl)) dX7_verdictWith_23 ⟨Nat.le_of_ble_eq_true rfl, Nat.le_of_ble_eq_true rfl⟩) hA hw [1] [0] rfl rfl rfl (by decide) (fun r_9 u_10 H locs hp hw => ?_)
    obtain ⟨rfl, rfl⟩ := hp
    have hw : rc_W E A s [(h3, .inr (4, [.int 0, .ref (E.2.2 0), .int 0])), (h0, .inr (12, [.int 1, .ref h1, .ref h2, .ref h3, .ref h4, .ref h5, .int 1, .int 3, .int 50, .int (-1), .int (-1), .int (-1), .int (-1), .int 0, .int 100, .int 1000, .long 0]))] H locs := hw
    exact rc_iret (v := 0) hx hb hr hlocks hw [(h0, .inr (12, [.int 1, .ref h1, .ref h2, .ref h3, .ref h4, .ref h5, .int 1, .int 3, .int 50, .int (-1), .int (-1), .int (-1), .int (-1), .int 0, .int 100, .int 1000, .long 0])), (h3, .inr (4, [.int 0, .ref (E.2.2 0), .int 0]))] (Or.inr (Or.inl ⟨c_4, c_5, rfl, rfl⟩)) [1, 0] rfl (by decide) (Nat.le_of_ble_eq_true rfl) (Nat.le_of_ble_eq_true rfl) dX7_verdictWith_26
  · obtain rfl : x0 = 0 := rc_eqc (b := 0) rfl (by have g_c_6 := rc_g5 (b := 0) c_6 rfl; omega)
    have hw : rc_W E A s [(h3, .inr (4, [.int 0, .ref (E.2.2 0), .int 0])), (h0, .inr (12, [.int 0, .ref h1, .ref h2, .ref h3, .ref h4, .ref h5, .int 1, .int 3, .int 50, .int (-1), .int (-1), .int (-1), .int (-1), .int 0, .int 100, .int 1000, .long 0]))] H locs := hw
    refine lv_if_eq (tgt := 21) hx hb dX7_verdictWith_10 (by decide) (fun c9 => absurd c9 (by decide)) (fun _ => ?_)
    refine lv_aload_n hx hb dX7_verdictWith_13 rfl (lv_at hl 0 rfl) ?_
    refine lv_iload_n hx hb dX7_verdictWith_14 rfl (lv_at hl 2 rfl) ?_
    refine rc_calli (wr := [(h3, .inr (4, [.int 0, .ref (E.2.2 0), .int 0]))]) (va_runV (As := [.int x1]) (rest := []) (Ts := []) ⟨hx, hb, hml, hown, fun _ h9 => absurd h9 List.not_mem_nil⟩ (cw_X7_isChange l E _ h0 x1 h1 h2 h3 h4 h5) (rc_cwV hAm qw_1353 qw_13 qw_1356 qw_1355 qs_62 rfl rfl hd_X7_isChange ⟨Nat.le_of_ble_eq_true rfl, Nat.le_of_ble_eq_true rfl⟩) (rc_preV hAm hA hw [1] rfl rfl 1 rfl (q := vwCl[12]) rfl) rfl rfl hl.1 rfl (lv_room (Nat.le_of_ble_eq_true rfl)) dX7_verdictWith_15 ⟨Nat.le_of_ble_eq_true rfl, Nat.le_of_ble_eq_true rfl⟩) hA hw [1] [0] rfl rfl rfl (by decide) (fun r_11 u_12 H locs hp hw => ?_)
    rcases hp with ⟨c_13, rfl, rfl⟩ | ⟨c_14, c_15, rfl, rfl⟩ | ⟨c_16, rfl, rfl⟩
    · have hw : rc_W E A s [(h3, .inr (4, [.int 0, .ref (E.2.2 0), .int 0])), (h0, .inr (12, [.int 0, .ref h1, .ref h2, .ref h3, .ref h4, .ref h5, .int 1, .int 3, .int 50, .int (-1), .int (-1), .int (-1), .int (-1), .int 0, .int 100, .int 1000, .long 0]))] H locs := hw
      refine lv_if_ne (tgt := 27) hx hb dX7_verdictWith_18 (by decide) (fun c9 => absurd (by decide) c9) (fun _ => ?_)
      refine lv_aload_n hx hb dX7_verdictWith_21 rfl (lv_at hl 0 rfl) ?_
      refine lv_iconst (v := 1) hx hb dX7_verdictWith_22 (by decide) ?_
      refine rc_calli (wr := [(h3, .inr (4, [.int 0, .ref (E.2.2 0), .int 0]))]) (va_runV (As := [.int 1]) (rest := []) (Ts := []) ⟨hx, hb, hml, hown, fun _ h9 => absurd h9 List.not_mem_nil⟩ (cw_X7_refuse l E _ h0 h1 h2 h3 h4 h5) (rc_cwV hAm qw_924 qw_13 qw_927 qw_926 qs_50 rfl rfl hd_X7_refuse ⟨Nat.le_of_ble_eq_true rfl, Nat.le_of_ble_eq_true rfl⟩) (rc_preV hAm hA hw [1] rfl rfl 1 rfl (q := vwCl[12]) rfl) rfl rfl hl.1 rfl (lv_room (Nat.le_of_ble_eq_true rfl)) dX7_verdictWith_23 ⟨Nat.le_of_ble_eq_true rfl, Nat.le_of_ble_eq_true rfl⟩) hA hw [1] [0] rfl rfl rfl (by decide) (fun r_17 u_18 H locs hp hw => ?_)
      obtain ⟨rfl, rfl⟩ := hp
      have hw : rc_W E A s [(h3, .inr (4, [.int 0, .ref (E.2.2 0), .int 0])), (h0, .inr (12, [.int 1, .ref h1, .ref h2, .ref h3, .ref h4, .ref h5, .int 1, .int 3, .int 50, .int (-1), .int (-1), .int (-1), .int (-1), .int 0, .int 100, .int 1000, .long 0]))] H locs := hw
      exact rc_iret (v := 0) hx hb hr hlocks hw [(h0, .inr (12, [.int 1, .ref h1, .ref h2, .ref h3, .ref h4, .ref h5, .int 1, .int 3, .int 50, .int (-1), .int (-1), .int (-1), .int (-1), .int 0, .int 100, .int 1000, .long 0])), (h3, .inr (4, [.int 0, .ref (E.2.2 0), .int 0]))] (Or.inr (Or.inr (Or.inl ⟨c_13, rfl, rfl, rfl⟩))) [1, 0] rfl (by decide) (Nat.le_of_ble_eq_true rfl) (Nat.le_of_ble_eq_true rfl) dX7_verdictWith_26
    · have hw : rc_W E A s [(h3, .inr (4, [.int 0, .ref (E.2.2 0), .int 0])), (h0, .inr (12, [.int 0, .ref h1, .ref h2, .ref h3, .ref h4, .ref h5, .int 1, .int 3, .int 50, .int (-1), .int (-1), .int (-1), .int (-1), .int 0, .int 100, .int 1000, .long 0]))] H locs := hw
      refine lv_if_ne (tgt := 27) hx hb dX7_verdictWith_18 (by decide) (fun c9 => absurd (by decide) c9) (fun _ => ?_)
      refine lv_aload_n hx hb dX7_verdictWith_21 rfl (lv_at hl 0 rfl) ?_
      refine lv_iconst (v := 1) hx hb dX7_verdictWith_22 (by decide) ?_
      refine rc_calli (wr := [(h3, .inr (4, [.int 0, .ref (E.2.2 0), .int 0]))]) (va_runV (As := [.int 1]) (rest := []) (Ts := []) ⟨hx, hb, hml, hown, fun _ h9 => absurd h9 List.not_mem_nil⟩ (cw_X7_refuse l E _ h0 h1 h2 h3 h4 h5) (rc_cwV hAm qw_924 qw_13 qw_927 qw_926 qs_50 rfl rfl hd_X7_refuse ⟨Nat.le_of_ble_eq_true rfl, Nat.le_of_ble_eq_true rfl⟩) (rc_preV hAm hA hw [1] rfl rfl 1 rfl (q := vwCl[12]) rfl) rfl rfl hl.1 rfl (lv_room (Nat.le_of_ble_eq_true rfl)) dX7_verdictWith_23 ⟨Nat.le_of_ble_eq_true rfl, Nat.le_of_ble_eq_true rfl⟩) hA hw [1] [0] rfl rfl rfl (by decide) (fun r_19 u_20 H locs hp hw => ?_)
      obtain ⟨rfl, rfl⟩ := hp
      have hw : rc_W E A s [(h3, .inr (4, [.int 0, .ref (E.2.2 0), .int 0])), (h0, .inr (12, [.int 1, .ref h1, .ref h2, .ref h3, .ref h4, .ref h5, .int 1, .int 3, .int 50, .int (-1), .int (-1), .int (-1), .int (-1), .int 0, .int 100, .int 1000, .long 0]))] H locs := hw
      exact rc_iret (v := 0) hx hb hr hlocks hw [(h0, .inr (12, [.int 1, .ref h1, .ref h2, .ref h3, .ref h4, .ref h5, .int 1, .int 3, .int 50, .int (-1), .int (-1), .int (-1), .int (-1), .int 0, .int 100, .int 1000, .long 0])), (h3, .inr (4, [.int 0, .ref (E.2.2 0), .int 0]))] (Or.inr (Or.inr (Or.inr (Or.inl ⟨c_14, c_15, rfl, rfl, rfl⟩)))) [1, 0] rfl (by decide) (Nat.le_of_ble_eq_true rfl) (Nat.le_of_ble_eq_true rfl) dX7_verdictWith_26
    · obtain rfl : x1 = 0 := rc_eqc (b := 0) rfl (by have g_c_16 := rc_g5 (b := 0) c_16 rfl; omega)
      have hw : rc_W E A s [(h3, .inr (4, [.int 0, .ref (E.2.2 0), .int 0])), (h0, .inr (12, [.int 0, .ref h1, .ref h2, .ref h3, .ref h4, .ref h5, .int 1, .int 3, .int 50, .int (-1), .int (-1), .int (-1), .int (-1), .int 0, .int 100, .int 1000, .long 0]))] H locs := hw
      refine lv_if_ne (tgt := 27) hx hb dX7_verdictWith_18 (by decide) (fun _ => ?_) (fun c9 => absurd c9 (by decide))
      refine lv_iload_n hx hb dX7_verdictWith_27 rfl (lv_at hl 3 rfl) ?_
      refine lv_iconst (v := 1) hx hb dX7_verdictWith_28 (by decide) ?_
      refine lv_sipush (v := 20000) hx hb dX7_verdictWith_29 (by decide) ?_
      refine rc_calli (wr := [(h3, .inr (4, [.int 0, .ref (E.2.2 0), .int 0])), (h0, .inr (12, [.int 0, .ref h1, .ref h2, .ref h3, .ref h4, .ref h5, .int 1, .int 3, .int 50, .int (-1), .int (-1), .int (-1), .int (-1), .int 0, .int 100, .int 1000, .long 0]))]) (va_runS (As := [.int x2, .int 1, .int 20000]) (rest := []) (Ts := []) ⟨hx, hb, hml, hown, fun _ h9 => absurd h9 List.not_mem_nil⟩ (cw_X7_is_11 l E _ x2) (rc_cwS hAm qw_921 qw_13 qw_923 qw_922 rfl rfl hd_X7_is ⟨Nat.le_of_ble_eq_true rfl, Nat.le_of_ble_eq_true rfl⟩) (rc_preS hAm hA hw [] rfl rfl) rfl rfl hl.1 rfl (lv_room (Nat.le_of_ble_eq_true rfl)) dX7_verdictWith_32 ⟨Nat.le_of_ble_eq_true rfl, Nat.le_of_ble_eq_true rfl⟩) hA hw [] [0, 1] rfl rfl rfl (by decide) (fun r_21 u_22 H locs hp hw => ?_)
      rcases hp with ⟨c_23, rfl, rfl⟩ | ⟨c_24, c_25, rfl, rfl⟩ | ⟨c_26, c_27, rfl, rfl⟩
      · have hw : rc_W E A s [(h3, .inr (4, [.int 0, .ref (E.2.2 0), .int 0])), (h0, .inr (12, [.int 0, .ref h1, .ref h2, .ref h3, .ref h4, .ref h5, .int 1, .int 3, .int 50, .int (-1), .int (-1), .int (-1), .int (-1), .int 0, .int 100, .int 1000, .long 0]))] H locs := hw
        refine lv_if_ne (tgt := 44) hx hb dX7_verdictWith_35 (by decide) (fun c9 => absurd (by decide) c9) (fun _ => ?_)
        refine lv_aload_n hx hb dX7_verdictWith_38 rfl (lv_at hl 0 rfl) ?_
        refine lv_iconst (v := 2) hx hb dX7_verdictWith_39 (by decide) ?_
        refine rc_calli (wr := [(h3, .inr (4, [.int 0, .ref (E.2.2 0), .int 0]))]) (va_runV (As := [.int 2]) (rest := []) (Ts := []) ⟨hx, hb, hml, hown, fun _ h9 => absurd h9 List.not_mem_nil⟩ (cw_X7_refuse_2 l E _ h0 h1 h2 h3 h4 h5) (rc_cwV hAm qw_924 qw_13 qw_927 qw_926 qs_50 rfl rfl hd_X7_refuse ⟨Nat.le_of_ble_eq_true rfl, Nat.le_of_ble_eq_true rfl⟩) (rc_preV hAm hA hw [1] rfl rfl 1 rfl (q := vwCl[12]) rfl) rfl rfl hl.1 rfl (lv_room (Nat.le_of_ble_eq_true rfl)) dX7_verdictWith_40 ⟨Nat.le_of_ble_eq_true rfl, Nat.le_of_ble_eq_true rfl⟩) hA hw [1] [0] rfl rfl rfl (by decide) (fun r_28 u_29 H locs hp hw => ?_)
        obtain ⟨rfl, rfl⟩ := hp
        have hw : rc_W E A s [(h3, .inr (4, [.int 0, .ref (E.2.2 0), .int 0])), (h0, .inr (12, [.int 2, .ref h1, .ref h2, .ref h3, .ref h4, .ref h5, .int 1, .int 3, .int 50, .int (-1), .int (-1), .int (-1), .int (-1), .int 0, .int 100, .int 1000, .long 0]))] H locs := hw
        exact rc_iret (v := 0) hx hb hr hlocks hw [(h0, .inr (12, [.int 2, .ref h1, .ref h2, .ref h3, .ref h4, .ref h5, .int 1, .int 3, .int 50, .int (-1), .int (-1), .int (-1), .int (-1), .int 0, .int 100, .int 1000, .long 0])), (h3, .inr (4, [.int 0, .ref (E.2.2 0), .int 0]))] (Or.inr (Or.inr (Or.inr (Or.inr (Or.inl ⟨c_23, rfl, rfl, rfl, rfl⟩))))) [1, 0] rfl (by decide) (Nat.le_of_ble_eq_true rfl) (Nat.le_of_ble_eq_true rfl) dX7_verdictWith_43
      · have hw : rc_W E A s [(h3, .inr (4, [.int 0, .ref (E.2.2 0), .int 0])), (h0, .inr (12, [.int 0, .ref h1, .ref h2, .ref h3, .ref h4, .ref h5, .int 1, .int 3, .int 50, .int (-1), .int (-1), .int (-1), .int (-1), .int 0, .int 100, .int 1000, .long 0]))] H locs := hw
        refine lv_if_ne (tgt := 44) hx hb dX7_verdictWith_35 (by decide) (fun c9 => absurd (by decide) c9) (fun _ => ?_)
        refine lv_aload_n hx hb dX7_verdictWith_38 rfl (lv_at hl 0 rfl) ?_
        refine lv_iconst (v := 2) hx hb dX7_verdictWith_39 (by decide) ?_
        refine rc_calli (wr := [(h3, .inr (4, [.int 0, .ref (E.2.2 0), .int 0]))]) (va_runV (As := [.int 2]) (rest := []) (Ts := []) ⟨hx, hb, hml, hown, fun _ h9 => absurd h9 List.not_mem_nil⟩ (cw_X7_refuse_2 l E _ h0 h1 h2 h3 h4 h5) (rc_cwV hAm qw_924 qw_13 qw_927 qw_926 qs_50 rfl rfl hd_X7_refuse ⟨Nat.le_of_ble_eq_true rfl, Nat.le_of_ble_eq_true rfl⟩) (rc_preV hAm hA hw [1] rfl rfl 1 rfl (q := vwCl[12]) rfl) rfl rfl hl.1 rfl (lv_room (Nat.le_of_ble_eq_true rfl)) dX7_verdictWith_40 ⟨Nat.le_of_ble_eq_true rfl, Nat.le_of_ble_eq_true rfl⟩) hA hw [1] [0] rfl rfl rfl (by decide) (fun r_30 u_31 H locs hp hw => ?_)
        obtain ⟨rfl, rfl⟩ := hp
        have hw : rc_W E A s [(h3, .inr (4, [.int 0, .ref (E.2.2 0), .int 0])), (h0, .inr (12, [.int 2, .ref h1, .ref h2, .ref h3, .ref h4, .ref h5, .int 1, .int 3, .int 50, .int (-1), .int (-1), .int (-1), .int (-1), .int 0, .int 100, .int 1000, .long 0]))] H locs := hw
        exact rc_iret (v := 0) hx hb hr hlocks hw [(h0, .inr (12, [.int 2, .ref h1, .ref h2, .ref h3, .ref h4, .ref h5, .int 1, .int 3, .int 50, .int (-1), .int (-1), .int (-1), .int (-1), .int 0, .int 100, .int 1000, .long 0])), (h3, .inr (4, [.int 0, .ref (E.2.2 0), .int 0]))] (Or.inr (Or.inr (Or.inr (Or.inr (Or.inr (Or.inl ⟨c_24, c_25, rfl, rfl, rfl, rfl⟩)))))) [1, 0] rfl (by decide) (Nat.le_of_ble_eq_true rfl) (Nat.le_of_ble_eq_true rfl) dX7_verdictWith_43
      · have hw : rc_W E A s [(h3, .inr (4, [.int 0, .ref (E.2.2 0), .int 0])), (h0, .inr (12, [.int 0, .ref h1, .ref h2, .ref h3, .ref h4, .ref h5, .int 1, .int 3, .int 50, .int (-1), .int (-1), .int (-1), .int (-1), .int 0, .int 100, .int 1000, .long 0]))] H locs := hw
        refine lv_if_ne (tgt := 44) hx hb dX7_verdictWith_35 (by decide) (fun _ => ?_) (fun c9 => absurd c9 (by decide))
        refine lv_aload_n hx hb dX7_verdictWith_44 rfl (lv_at hl 0 rfl) ?_
        refine lv_iload_n hx hb dX7_verdictWith_45 rfl (lv_at hl 2 rfl) ?_
        refine rc_callr (wr := []) (va_runV (As := [.int 0]) (rest := []) (Ts := []) ⟨hx, hb, hml, hown, fun _ h9 => absurd h9 List.not_mem_nil⟩ (cw_X7_sample_ l E _ h0 h1 h2 h3 h4 h5) (rc_cwV hAm qw_967 qw_13 qw_970 qw_969 qs_54 rfl rfl hd_X7_sample_ ⟨Nat.le_of_ble_eq_true rfl, Nat.le_of_ble_eq_true rfl⟩) (rc_preV hAm hA hw [1, 0] rfl rfl 1 rfl (q := vwCl[12]) rfl) rfl rfl hl.1 rfl (lv_room (Nat.le_of_ble_eq_true rfl)) dX7_verdictWith_46 ⟨Nat.le_of_ble_eq_true rfl, Nat.le_of_ble_eq_true rfl⟩) hA hw [1, 0] [] rfl rfl rfl (by decide) (fun u_33 r_32 H locs hp hw => ?_)
        obtain ⟨q1, rfl, rfl⟩ := hp
        have hw : rc_W E A s [(h0, .inr (12, [.int 0, .ref h1, .ref h2, .ref h3, .ref h4, .ref h5, .int 1, .int 3, .int 50, .int (-1), .int (-1), .int (-1), .int (-1), .int 0, .int 100, .int 1000, .long 0])), (h3, .inr (4, [.int 0, .ref (E.2.2 0), .int 0])), (q1, .inl (E.2.1 0, 0, .inl (va_cpy (fun _ => 0) (fun _ => 0) 6 0 0)))] H locs := hw
        refine lv_astore (lv' := [(4, .ref q1), (0, .ref h0), (1, .int 0), (2, .int 0), (3, .int x2)]) hx hb dX7_verdictWith_49 hl (by decide) rfl (fun ls hl => ?_)
        refine lv_aload hx hb dX7_verdictWith_51 (lv_at hl 0 rfl) ?_
        refine lv_aload hx hb dX7_verdictWith_53 (lv_at hl 0 rfl) ?_
        refine rc_alen hx hb hAm hw 2 0 rfl rfl 0 rfl dX7_verdictWith_55 ?_
        refine lv_iconst (v := 1) hx hb dX7_verdictWith_56 (by decide) ?_
        refine lv_iadd hx hb dX7_verdictWith_57 ?_
        refine rc_topi 1 (by decide) ?_
        refine rc_callr (wr := [(h0, .inr (12, [.int 0, .ref h1, .ref h2, .ref h3, .ref h4, .ref h5, .int 1, .int 3, .int 50, .int (-1), .int (-1), .int (-1), .int (-1), .int 0, .int 100, .int 1000, .long 0])), (h3, .inr (4, [.int 0, .ref (E.2.2 0), .int 0]))]) (va_runS (As := [.ref q1, .int 1]) (rest := []) (Ts := []) ⟨hx, hb, hml, hown, fun _ h9 => absurd h9 List.not_mem_nil⟩ (cw_J7_copyOf_59c91_2 l E _ q1 (va_cpy (fun _ => 0) (fun _ => 0) 6 0 0)) (rc_cwS hAm qw_1237 qw_11 qw_1239 qw_1238 rfl rfl hd_J7_copyOf_59c91 ⟨Nat.le_of_ble_eq_true rfl, Nat.le_of_ble_eq_true rfl⟩) (rc_preS hAm hA hw [2] rfl rfl) rfl rfl hl.1 rfl (lv_room (Nat.le_of_ble_eq_true rfl)) dX7_verdictWith_58 ⟨Nat.le_of_ble_eq_true rfl, Nat.le_of_ble_eq_true rfl⟩) hA hw [2] [0, 1] rfl rfl rfl (by decide) (fun u_35 r_34 H locs hp hw => ?_)
        obtain ⟨q2, rfl, rfl⟩ := hp
        have hw : rc_W E A s [(h0, .inr (12, [.int 0, .ref h1, .ref h2, .ref h3, .ref h4, .ref h5, .int 1, .int 3, .int 50, .int (-1), .int (-1), .int (-1), .int (-1), .int 0, .int 100, .int 1000, .long 0])), (h3, .inr (4, [.int 0, .ref (E.2.2 0), .int 0])), (q1, .inl (E.2.1 0, 0, .inl (va_cpy (fun _ => 0) (fun _ => 0) 6 0 0))), (q2, .inl (E.2.1 0, 1, .inl (va_cpy (va_cpy (fun _ => 0) (fun _ => 0) 6 0 0) (fun _ => 0) 0 0 0)))] H locs := hw
        refine lv_astore (lv' := [(5, .ref q2), (4, .ref q1), (0, .ref h0), (1, .int 0), (2, .int 0), (3, .int x2)]) hx hb dX7_verdictWith_61 hl (by decide) rfl (fun ls hl => ?_)
        refine lv_aload hx hb dX7_verdictWith_63 (lv_at hl 0 rfl) ?_
        refine lv_aload hx hb dX7_verdictWith_65 (lv_at hl 1 rfl) ?_
        refine rc_alen hx hb hAm hw 2 0 rfl rfl 0 rfl dX7_verdictWith_67 ?_
        refine lv_iload_n hx hb dX7_verdictWith_68 rfl (lv_at hl 5 rfl) ?_
        refine rc_iast hx hb hAm hw 3 rfl (vp_in_iff.mpr (by decide)) [(h0, .inr (12, [.int 0, .ref h1, .ref h2, .ref h3, .ref h4, .ref h5, .int 1, .int 3, .int 50, .int (-1), .int (-1), .int (-1), .int (-1), .int 0, .int 100, .int 1000, .long 0])), (h3, .inr (4, [.int 0, .ref (E.2.2 0), .int 0])), (q1, .inl (E.2.1 0, 0, .inl (va_cpy (fun _ => 0) (fun _ => 0) 6 0 0))), (q2, .inl (E.2.1 0, 1, .inl (upd (va_cpy (va_cpy (fun _ => 0) (fun _ => 0) 6 0 0) (fun _ => 0) 0 0 0) 0 x2)))] rfl dX7_verdictWith_69 (fun H locs hw => ?_)
        refine lv_aload_n hx hb dX7_verdictWith_70 rfl (lv_at hl 2 rfl) ?_
        refine lv_aload_n hx hb dX7_verdictWith_71 rfl (lv_at hl 2 rfl) ?_
        refine lv_iload_n hx hb dX7_verdictWith_72 rfl (lv_at hl 3 rfl) ?_
        refine rc_callr (wr := [(q1, .inl (E.2.1 0, 0, .inl (va_cpy (fun _ => 0) (fun _ => 0) 6 0 0))), (q2, .inl (E.2.1 0, 1, .inl (upd (va_cpy (va_cpy (fun _ => 0) (fun _ => 0) 6 0 0) (fun _ => 0) 0 0 0) 0 x2)))]) (va_runV (As := [.int 0]) (rest := [.ref h0]) (Ts := []) ⟨hx, hb, hml, hown, fun _ h9 => absurd h9 List.not_mem_nil⟩ (cw_X7_sample_ l E _ h0 h1 h2 h3 h4 h5) (rc_cwV hAm qw_967 qw_13 qw_970 qw_969 qs_54 rfl rfl hd_X7_sample_ ⟨Nat.le_of_ble_eq_true rfl, Nat.le_of_ble_eq_true rfl⟩) (rc_preV hAm hA hw [0, 1] rfl rfl 0 rfl (q := vwCl[12]) rfl) rfl rfl hl.1 rfl (lv_room (Nat.le_of_ble_eq_true rfl)) dX7_verdictWith_73 ⟨Nat.le_of_ble_eq_true rfl, Nat.le_of_ble_eq_true rfl⟩) hA hw [0, 1] [2, 3] rfl rfl rfl (by decide) (fun u_37 r_36 H locs hp hw => ?_)
        obtain ⟨q3, rfl, rfl⟩ := hp
        have hw : rc_W E A s [(q1, .inl (E.2.1 0, 0, .inl (va_cpy (fun _ => 0) (fun _ => 0) 6 0 0))), (q2, .inl (E.2.1 0, 1, .inl (upd (va_cpy (va_cpy (fun _ => 0) (fun _ => 0) 6 0 0) (fun _ => 0) 0 0 0) 0 x2))), (h0, .inr (12, [.int 0, .ref h1, .ref h2, .ref h3, .ref h4, .ref h5, .int 1, .int 3, .int 50, .int (-1), .int (-1), .int (-1), .int (-1), .int 0, .int 100, .int 1000, .long 0])), (h3, .inr (4, [.int 0, .ref (E.2.2 0), .int 0])), (q3, .inl (E.2.1 0, 0, .inl (va_cpy (fun _ => 0) (fun _ => 0) 6 0 0)))] H locs := hw
        refine lv_aload hx hb dX7_verdictWith_76 (lv_at hl 0 rfl) ?_
        refine rc_alen hx hb hAm hw 1 0 rfl rfl 1 rfl dX7_verdictWith_78 ?_
        refine lv_bipush (v := 6) hx hb dX7_verdictWith_79 (by decide) ?_
        refine lv_icmp_le (tgt := 96) hx hb dX7_verdictWith_81 (by decide) (fun _ => ?_) (fun c9 => absurd (by decide) c9)
        refine lv_aload hx hb dX7_verdictWith_96 (lv_at hl 0 rfl) ?_
        refine rc_calli (wr := [(q1, .inl (E.2.1 0, 0, .inl (va_cpy (fun _ => 0) (fun _ => 0) 6 0 0))), (q2, .inl (E.2.1 0, 1, .inl (upd (va_cpy (va_cpy (fun _ => 0) (fun _ => 0) 6 0 0) (fun _ => 0) 0 0 0) 0 x2))), (h3, .inr (4, [.int 0, .ref (E.2.2 0), .int 0]))]) (va_runV (As := [.ref q3, .ref q2]) (rest := []) (Ts := []) ⟨hx, hb, hml, hown, fun _ h9 => absurd h9 List.not_mem_nil⟩ (cw_X7_verdictOf l E _ h0 q3 q2 h1 h2 h3 h4 h5 (va_cpy (fun _ => 0) (fun _ => 0) 6 0 0)) (rc_cwV hAm qw_1227 qw_13 qw_1230 qw_1229 qs_58 rfl rfl hd_X7_verdictOf ⟨Nat.le_of_ble_eq_true rfl, Nat.le_of_ble_eq_true rfl⟩) (rc_preV hAm hA hw [2, 4] rfl rfl 2 rfl (q := vwCl[12]) rfl) rfl rfl hl.1 rfl (lv_room (Nat.le_of_ble_eq_true rfl)) dX7_verdictWith_98 ⟨Nat.le_of_ble_eq_true rfl, Nat.le_of_ble_eq_true rfl⟩) hA hw [2, 4] [0, 1, 3] rfl rfl rfl (by decide) (fun r_38 u_39 H locs hp hw => ?_)
        obtain ⟨rfl, rfl⟩ := hp
        have hw : rc_W E A s [(q1, .inl (E.2.1 0, 0, .inl (va_cpy (fun _ => 0) (fun _ => 0) 6 0 0))), (q2, .inl (E.2.1 0, 1, .inl (upd (va_cpy (va_cpy (fun _ => 0) (fun _ => 0) 6 0 0) (fun _ => 0) 0 0 0) 0 x2))), (h3, .inr (4, [.int 0, .ref (E.2.2 0), .int 0])), (h0, .inr (12, [.int 0, .ref h1, .ref h2, .ref h3, .ref h4, .ref h5, .int 1, .int 3, .int 50, .int (-1), .int (-1), .int (-1), .int (-1), .int 0, .int 100, .int 1000, .long 0])), (q3, .inl (E.2.1 0, 0, .inl (va_cpy (fun _ => 0) (fun _ => 0) 6 0 0)))] H locs := hw
        exact rc_iret (v := 0) hx hb hr hlocks hw [(h0, .inr (12, [.int 0, .ref h1, .ref h2, .ref h3, .ref h4, .ref h5, .int 1, .int 3, .int 50, .int (-1), .int (-1), .int (-1), .int (-1), .int 0, .int 100, .int 1000, .long 0])), (h3, .inr (4, [.int 0, .ref (E.2.2 0), .int 0]))] (Or.inr (Or.inr (Or.inr (Or.inr (Or.inr (Or.inr ⟨c_26, c_27, rfl, rfl, rfl, rfl⟩)))))) [3, 2] rfl (by decide) (Nat.le_of_ble_eq_true rfl) (Nat.le_of_ble_eq_true rfl) dX7_verdictWith_101
set_option maxHeartbeats 4000000 in
set_option maxRecDepth 100000 in
theorem cw_X7_without (l : Launch) (E : rc_E) (sz : Nat) (h0 : Nat) (x0 : Int32) (h1 : Nat) (h2 : Nat) (h3 : Nat) (h4 : Nat) (h5 : Nat) : rc_Mi l yX7_without [Cond.code yX7_without cX7_without 2 (some FieldType.int)] { frames := 2, cells := 0, slots := 0, locals := 43 } E [.ref h0, .int x0] [(h0, .inr (12, [.int 0, .ref h1, .ref h2, .ref h3, .ref h4, .ref h5, .int 1, .int 3, .int 50, .int (-1), .int (-1), .int (-1), .int (-1), .int 0, .int 100, .int 1000, .long 0])), (h2, .inr (4, [.int 0, .ref (E.2.2 0), .int 0]))] sz (S := va_W) (fun (r : Int32) (u : va_W) => (x0 < 0 ∧ 0 = r ∧ u = [(h0, .inr (12, [.int 1, .ref h1, .ref h2, .ref h3, .ref h4, .ref h5, .int 1, .int 3, .int 50, .int (-1), .int (-1), .int (-1), .int (-1), .int 0, .int 100, .int 1000, .long 0])), (h2, .inr (4, [.int 0, .ref (E.2.2 0), .int 0]))]) ∨ (¬ x0 < 0 ∧ 0 = r ∧ u = [(h0, .inr (12, [.int 1, .ref h1, .ref h2, .ref h3, .ref h4, .ref h5, .int 1, .int 3, .int 50, .int (-1), .int (-1), .int (-1), .int (-1), .int 0, .int 100, .int 1000, .long 0])), (h2, .inr (4, [.int 0, .ref (E.2.2 0), .int 0]))])) (fun u => u) 0 0 := by
  refine rc_ini (cc := cX7_without) (maxL := 2) (ret := (some FieldType.int)) (by decide) rfl (Nat.le_of_ble_eq_true rfl) ?_
  intro p e s m args below meth c ls A hx hb hr hml _ hown hlocks hin hA hAm hw hl
  have hown : s.vm.findClass RX7 = some m.cls := hown
  have hl : lv_has ls 2 [(0, .ref h0), (1, .int x0)] := hl
  refine lv_aload_n hx hb dX7_without_0 rfl (lv_at hl 0 rfl) ?_
  refine lv_iconst (v := 0) hx hb dX7_without_1 (by decide) ?_
  refine rc_put hx hb hown hAm hw lyX7 tyX7 tyX7_ok nmX7 0 rfl rfl 0 (by decide) qw_860 (fun _ h9 => h9) rfl rfl (by decide +kernel) (Nat.le_of_ble_eq_true rfl) [(h0, .inr (12, [.int 0, .ref h1, .ref h2, .ref h3, .ref h4, .ref h5, .int 1, .int 3, .int 50, .int (-1), .int (-1), .int (-1), .int (-1), .int 0, .int 100, .int 1000, .long 0])), (h2, .inr (4, [.int 0, .ref (E.2.2 0), .int 0]))] rfl dX7_without_2 (fun H locs hw => ?_)
  refine lv_aload_n hx hb dX7_without_5 rfl (lv_at hl 0 rfl) ?_
  refine lv_iload_n hx hb dX7_without_6 rfl (lv_at hl 1 rfl) ?_
  refine rc_calli (wr := []) (va_runV (As := [.int x0]) (rest := []) (Ts := []) ⟨hx, hb, hml, hown, fun _ h9 => absurd h9 List.not_mem_nil⟩ (cw_X7_isMachine l E _ h0 x0 h1 h2 h3 h4 h5) (rc_cwV hAm qw_954 qw_13 qw_957 qw_956 qs_51 rfl rfl hd_X7_isMachine ⟨Nat.le_of_ble_eq_true rfl, Nat.le_of_ble_eq_true rfl⟩) (rc_preV hAm hA hw [0, 1] rfl rfl 0 rfl (q := vwCl[12]) rfl) rfl rfl hl.1 rfl (lv_room (Nat.le_of_ble_eq_true rfl)) dX7_without_7 ⟨Nat.le_of_ble_eq_true rfl, Nat.le_of_ble_eq_true rfl⟩) hA hw [0, 1] [] rfl rfl rfl (by decide) (fun r_1 u_2 H locs hp hw => ?_)
  rcases hp with ⟨c_3, rfl, rfl⟩ | ⟨c_4, rfl, rfl⟩
  · have hw : rc_W E A s [(h0, .inr (12, [.int 0, .ref h1, .ref h2, .ref h3, .ref h4, .ref h5, .int 1, .int 3, .int 50, .int (-1), .int (-1), .int (-1), .int (-1), .int 0, .int 100, .int 1000, .long 0])), (h2, .inr (4, [.int 0, .ref (E.2.2 0), .int 0]))] H locs := hw
    refine lv_if_eq (tgt := 21) hx hb dX7_without_10 (by decide) (fun _ => ?_) (fun c9 => absurd (by decide) c9)
    refine lv_aload_n hx hb dX7_without_21 rfl (lv_at hl 0 rfl) ?_
    refine lv_iconst (v := 1) hx hb dX7_without_22 (by decide) ?_
    refine rc_calli (wr := [(h2, .inr (4, [.int 0, .ref (E.2.2 0), .int 0]))]) (va_runV (As := [.int 1]) (rest := []) (Ts := []) ⟨hx, hb, hml, hown, fun _ h9 => absurd h9 List.not_mem_nil⟩ (cw_X7_refuse l E _ h0 h1 h2 h3 h4 h5) (rc_cwV hAm qw_924 qw_13 qw_927 qw_926 qs_50 rfl rfl hd_X7_refuse ⟨Nat.le_of_ble_eq_true rfl, Nat.le_of_ble_eq_true rfl⟩) (rc_preV hAm hA hw [0] rfl rfl 0 rfl (q := vwCl[12]) rfl) rfl rfl hl.1 rfl (lv_room (Nat.le_of_ble_eq_true rfl)) dX7_without_23 ⟨Nat.le_of_ble_eq_true rfl, Nat.le_of_ble_eq_true rfl⟩) hA hw [0] [1] rfl rfl rfl (by decide) (fun r_5 u_6 H locs hp hw => ?_)
    obtain ⟨rfl, rfl⟩ := hp
    have hw : rc_W E A s [(h2, .inr (4, [.int 0, .ref (E.2.2 0), .int 0])), (h0, .inr (12, [.int 1, .ref h1, .ref h2, .ref h3, .ref h4, .ref h5, .int 1, .int 3, .int 50, .int (-1), .int (-1), .int (-1), .int (-1), .int 0, .int 100, .int 1000, .long 0]))] H locs := hw
    exact rc_iret (v := 0) hx hb hr hlocks hw [(h0, .inr (12, [.int 1, .ref h1, .ref h2, .ref h3, .ref h4, .ref h5, .int 1, .int 3, .int 50, .int (-1), .int (-1), .int (-1), .int (-1), .int 0, .int 100, .int 1000, .long 0])), (h2, .inr (4, [.int 0, .ref (E.2.2 0), .int 0]))] (Or.inl ⟨c_3, rfl, rfl⟩) [1, 0] rfl (by decide) (Nat.le_of_ble_eq_true rfl) (Nat.le_of_ble_eq_true rfl) dX7_without_26
  · have hw : rc_W E A s [(h0, .inr (12, [.int 0, .ref h1, .ref h2, .ref h3, .ref h4, .ref h5, .int 1, .int 3, .int 50, .int (-1), .int (-1), .int (-1), .int (-1), .int 0, .int 100, .int 1000, .long 0])), (h2, .inr (4, [.int 0, .ref (E.2.2 0), .int 0]))] H locs := hw
    refine lv_if_eq (tgt := 21) hx hb dX7_without_10 (by decide) (fun _ => ?_) (fun c9 => absurd (by decide) c9)
    refine lv_aload_n hx hb dX7_without_21 rfl (lv_at hl 0 rfl) ?_
    refine lv_iconst (v := 1) hx hb dX7_without_22 (by decide) ?_
    refine rc_calli (wr := [(h2, .inr (4, [.int 0, .ref (E.2.2 0), .int 0]))]) (va_runV (As := [.int 1]) (rest := []) (Ts := []) ⟨hx, hb, hml, hown, fun _ h9 => absurd h9 List.not_mem_nil⟩ (cw_X7_refuse l E _ h0 h1 h2 h3 h4 h5) (rc_cwV hAm qw_924 qw_13 qw_927 qw_926 qs_50 rfl rfl hd_X7_refuse ⟨Nat.le_of_ble_eq_true rfl, Nat.le_of_ble_eq_true rfl⟩) (rc_preV hAm hA hw [0] rfl rfl 0 rfl (q := vwCl[12]) rfl) rfl rfl hl.1 rfl (lv_room (Nat.le_of_ble_eq_true rfl)) dX7_without_23 ⟨Nat.le_of_ble_eq_true rfl, Nat.le_of_ble_eq_true rfl⟩) hA hw [0] [1] rfl rfl rfl (by decide) (fun r_7 u_8 H locs hp hw => ?_)
    obtain ⟨rfl, rfl⟩ := hp
    have hw : rc_W E A s [(h2, .inr (4, [.int 0, .ref (E.2.2 0), .int 0])), (h0, .inr (12, [.int 1, .ref h1, .ref h2, .ref h3, .ref h4, .ref h5, .int 1, .int 3, .int 50, .int (-1), .int (-1), .int (-1), .int (-1), .int 0, .int 100, .int 1000, .long 0]))] H locs := hw
    exact rc_iret (v := 0) hx hb hr hlocks hw [(h0, .inr (12, [.int 1, .ref h1, .ref h2, .ref h3, .ref h4, .ref h5, .int 1, .int 3, .int 50, .int (-1), .int (-1), .int (-1), .int (-1), .int 0, .int 100, .int 1000, .long 0])), (h2, .inr (4, [.int 0, .ref (E.2.2 0), .int 0]))] (Or.inr ⟨c_4, rfl, rfl⟩) [1, 0] rfl (by decide) (Nat.le_of_ble_eq_true rfl) (Nat.le_of_ble_eq_true rfl) dX7_without_26
set_option maxHeartbeats 4000000 in
set_option maxRecDepth 100000 in
theorem cw_X7_wouldMove (l : Launch) (E : rc_E) (sz : Nat) (h0 : Nat) (h1 : Nat) (h2 : Nat) (h3 : Nat) (h4 : Nat) (h5 : Nat) : rc_Mi l yX7_wouldMove [Cond.code yX7_wouldMove cX7_wouldMove 1 (some FieldType.int)] { frames := 2, cells := 0, slots := 0, locals := 44 } E [.ref h0] [(h0, .inr (12, [.int 0, .ref h1, .ref h2, .ref h3, .ref h4, .ref h5, .int 1, .int 3, .int 50, .int (-1), .int (-1), .int (-1), .int (-1), .int 0, .int 100, .int 1000, .long 0]))] sz (S := va_W) (fun (r : Int32) (u : va_W) => (0 = r ∧ u = [(h0, .inr (12, [.int 0, .ref h1, .ref h2, .ref h3, .ref h4, .ref h5, .int 1, .int 3, .int 50, .int (-1), .int (-1), .int (-1), .int (-1), .int 0, .int 100, .int 1000, .long 0]))])) (fun u => u) 0 0 := by
  refine rc_ini (cc := cX7_wouldMove) (maxL := 1) (ret := (some FieldType.int)) (by decide) rfl (Nat.le_of_ble_eq_true rfl) ?_
  intro p e s m args below meth c ls A hx hb hr hml _ hown hlocks hin hA hAm hw hl
  have hown : s.vm.findClass RX7 = some m.cls := hown
  have hl : lv_has ls 1 [(0, .ref h0)] := hl
  refine lv_aload_n hx hb dX7_wouldMove_0 rfl (lv_at hl 0 rfl) ?_
  refine lv_iconst (v := 0) hx hb dX7_wouldMove_1 (by decide) ?_
  refine rc_put hx hb hown hAm hw lyX7 tyX7 tyX7_ok nmX7 0 rfl rfl 0 (by decide) qw_860 (fun _ h9 => h9) rfl rfl (by decide +kernel) (Nat.le_of_ble_eq_true rfl) [(h0, .inr (12, [.int 0, .ref h1, .ref h2, .ref h3, .ref h4, .ref h5, .int 1, .int 3, .int 50, .int (-1), .int (-1), .int (-1), .int (-1), .int 0, .int 100, .int 1000, .long 0]))] rfl dX7_wouldMove_2 (fun H locs hw => ?_)
  refine lv_aload_n hx hb dX7_wouldMove_5 rfl (lv_at hl 0 rfl) ?_
  refine lv_aload_n hx hb dX7_wouldMove_6 rfl (lv_at hl 0 rfl) ?_
  refine rc_get (v := .int 0) hx hb hown hAm hw lyX7 0 rfl rfl 13 (by decide) qw_873 (fun _ h9 => h9) rfl dX7_wouldMove_7 ?_
  refine rc_calli (wr := []) (va_runV (As := [.int 0]) (rest := []) (Ts := []) ⟨hx, hb, hml, hown, fun _ h9 => absurd h9 List.not_mem_nil⟩ (cw_X7_moved l E _ h0 h1 h2 h3 h4 h5) (rc_cwV hAm qw_1413 qw_13 qw_1416 qw_1415 qs_67 rfl rfl hd_X7_moved ⟨Nat.le_of_ble_eq_true rfl, Nat.le_of_ble_eq_true rfl⟩) (rc_preV hAm hA hw [0] rfl rfl 0 rfl (q := vwCl[12]) rfl) rfl rfl hl.1 rfl (lv_room (Nat.le_of_ble_eq_true rfl)) dX7_wouldMove_10 ⟨Nat.le_of_ble_eq_true rfl, Nat.le_of_ble_eq_true rfl⟩) hA hw [0] [] rfl rfl rfl (by decide) (fun r_1 u_2 H locs hp hw => ?_)
  obtain ⟨rfl, rfl⟩ := hp
  have hw : rc_W E A s [(h0, .inr (12, [.int 0, .ref h1, .ref h2, .ref h3, .ref h4, .ref h5, .int 1, .int 3, .int 50, .int (-1), .int (-1), .int (-1), .int (-1), .int 0, .int 100, .int 1000, .long 0]))] H locs := hw
  exact rc_iret (v := 0) hx hb hr hlocks hw [(h0, .inr (12, [.int 0, .ref h1, .ref h2, .ref h3, .ref h4, .ref h5, .int 1, .int 3, .int 50, .int (-1), .int (-1), .int (-1), .int (-1), .int 0, .int 100, .int 1000, .long 0]))] (⟨rfl, rfl⟩) [0] rfl (by decide) (Nat.le_of_ble_eq_true rfl) (Nat.le_of_ble_eq_true rfl) dX7_wouldMove_13
set_option maxHeartbeats 4000000 in
set_option maxRecDepth 100000 in
theorem cw_X7_manyNow_2 (l : Launch) (E : rc_E) (sz : Nat) (h0 : Nat) (h1 : Nat) (h2 : Nat) (h3 : Nat) (h4 : Nat) (h5 : Nat) : rc_Mi l yX7_manyNow [Cond.code yX7_manyNow cX7_manyNow 7 (some FieldType.int)] { frames := 1, cells := 0, slots := 0, locals := 20 } E [.ref h0, .int 0] [(h0, .inr (12, [.int 0, .ref h1, .ref h2, .ref h3, .ref h4, .ref h5, .int 1, .int 3, .int 50, .int (-1), .int (-1), .int (-1), .int (-1), .int 0, .int 100, .int 1000, .long 5750])), (h2, .inr (4, [.int 0, .ref (E.2.2 0), .int 0]))] sz (S := va_W) (fun (r : Int32) (u : va_W) => (0 = r ∧ u = [(h0, .inr (12, [.int 0, .ref h1, .ref h2, .ref h3, .ref h4, .ref h5, .int 1, .int 3, .int 50, .int (-1), .int (-1), .int (-1), .int (-1), .int 0, .int 100, .int 1000, .long 5750])), (h2, .inr (4, [.int 0, .ref (E.2.2 0), .int 0]))])) (fun u => u) 0 0 := by
  refine rc_ini (cc := cX7_manyNow) (maxL := 7) (ret := (some FieldType.int)) (by decide) rfl (Nat.le_of_ble_eq_true rfl) ?_
  intro p e s m args below meth c ls A hx hb hr hml _ hown hlocks hin hA hAm hw hl
  have hown : s.vm.findClass RX7 = some m.cls := hown
  have hl : lv_has ls 7 [(0, .ref h0), (1, .int 0)] := hl
  refine lv_iconst (v := 0) hx hb dX7_manyNow_0 (by decide) ?_
  refine lv_istore_n (lv' := [(2, .int 0), (0, .ref h0), (1, .int 0)]) hx hb dX7_manyNow_1 rfl hl (by decide) rfl (fun ls hl => ?_)
  refine lv_iload_n hx hb dX7_manyNow_2 rfl (lv_at hl 2 rfl) ?_
  refine lv_tableIn (tgt := 48) hx hb dX7_manyNow_3 (by decide) (by decide) rfl (by decide) ?_
  refine lv_aload_n hx hb dX7_manyNow_48 rfl (lv_at hl 1 rfl) ?_
  refine rc_get (v := .ref h2) hx hb hown hAm hw lyX7 0 rfl rfl 2 (by decide) qw_862 (fun _ h9 => h9) rfl dX7_manyNow_49 ?_
  refine rc_calli (wr := [(h0, .inr (12, [.int 0, .ref h1, .ref h2, .ref h3, .ref h4, .ref h5, .int 1, .int 3, .int 50, .int (-1), .int (-1), .int (-1), .int (-1), .int 0, .int 100, .int 1000, .long 5750]))]) (va_runV (As := []) (rest := []) (Ts := []) ⟨hx, hb, hml, hown, fun _ h9 => absurd h9 List.not_mem_nil⟩ (cw_Jx4a65c_size_8abf5 l E _ h2) (rc_cwV hAm qw_928 qw_4 qw_289 qw_287 qw_288 rfl rfl hd_Jx4a65c_size_8abf5 ⟨Nat.le_of_ble_eq_true rfl, Nat.le_of_ble_eq_true rfl⟩) (rc_preV hAm hA hw [1] rfl rfl 1 rfl (q := vwCl[4]) rfl) rfl rfl hl.1 rfl (lv_room (Nat.le_of_ble_eq_true rfl)) dX7_manyNow_52 ⟨Nat.le_of_ble_eq_true rfl, Nat.le_of_ble_eq_true rfl⟩) hA hw [1] [0] rfl rfl rfl (by decide) (fun r_1 u_2 H locs hp hw => ?_)
  obtain ⟨rfl, rfl⟩ := hp
  have hw : rc_W E A s [(h0, .inr (12, [.int 0, .ref h1, .ref h2, .ref h3, .ref h4, .ref h5, .int 1, .int 3, .int 50, .int (-1), .int (-1), .int (-1), .int (-1), .int 0, .int 100, .int 1000, .long 5750])), (h2, .inr (4, [.int 0, .ref (E.2.2 0), .int 0]))] H locs := hw
  exact rc_iret (v := 0) hx hb hr hlocks hw [(h0, .inr (12, [.int 0, .ref h1, .ref h2, .ref h3, .ref h4, .ref h5, .int 1, .int 3, .int 50, .int (-1), .int (-1), .int (-1), .int (-1), .int 0, .int 100, .int 1000, .long 5750])), (h2, .inr (4, [.int 0, .ref (E.2.2 0), .int 0]))] (⟨rfl, rfl⟩) [0, 1] rfl (by decide) (Nat.le_of_ble_eq_true rfl) (Nat.le_of_ble_eq_true rfl) dX7_manyNow_55
set_option maxHeartbeats 4000000 in
set_option maxRecDepth 100000 in
theorem cw_X7_add (l : Launch) (E : rc_E) (sz : Nat) (h0 : Nat) (h1 : Nat) (h2 : Nat) (h3 : Nat) (h4 : Nat) (h5 : Nat) : rc_Mv l yX7_add [Cond.code yX7_add cX7_add 2 (none : Option FieldType)] { frames := 0, cells := 0, slots := 0, locals := 0 } E [.ref h0, .int 0] [(h0, .inr (12, [.int 0, .ref h1, .ref h2, .ref h3, .ref h4, .ref h5, .int 1, .int 3, .int 50, .int (-1), .int (-1), .int (-1), .int (-1), .int 0, .int 100, .int 1000, .long 5750]))] sz (S := va_W) (fun (u : va_W) => (u = [(h0, .inr (12, [.int 0, .ref h1, .ref h2, .ref h3, .ref h4, .ref h5, .int 1, .int 3, .int 50, .int (-1), .int (-1), .int (-1), .int (-1), .int 0, .int 100, .int 1000, .long 178250]))])) (fun u => u) 0 0 := by
  refine rc_inv (cc := cX7_add) (maxL := 2) (ret := (none : Option FieldType)) (by decide) rfl (Nat.le_of_ble_eq_true rfl) ?_
  intro p e s m args below meth c ls A hx hb hr hml _ hown hlocks hin hA hAm hw hl
  have hown : s.vm.findClass RX7 = some m.cls := hown
  have hl : lv_has ls 2 [(0, .ref h0), (1, .int 0)] := hl
  refine lv_aload_n hx hb dX7_add_0 rfl (lv_at hl 0 rfl) ?_
  refine lv_aload_n hx hb dX7_add_1 rfl (lv_at hl 0 rfl) ?_
  refine rc_get (v := .long 5750) hx hb hown hAm hw lyX7 0 rfl rfl 16 (by decide) qw_876 (fun _ h9 => h9) rfl dX7_add_2 ?_
  refine lv_ldc2 (v := 31) hx hb hown (hAm.wd qw_1470 rfl rfl) dX7_add_5 ?_
  refine lv_lmul hx hb dX7_add_8 ?_
  refine rc_topl 178250 (by decide) ?_
  refine lv_iload_n hx hb dX7_add_9 rfl (lv_at hl 1 rfl) ?_
  refine lv_i2l (v := 0) hx hb dX7_add_10 (by decide) ?_
  refine lv_ladd hx hb dX7_add_11 ?_
  refine rc_topl 178250 (by decide) ?_
  refine rc_put hx hb hown hAm hw lyX7 tyX7 tyX7_ok nmX7 0 rfl rfl 16 (by decide) qw_876 (fun _ h9 => h9) rfl rfl (by decide +kernel) (Nat.le_of_ble_eq_true rfl) [(h0, .inr (12, [.int 0, .ref h1, .ref h2, .ref h3, .ref h4, .ref h5, .int 1, .int 3, .int 50, .int (-1), .int (-1), .int (-1), .int (-1), .int 0, .int 100, .int 1000, .long 178250]))] rfl dX7_add_12 (fun H locs hw => ?_)
  exact rc_vret hx hb hr hlocks hw [(h0, .inr (12, [.int 0, .ref h1, .ref h2, .ref h3, .ref h4, .ref h5, .int 1, .int 3, .int 50, .int (-1), .int (-1), .int (-1), .int (-1), .int 0, .int 100, .int 1000, .long 178250]))] (rfl) [0] rfl (by decide) (Nat.le_of_ble_eq_true rfl) (Nat.le_of_ble_eq_true rfl) dX7_add_15
theorem hd_X7_add : yX7_add.cls ≠ "java/lang/invoke/MethodHandle" ∧ yX7_add.cls ≠ "java/lang/invoke/VarHandle" ∧ (parseMethodDescriptor yX7_add.desc).map (fun d => d.parameters.length) = some 1 := by decide +kernel
set_option maxHeartbeats 4000000 in
set_option maxRecDepth 100000 in
theorem cw_X7_manyNow_3 (l : Launch) (E : rc_E) (sz : Nat) (h0 : Nat) (h1 : Nat) (h2 : Nat) (h3 : Nat) (h4 : Nat) (h5 : Nat) : rc_Mi l yX7_manyNow [Cond.code yX7_manyNow cX7_manyNow 7 (some FieldType.int)] { frames := 0, cells := 0, slots := 0, locals := 0 } E [.ref h0, .int 1] [(h0, .inr (12, [.int 0, .ref h1, .ref h2, .ref h3, .ref h4, .ref h5, .int 1, .int 3, .int 50, .int (-1), .int (-1), .int (-1), .int (-1), .int 0, .int 100, .int 1000, .long 178250]))] sz (S := va_W) (fun (r : Int32) (u : va_W) => (1 = r ∧ u = [(h0, .inr (12, [.int 0, .ref h1, .ref h2, .ref h3, .ref h4, .ref h5, .int 1, .int 3, .int 50, .int (-1), .int (-1), .int (-1), .int (-1), .int 0, .int 100, .int 1000, .long 178250]))])) (fun u => u) 0 0 := by
  refine rc_ini (cc := cX7_manyNow) (maxL := 7) (ret := (some FieldType.int)) (by decide) rfl (Nat.le_of_ble_eq_true rfl) ?_
  intro p e s m args below meth c ls A hx hb hr hml _ hown hlocks hin hA hAm hw hl
  have hown : s.vm.findClass RX7 = some m.cls := hown
  have hl : lv_has ls 7 [(0, .ref h0), (1, .int 1)] := hl
  refine lv_iconst (v := 0) hx hb dX7_manyNow_0 (by decide) ?_
  refine lv_istore_n (lv' := [(2, .int 0), (0, .ref h0), (1, .int 1)]) hx hb dX7_manyNow_1 rfl hl (by decide) rfl (fun ls hl => ?_)
  refine lv_iload_n hx hb dX7_manyNow_2 rfl (lv_at hl 2 rfl) ?_
  refine lv_tableIn (tgt := 56) hx hb dX7_manyNow_3 (by decide) (by decide) rfl (by decide) ?_
  refine lv_aload_n hx hb dX7_manyNow_56 rfl (lv_at hl 1 rfl) ?_
  refine rc_get (v := .int 1) hx hb hown hAm hw lyX7 0 rfl rfl 6 (by decide) qw_866 (fun _ h9 => h9) rfl dX7_manyNow_57 ?_
  exact rc_iret (v := 1) hx hb hr hlocks hw [(h0, .inr (12, [.int 0, .ref h1, .ref h2, .ref h3, .ref h4, .ref h5, .int 1, .int 3, .int 50, .int (-1), .int (-1), .int (-1), .int (-1), .int 0, .int 100, .int 1000, .long 178250]))] (⟨rfl, rfl⟩) [0] rfl (by decide) (Nat.le_of_ble_eq_true rfl) (Nat.le_of_ble_eq_true rfl) dX7_manyNow_60
set_option maxHeartbeats 4000000 in
set_option maxRecDepth 100000 in
theorem cw_X7_add_2 (l : Launch) (E : rc_E) (sz : Nat) (h0 : Nat) (h1 : Nat) (h2 : Nat) (h3 : Nat) (h4 : Nat) (h5 : Nat) : rc_Mv l yX7_add [Cond.code yX7_add cX7_add 2 (none : Option FieldType)] { frames := 0, cells := 0, slots := 0, locals := 0 } E [.ref h0, .int 1] [(h0, .inr (12, [.int 0, .ref h1, .ref h2, .ref h3, .ref h4, .ref h5, .int 1, .int 3, .int 50, .int (-1), .int (-1), .int (-1), .int (-1), .int 0, .int 100, .int 1000, .long 178250]))] sz (S := va_W) (fun (u : va_W) => (u = [(h0, .inr (12, [.int 0, .ref h1, .ref h2, .ref h3, .ref h4, .ref h5, .int 1, .int 3, .int 50, .int (-1), .int (-1), .int (-1), .int (-1), .int 0, .int 100, .int 1000, .long 5525751]))])) (fun u => u) 0 0 := by
  refine rc_inv (cc := cX7_add) (maxL := 2) (ret := (none : Option FieldType)) (by decide) rfl (Nat.le_of_ble_eq_true rfl) ?_
  intro p e s m args below meth c ls A hx hb hr hml _ hown hlocks hin hA hAm hw hl
  have hown : s.vm.findClass RX7 = some m.cls := hown
  have hl : lv_has ls 2 [(0, .ref h0), (1, .int 1)] := hl
  refine lv_aload_n hx hb dX7_add_0 rfl (lv_at hl 0 rfl) ?_
  refine lv_aload_n hx hb dX7_add_1 rfl (lv_at hl 0 rfl) ?_
  refine rc_get (v := .long 178250) hx hb hown hAm hw lyX7 0 rfl rfl 16 (by decide) qw_876 (fun _ h9 => h9) rfl dX7_add_2 ?_
  refine lv_ldc2 (v := 31) hx hb hown (hAm.wd qw_1470 rfl rfl) dX7_add_5 ?_
  refine lv_lmul hx hb dX7_add_8 ?_
  refine rc_topl 5525750 (by decide) ?_
  refine lv_iload_n hx hb dX7_add_9 rfl (lv_at hl 1 rfl) ?_
  refine lv_i2l (v := 1) hx hb dX7_add_10 (by decide) ?_
  refine lv_ladd hx hb dX7_add_11 ?_
  refine rc_topl 5525751 (by decide) ?_
  refine rc_put hx hb hown hAm hw lyX7 tyX7 tyX7_ok nmX7 0 rfl rfl 16 (by decide) qw_876 (fun _ h9 => h9) rfl rfl (by decide +kernel) (Nat.le_of_ble_eq_true rfl) [(h0, .inr (12, [.int 0, .ref h1, .ref h2, .ref h3, .ref h4, .ref h5, .int 1, .int 3, .int 50, .int (-1), .int (-1), .int (-1), .int (-1), .int 0, .int 100, .int 1000, .long 5525751]))] rfl dX7_add_12 (fun H locs hw => ?_)
  exact rc_vret hx hb hr hlocks hw [(h0, .inr (12, [.int 0, .ref h1, .ref h2, .ref h3, .ref h4, .ref h5, .int 1, .int 3, .int 50, .int (-1), .int (-1), .int (-1), .int (-1), .int 0, .int 100, .int 1000, .long 5525751]))] (rfl) [0] rfl (by decide) (Nat.le_of_ble_eq_true rfl) (Nat.le_of_ble_eq_true rfl) dX7_add_15
set_option maxHeartbeats 4000000 in
set_option maxRecDepth 100000 in
theorem cw_X7_manyNow_4 (l : Launch) (E : rc_E) (sz : Nat) (h0 : Nat) (h1 : Nat) (h2 : Nat) (h3 : Nat) (h4 : Nat) (h5 : Nat) : rc_Mi l yX7_manyNow [Cond.code yX7_manyNow cX7_manyNow 7 (some FieldType.int)] { frames := 1, cells := 0, slots := 0, locals := 20 } E [.ref h0, .int 2] [(h0, .inr (12, [.int 0, .ref h1, .ref h2, .ref h3, .ref h4, .ref h5, .int 1, .int 3, .int 50, .int (-1), .int (-1), .int (-1), .int (-1), .int 0, .int 100, .int 1000, .long 5525751])), (h3, .inr (4, [.int 0, .ref (E.2.2 0), .int 0]))] sz (S := va_W) (fun (r : Int32) (u : va_W) => (0 = r ∧ u = [(h0, .inr (12, [.int 0, .ref h1, .ref h2, .ref h3, .ref h4, .ref h5, .int 1, .int 3, .int 50, .int (-1), .int (-1), .int (-1), .int (-1), .int 0, .int 100, .int 1000, .long 5525751])), (h3, .inr (4, [.int 0, .ref (E.2.2 0), .int 0]))])) (fun u => u) 0 0 := by
  refine rc_ini (cc := cX7_manyNow) (maxL := 7) (ret := (some FieldType.int)) (by decide) rfl (Nat.le_of_ble_eq_true rfl) ?_
  intro p e s m args below meth c ls A hx hb hr hml _ hown hlocks hin hA hAm hw hl
  have hown : s.vm.findClass RX7 = some m.cls := hown
  have hl : lv_has ls 7 [(0, .ref h0), (1, .int 2)] := hl
  refine lv_iconst (v := 0) hx hb dX7_manyNow_0 (by decide) ?_
  refine lv_istore_n (lv' := [(2, .int 0), (0, .ref h0), (1, .int 2)]) hx hb dX7_manyNow_1 rfl hl (by decide) rfl (fun ls hl => ?_)
  refine lv_iload_n hx hb dX7_manyNow_2 rfl (lv_at hl 2 rfl) ?_
  refine lv_tableIn (tgt := 61) hx hb dX7_manyNow_3 (by decide) (by decide) rfl (by decide) ?_
  refine lv_aload_n hx hb dX7_manyNow_61 rfl (lv_at hl 1 rfl) ?_
  refine rc_get (v := .ref h3) hx hb hown hAm hw lyX7 0 rfl rfl 3 (by decide) qw_863 (fun _ h9 => h9) rfl dX7_manyNow_62 ?_
  refine rc_calli (wr := [(h0, .inr (12, [.int 0, .ref h1, .ref h2, .ref h3, .ref h4, .ref h5, .int 1, .int 3, .int 50, .int (-1), .int (-1), .int (-1), .int (-1), .int 0, .int 100, .int 1000, .long 5525751]))]) (va_runV (As := []) (rest := []) (Ts := []) ⟨hx, hb, hml, hown, fun _ h9 => absurd h9 List.not_mem_nil⟩ (cw_Jx4a65c_size_8abf5 l E _ h3) (rc_cwV hAm qw_928 qw_4 qw_289 qw_287 qw_288 rfl rfl hd_Jx4a65c_size_8abf5 ⟨Nat.le_of_ble_eq_true rfl, Nat.le_of_ble_eq_true rfl⟩) (rc_preV hAm hA hw [1] rfl rfl 1 rfl (q := vwCl[4]) rfl) rfl rfl hl.1 rfl (lv_room (Nat.le_of_ble_eq_true rfl)) dX7_manyNow_65 ⟨Nat.le_of_ble_eq_true rfl, Nat.le_of_ble_eq_true rfl⟩) hA hw [1] [0] rfl rfl rfl (by decide) (fun r_1 u_2 H locs hp hw => ?_)
  obtain ⟨rfl, rfl⟩ := hp
  have hw : rc_W E A s [(h0, .inr (12, [.int 0, .ref h1, .ref h2, .ref h3, .ref h4, .ref h5, .int 1, .int 3, .int 50, .int (-1), .int (-1), .int (-1), .int (-1), .int 0, .int 100, .int 1000, .long 5525751])), (h3, .inr (4, [.int 0, .ref (E.2.2 0), .int 0]))] H locs := hw
  exact rc_iret (v := 0) hx hb hr hlocks hw [(h0, .inr (12, [.int 0, .ref h1, .ref h2, .ref h3, .ref h4, .ref h5, .int 1, .int 3, .int 50, .int (-1), .int (-1), .int (-1), .int (-1), .int 0, .int 100, .int 1000, .long 5525751])), (h3, .inr (4, [.int 0, .ref (E.2.2 0), .int 0]))] (⟨rfl, rfl⟩) [0, 1] rfl (by decide) (Nat.le_of_ble_eq_true rfl) (Nat.le_of_ble_eq_true rfl) dX7_manyNow_68
set_option maxHeartbeats 4000000 in
set_option maxRecDepth 100000 in
theorem cw_X7_add_3 (l : Launch) (E : rc_E) (sz : Nat) (h0 : Nat) (h1 : Nat) (h2 : Nat) (h3 : Nat) (h4 : Nat) (h5 : Nat) : rc_Mv l yX7_add [Cond.code yX7_add cX7_add 2 (none : Option FieldType)] { frames := 0, cells := 0, slots := 0, locals := 0 } E [.ref h0, .int 0] [(h0, .inr (12, [.int 0, .ref h1, .ref h2, .ref h3, .ref h4, .ref h5, .int 1, .int 3, .int 50, .int (-1), .int (-1), .int (-1), .int (-1), .int 0, .int 100, .int 1000, .long 5525751]))] sz (S := va_W) (fun (u : va_W) => (u = [(h0, .inr (12, [.int 0, .ref h1, .ref h2, .ref h3, .ref h4, .ref h5, .int 1, .int 3, .int 50, .int (-1), .int (-1), .int (-1), .int (-1), .int 0, .int 100, .int 1000, .long 171298281]))])) (fun u => u) 0 0 := by
  refine rc_inv (cc := cX7_add) (maxL := 2) (ret := (none : Option FieldType)) (by decide) rfl (Nat.le_of_ble_eq_true rfl) ?_
  intro p e s m args below meth c ls A hx hb hr hml _ hown hlocks hin hA hAm hw hl
  have hown : s.vm.findClass RX7 = some m.cls := hown
  have hl : lv_has ls 2 [(0, .ref h0), (1, .int 0)] := hl
  refine lv_aload_n hx hb dX7_add_0 rfl (lv_at hl 0 rfl) ?_
  refine lv_aload_n hx hb dX7_add_1 rfl (lv_at hl 0 rfl) ?_
  refine rc_get (v := .long 5525751) hx hb hown hAm hw lyX7 0 rfl rfl 16 (by decide) qw_876 (fun _ h9 => h9) rfl dX7_add_2 ?_
  refine lv_ldc2 (v := 31) hx hb hown (hAm.wd qw_1470 rfl rfl) dX7_add_5 ?_
  refine lv_lmul hx hb dX7_add_8 ?_
  refine rc_topl 171298281 (by decide) ?_
  refine lv_iload_n hx hb dX7_add_9 rfl (lv_at hl 1 rfl) ?_
  refine lv_i2l (v := 0) hx hb dX7_add_10 (by decide) ?_
  refine lv_ladd hx hb dX7_add_11 ?_
  refine rc_topl 171298281 (by decide) ?_
  refine rc_put hx hb hown hAm hw lyX7 tyX7 tyX7_ok nmX7 0 rfl rfl 16 (by decide) qw_876 (fun _ h9 => h9) rfl rfl (by decide +kernel) (Nat.le_of_ble_eq_true rfl) [(h0, .inr (12, [.int 0, .ref h1, .ref h2, .ref h3, .ref h4, .ref h5, .int 1, .int 3, .int 50, .int (-1), .int (-1), .int (-1), .int (-1), .int 0, .int 100, .int 1000, .long 171298281]))] rfl dX7_add_12 (fun H locs hw => ?_)
  exact rc_vret hx hb hr hlocks hw [(h0, .inr (12, [.int 0, .ref h1, .ref h2, .ref h3, .ref h4, .ref h5, .int 1, .int 3, .int 50, .int (-1), .int (-1), .int (-1), .int (-1), .int 0, .int 100, .int 1000, .long 171298281]))] (rfl) [0] rfl (by decide) (Nat.le_of_ble_eq_true rfl) (Nat.le_of_ble_eq_true rfl) dX7_add_15
set_option maxHeartbeats 4000000 in
set_option maxRecDepth 100000 in
theorem cw_X7_manyNow_5 (l : Launch) (E : rc_E) (sz : Nat) (h0 : Nat) (h1 : Nat) (h2 : Nat) (h3 : Nat) (h4 : Nat) (h5 : Nat) : rc_Mi l yX7_manyNow [Cond.code yX7_manyNow cX7_manyNow 7 (some FieldType.int)] { frames := 3, cells := 1, slots := 4, locals := 53 } E [.ref h0, .int 3] [(h0, .inr (12, [.int 0, .ref h1, .ref h2, .ref h3, .ref h4, .ref h5, .int 1, .int 3, .int 50, .int (-1), .int (-1), .int (-1), .int (-1), .int 0, .int 100, .int 1000, .long 171298281])), (h3, .inr (4, [.int 0, .ref (E.2.2 0), .int 0]))] sz (S := va_W) (fun (r : Int32) (u : va_W) => (0 = r ∧ u = [(h0, .inr (12, [.int 0, .ref h1, .ref h2, .ref h3, .ref h4, .ref h5, .int 1, .int 3, .int 50, .int (-1), .int (-1), .int (-1), .int (-1), .int 0, .int 100, .int 1000, .long 171298281])), (h3, .inr (4, [.int 0, .ref (E.2.2 0), .int 0]))])) (fun u => u) 1 4 := by
  refine rc_ini (cc := cX7_manyNow) (maxL := 7) (ret := (some FieldType.int)) (by decide) rfl (Nat.le_of_ble_eq_true rfl) ?_
  intro p e s m args below meth c ls A hx hb hr hml _ hown hlocks hin hA hAm hw hl
  have hown : s.vm.findClass RX7 = some m.cls := hown
  have hl : lv_has ls 7 [(0, .ref h0), (1, .int 3)] := hl
  refine lv_iconst (v := 0) hx hb dX7_manyNow_0 (by decide) ?_
  refine lv_istore_n (lv' := [(2, .int 0), (0, .ref h0), (1, .int 3)]) hx hb dX7_manyNow_1 rfl hl (by decide) rfl (fun ls hl => ?_)
  refine lv_iload_n hx hb dX7_manyNow_2 rfl (lv_at hl 2 rfl) ?_
  refine lv_tableIn (tgt := 69) hx hb dX7_manyNow_3 (by decide) (by decide) rfl (by decide) ?_
  refine lv_aload_n hx hb dX7_manyNow_69 rfl (lv_at hl 1 rfl) ?_
  refine rc_get (v := .ref h3) hx hb hown hAm hw lyX7 0 rfl rfl 3 (by decide) qw_863 (fun _ h9 => h9) rfl dX7_manyNow_70 ?_
  refine rc_callr (wr := [(h0, .inr (12, [.int 0, .ref h1, .ref h2, .ref h3, .ref h4, .ref h5, .int 1, .int 3, .int 50, .int (-1), .int (-1), .int (-1), .int (-1), .int 0, .int 100, .int 1000, .long 171298281]))]) (va_runV (As := []) (rest := []) (Ts := []) ⟨hx, hb, hml, hown, fun _ h9 => absurd h9 List.not_mem_nil⟩ (cw_Jx4a65c_iterator_32c93 l E _ h3) (rc_cwV hAm qw_1295 qw_4 qw_1298 qw_1296 qw_1297 rfl rfl hd_Jx4a65c_iterator_32c93 ⟨Nat.le_of_ble_eq_true rfl, Nat.le_of_ble_eq_true rfl⟩) (rc_preV hAm hA hw [1] rfl rfl 1 rfl (q := vwCl[4]) rfl) rfl rfl hl.1 rfl (lv_room (Nat.le_of_ble_eq_true rfl)) dX7_manyNow_73 ⟨Nat.le_of_ble_eq_true rfl, Nat.le_of_ble_eq_true rfl⟩) hA hw [1] [0] rfl rfl rfl (by decide) (fun u_2 r_1 H locs hp hw => ?_)
  obtain ⟨q1, rfl, rfl⟩ := hp
  have hw : rc_W E A s [(h0, .inr (12, [.int 0, .ref h1, .ref h2, .ref h3, .ref h4, .ref h5, .int 1, .int 3, .int 50, .int (-1), .int (-1), .int (-1), .int (-1), .int 0, .int 100, .int 1000, .long 171298281])), (h3, .inr (4, [.int 0, .ref (E.2.2 0), .int 0])), (q1, .inr (3, [.int 0, .int (-1), .int 0, .ref h3]))] H locs := hw
  refine lv_astore_n (lv' := [(3, .ref q1), (2, .int 0), (0, .ref h0), (1, .int 3)]) hx hb dX7_manyNow_76 rfl hl (by decide) rfl (fun ls hl => ?_)
  refine lv_aload_n hx hb dX7_manyNow_77 rfl (lv_at hl 0 rfl) ?_
  refine rc_callFi (wr := [(h0, .inr (12, [.int 0, .ref h1, .ref h2, .ref h3, .ref h4, .ref h5, .int 1, .int 3, .int 50, .int (-1), .int (-1), .int (-1), .int (-1), .int 0, .int 100, .int 1000, .long 171298281]))]) (va_runF (As := []) (rest := []) (Ts := []) ((hAm.K.1 3 _ rfl).2) ⟨hx, hb, hml, hown, fun _ h9 => absurd h9 List.not_mem_nil⟩ (cw_Jx35411_hasNext_aae02 l E _ q1 h3) (rc_cwF (C := "java/util/ArrayList$Itr") (n := 0) hAm qw_1319 qw_32 qw_1327 qw_1325 qw_1323 qw_1321 qw_1320 (by decide +kernel) qw_1326 qw_1324 qw_1322 rfl rfl (by decide +kernel) ⟨Nat.le_of_ble_eq_true rfl, Nat.le_of_ble_eq_true rfl⟩) (rc_preV hAm hA hw [2, 1] rfl rfl 2 rfl (q := vwCl[3]) rfl) rfl rfl hl.1 rfl (lv_room (Nat.le_of_ble_eq_true rfl)) dX7_manyNow_78 ⟨Nat.le_of_ble_eq_true rfl, Nat.le_of_ble_eq_true rfl⟩) hA hw [2, 1] [0] rfl rfl rfl (by decide) (fun r_3 u_4 H locs hp hw => ?_)
  obtain ⟨rfl, rfl⟩ := hp
  have hw : rc_W E A s [(h0, .inr (12, [.int 0, .ref h1, .ref h2, .ref h3, .ref h4, .ref h5, .int 1, .int 3, .int 50, .int (-1), .int (-1), .int (-1), .int (-1), .int 0, .int 100, .int 1000, .long 171298281])), (q1, .inr (3, [.int 0, .int (-1), .int 0, .ref h3])), (h3, .inr (4, [.int 0, .ref (E.2.2 0), .int 0]))] H locs := hw
  refine lv_if_eq (tgt := 118) hx hb dX7_manyNow_83 (by decide) (fun _ => ?_) (fun c9 => absurd (by decide) c9)
  refine lv_iload_n hx hb dX7_manyNow_118 rfl (lv_at hl 1 rfl) ?_
  exact rc_iret (v := 0) hx hb hr hlocks hw [(h0, .inr (12, [.int 0, .ref h1, .ref h2, .ref h3, .ref h4, .ref h5, .int 1, .int 3, .int 50, .int (-1), .int (-1), .int (-1), .int (-1), .int 0, .int 100, .int 1000, .long 171298281])), (h3, .inr (4, [.int 0, .ref (E.2.2 0), .int 0]))] (⟨rfl, rfl⟩) [0, 2] rfl (by decide) (Nat.le_of_ble_eq_true rfl) (Nat.le_of_ble_eq_true rfl) dX7_manyNow_119
set_option maxHeartbeats 4000000 in
set_option maxRecDepth 100000 in
theorem cw_X7_add_4 (l : Launch) (E : rc_E) (sz : Nat) (h0 : Nat) (h1 : Nat) (h2 : Nat) (h3 : Nat) (h4 : Nat) (h5 : Nat) : rc_Mv l yX7_add [Cond.code yX7_add cX7_add 2 (none : Option FieldType)] { frames := 0, cells := 0, slots := 0, locals := 0 } E [.ref h0, .int 0] [(h0, .inr (12, [.int 0, .ref h1, .ref h2, .ref h3, .ref h4, .ref h5, .int 1, .int 3, .int 50, .int (-1), .int (-1), .int (-1), .int (-1), .int 0, .int 100, .int 1000, .long 171298281]))] sz (S := va_W) (fun (u : va_W) => (u = [(h0, .inr (12, [.int 0, .ref h1, .ref h2, .ref h3, .ref h4, .ref h5, .int 1, .int 3, .int 50, .int (-1), .int (-1), .int (-1), .int (-1), .int 0, .int 100, .int 1000, .long 5310246711]))])) (fun u => u) 0 0 := by
  refine rc_inv (cc := cX7_add) (maxL := 2) (ret := (none : Option FieldType)) (by decide) rfl (Nat.le_of_ble_eq_true rfl) ?_
  intro p e s m args below meth c ls A hx hb hr hml _ hown hlocks hin hA hAm hw hl
  have hown : s.vm.findClass RX7 = some m.cls := hown
  have hl : lv_has ls 2 [(0, .ref h0), (1, .int 0)] := hl
  refine lv_aload_n hx hb dX7_add_0 rfl (lv_at hl 0 rfl) ?_
  refine lv_aload_n hx hb dX7_add_1 rfl (lv_at hl 0 rfl) ?_
  refine rc_get (v := .long 171298281) hx hb hown hAm hw lyX7 0 rfl rfl 16 (by decide) qw_876 (fun _ h9 => h9) rfl dX7_add_2 ?_
  refine lv_ldc2 (v := 31) hx hb hown (hAm.wd qw_1470 rfl rfl) dX7_add_5 ?_
  refine lv_lmul hx hb dX7_add_8 ?_
  refine rc_topl 5310246711 (by decide) ?_
  refine lv_iload_n hx hb dX7_add_9 rfl (lv_at hl 1 rfl) ?_
  refine lv_i2l (v := 0) hx hb dX7_add_10 (by decide) ?_
  refine lv_ladd hx hb dX7_add_11 ?_
  refine rc_topl 5310246711 (by decide) ?_
  refine rc_put hx hb hown hAm hw lyX7 tyX7 tyX7_ok nmX7 0 rfl rfl 16 (by decide) qw_876 (fun _ h9 => h9) rfl rfl (by decide +kernel) (Nat.le_of_ble_eq_true rfl) [(h0, .inr (12, [.int 0, .ref h1, .ref h2, .ref h3, .ref h4, .ref h5, .int 1, .int 3, .int 50, .int (-1), .int (-1), .int (-1), .int (-1), .int 0, .int 100, .int 1000, .long 5310246711]))] rfl dX7_add_12 (fun H locs hw => ?_)
  exact rc_vret hx hb hr hlocks hw [(h0, .inr (12, [.int 0, .ref h1, .ref h2, .ref h3, .ref h4, .ref h5, .int 1, .int 3, .int 50, .int (-1), .int (-1), .int (-1), .int (-1), .int 0, .int 100, .int 1000, .long 5310246711]))] (rfl) [0] rfl (by decide) (Nat.le_of_ble_eq_true rfl) (Nat.le_of_ble_eq_true rfl) dX7_add_15
set_option maxHeartbeats 4000000 in
set_option maxRecDepth 100000 in
theorem cw_X7_manyNow_6 (l : Launch) (E : rc_E) (sz : Nat) (h0 : Nat) (h1 : Nat) (h2 : Nat) (h3 : Nat) (h4 : Nat) (h5 : Nat) : rc_Mi l yX7_manyNow [Cond.code yX7_manyNow cX7_manyNow 7 (some FieldType.int)] { frames := 0, cells := 0, slots := 0, locals := 0 } E [.ref h0, .int 4] [(h0, .inr (12, [.int 0, .ref h1, .ref h2, .ref h3, .ref h4, .ref h5, .int 1, .int 3, .int 50, .int (-1), .int (-1), .int (-1), .int (-1), .int 0, .int 100, .int 1000, .long 5310246711]))] sz (S := va_W) (fun (r : Int32) (u : va_W) => (1000 = r ∧ u = [(h0, .inr (12, [.int 0, .ref h1, .ref h2, .ref h3, .ref h4, .ref h5, .int 1, .int 3, .int 50, .int (-1), .int (-1), .int (-1), .int (-1), .int 0, .int 100, .int 1000, .long 5310246711]))])) (fun u => u) 0 0 := by
  refine rc_ini (cc := cX7_manyNow) (maxL := 7) (ret := (some FieldType.int)) (by decide) rfl (Nat.le_of_ble_eq_true rfl) ?_
  intro p e s m args below meth c ls A hx hb hr hml _ hown hlocks hin hA hAm hw hl
  have hown : s.vm.findClass RX7 = some m.cls := hown
  have hl : lv_has ls 7 [(0, .ref h0), (1, .int 4)] := hl
  refine lv_iconst (v := 0) hx hb dX7_manyNow_0 (by decide) ?_
  refine lv_istore_n (lv' := [(2, .int 0), (0, .ref h0), (1, .int 4)]) hx hb dX7_manyNow_1 rfl hl (by decide) rfl (fun ls hl => ?_)
  refine lv_iload_n hx hb dX7_manyNow_2 rfl (lv_at hl 2 rfl) ?_
  refine lv_tableIn (tgt := 120) hx hb dX7_manyNow_3 (by decide) (by decide) rfl (by decide) ?_
  refine lv_aload_n hx hb dX7_manyNow_120 rfl (lv_at hl 1 rfl) ?_
  refine rc_get (v := .int 1000) hx hb hown hAm hw lyX7 0 rfl rfl 15 (by decide) qw_875 (fun _ h9 => h9) rfl dX7_manyNow_121 ?_
  exact rc_iret (v := 1000) hx hb hr hlocks hw [(h0, .inr (12, [.int 0, .ref h1, .ref h2, .ref h3, .ref h4, .ref h5, .int 1, .int 3, .int 50, .int (-1), .int (-1), .int (-1), .int (-1), .int 0, .int 100, .int 1000, .long 5310246711]))] (⟨rfl, rfl⟩) [0] rfl (by decide) (Nat.le_of_ble_eq_true rfl) (Nat.le_of_ble_eq_true rfl) dX7_manyNow_124
set_option maxHeartbeats 4000000 in
set_option maxRecDepth 100000 in
theorem cw_X7_add_5 (l : Launch) (E : rc_E) (sz : Nat) (h0 : Nat) (h1 : Nat) (h2 : Nat) (h3 : Nat) (h4 : Nat) (h5 : Nat) : rc_Mv l yX7_add [Cond.code yX7_add cX7_add 2 (none : Option FieldType)] { frames := 0, cells := 0, slots := 0, locals := 0 } E [.ref h0, .int 1000] [(h0, .inr (12, [.int 0, .ref h1, .ref h2, .ref h3, .ref h4, .ref h5, .int 1, .int 3, .int 50, .int (-1), .int (-1), .int (-1), .int (-1), .int 0, .int 100, .int 1000, .long 5310246711]))] sz (S := va_W) (fun (u : va_W) => (u = [(h0, .inr (12, [.int 0, .ref h1, .ref h2, .ref h3, .ref h4, .ref h5, .int 1, .int 3, .int 50, .int (-1), .int (-1), .int (-1), .int (-1), .int 0, .int 100, .int 1000, .long 164617649041]))])) (fun u => u) 0 0 := by
  refine rc_inv (cc := cX7_add) (maxL := 2) (ret := (none : Option FieldType)) (by decide) rfl (Nat.le_of_ble_eq_true rfl) ?_
  intro p e s m args below meth c ls A hx hb hr hml _ hown hlocks hin hA hAm hw hl
  have hown : s.vm.findClass RX7 = some m.cls := hown
  have hl : lv_has ls 2 [(0, .ref h0), (1, .int 1000)] := hl
  refine lv_aload_n hx hb dX7_add_0 rfl (lv_at hl 0 rfl) ?_
  refine lv_aload_n hx hb dX7_add_1 rfl (lv_at hl 0 rfl) ?_
  refine rc_get (v := .long 5310246711) hx hb hown hAm hw lyX7 0 rfl rfl 16 (by decide) qw_876 (fun _ h9 => h9) rfl dX7_add_2 ?_
  refine lv_ldc2 (v := 31) hx hb hown (hAm.wd qw_1470 rfl rfl) dX7_add_5 ?_
  refine lv_lmul hx hb dX7_add_8 ?_
  refine rc_topl 164617648041 (by decide) ?_
  refine lv_iload_n hx hb dX7_add_9 rfl (lv_at hl 1 rfl) ?_
  refine lv_i2l (v := 1000) hx hb dX7_add_10 (by decide) ?_
  refine lv_ladd hx hb dX7_add_11 ?_
  refine rc_topl 164617649041 (by decide) ?_
  refine rc_put hx hb hown hAm hw lyX7 tyX7 tyX7_ok nmX7 0 rfl rfl 16 (by decide) qw_876 (fun _ h9 => h9) rfl rfl (by decide +kernel) (Nat.le_of_ble_eq_true rfl) [(h0, .inr (12, [.int 0, .ref h1, .ref h2, .ref h3, .ref h4, .ref h5, .int 1, .int 3, .int 50, .int (-1), .int (-1), .int (-1), .int (-1), .int 0, .int 100, .int 1000, .long 164617649041]))] rfl dX7_add_12 (fun H locs hw => ?_)
  exact rc_vret hx hb hr hlocks hw [(h0, .inr (12, [.int 0, .ref h1, .ref h2, .ref h3, .ref h4, .ref h5, .int 1, .int 3, .int 50, .int (-1), .int (-1), .int (-1), .int (-1), .int 0, .int 100, .int 1000, .long 164617649041]))] (rfl) [0] rfl (by decide) (Nat.le_of_ble_eq_true rfl) (Nat.le_of_ble_eq_true rfl) dX7_add_15
set_option maxHeartbeats 4000000 in
set_option maxRecDepth 100000 in
theorem cw_X7_manyNow_7 (l : Launch) (E : rc_E) (sz : Nat) (h0 : Nat) (h1 : Nat) (h2 : Nat) (h3 : Nat) (h4 : Nat) (h5 : Nat) : rc_Mi l yX7_manyNow [Cond.code yX7_manyNow cX7_manyNow 7 (some FieldType.int)] { frames := 0, cells := 0, slots := 0, locals := 0 } E [.ref h0, .int 5] [(h0, .inr (12, [.int 0, .ref h1, .ref h2, .ref h3, .ref h4, .ref h5, .int 1, .int 3, .int 50, .int (-1), .int (-1), .int (-1), .int (-1), .int 0, .int 100, .int 1000, .long 164617649041]))] sz (S := va_W) (fun (r : Int32) (u : va_W) => (100 = r ∧ u = [(h0, .inr (12, [.int 0, .ref h1, .ref h2, .ref h3, .ref h4, .ref h5, .int 1, .int 3, .int 50, .int (-1), .int (-1), .int (-1), .int (-1), .int 0, .int 100, .int 1000, .long 164617649041]))])) (fun u => u) 0 0 := by
  refine rc_ini (cc := cX7_manyNow) (maxL := 7) (ret := (some FieldType.int)) (by decide) rfl (Nat.le_of_ble_eq_true rfl) ?_
  intro p e s m args below meth c ls A hx hb hr hml _ hown hlocks hin hA hAm hw hl
  have hown : s.vm.findClass RX7 = some m.cls := hown
  have hl : lv_has ls 7 [(0, .ref h0), (1, .int 5)] := hl
  refine lv_iconst (v := 0) hx hb dX7_manyNow_0 (by decide) ?_
  refine lv_istore_n (lv' := [(2, .int 0), (0, .ref h0), (1, .int 5)]) hx hb dX7_manyNow_1 rfl hl (by decide) rfl (fun ls hl => ?_)
  refine lv_iload_n hx hb dX7_manyNow_2 rfl (lv_at hl 2 rfl) ?_
  refine lv_tableIn (tgt := 125) hx hb dX7_manyNow_3 (by decide) (by decide) rfl (by decide) ?_
  refine lv_aload_n hx hb dX7_manyNow_125 rfl (lv_at hl 1 rfl) ?_
  refine rc_get (v := .int 100) hx hb hown hAm hw lyX7 0 rfl rfl 14 (by decide) qw_874 (fun _ h9 => h9) rfl dX7_manyNow_126 ?_
  exact rc_iret (v := 100) hx hb hr hlocks hw [(h0, .inr (12, [.int 0, .ref h1, .ref h2, .ref h3, .ref h4, .ref h5, .int 1, .int 3, .int 50, .int (-1), .int (-1), .int (-1), .int (-1), .int 0, .int 100, .int 1000, .long 164617649041]))] (⟨rfl, rfl⟩) [0] rfl (by decide) (Nat.le_of_ble_eq_true rfl) (Nat.le_of_ble_eq_true rfl) dX7_manyNow_129
set_option maxHeartbeats 4000000 in
set_option maxRecDepth 100000 in
theorem cw_X7_add_6 (l : Launch) (E : rc_E) (sz : Nat) (h0 : Nat) (h1 : Nat) (h2 : Nat) (h3 : Nat) (h4 : Nat) (h5 : Nat) : rc_Mv l yX7_add [Cond.code yX7_add cX7_add 2 (none : Option FieldType)] { frames := 0, cells := 0, slots := 0, locals := 0 } E [.ref h0, .int 100] [(h0, .inr (12, [.int 0, .ref h1, .ref h2, .ref h3, .ref h4, .ref h5, .int 1, .int 3, .int 50, .int (-1), .int (-1), .int (-1), .int (-1), .int 0, .int 100, .int 1000, .long 164617649041]))] sz (S := va_W) (fun (u : va_W) => (u = [(h0, .inr (12, [.int 0, .ref h1, .ref h2, .ref h3, .ref h4, .ref h5, .int 1, .int 3, .int 50, .int (-1), .int (-1), .int (-1), .int (-1), .int 0, .int 100, .int 1000, .long 5103147120371]))])) (fun u => u) 0 0 := by
  refine rc_inv (cc := cX7_add) (maxL := 2) (ret := (none : Option FieldType)) (by decide) rfl (Nat.le_of_ble_eq_true rfl) ?_
  intro p e s m args below meth c ls A hx hb hr hml _ hown hlocks hin hA hAm hw hl
  have hown : s.vm.findClass RX7 = some m.cls := hown
  have hl : lv_has ls 2 [(0, .ref h0), (1, .int 100)] := hl
  refine lv_aload_n hx hb dX7_add_0 rfl (lv_at hl 0 rfl) ?_
  refine lv_aload_n hx hb dX7_add_1 rfl (lv_at hl 0 rfl) ?_
  refine rc_get (v := .long 164617649041) hx hb hown hAm hw lyX7 0 rfl rfl 16 (by decide) qw_876 (fun _ h9 => h9) rfl dX7_add_2 ?_
  refine lv_ldc2 (v := 31) hx hb hown (hAm.wd qw_1470 rfl rfl) dX7_add_5 ?_
  refine lv_lmul hx hb dX7_add_8 ?_
  refine rc_topl 5103147120271 (by decide) ?_
  refine lv_iload_n hx hb dX7_add_9 rfl (lv_at hl 1 rfl) ?_
  refine lv_i2l (v := 100) hx hb dX7_add_10 (by decide) ?_
  refine lv_ladd hx hb dX7_add_11 ?_
  refine rc_topl 5103147120371 (by decide) ?_
  refine rc_put hx hb hown hAm hw lyX7 tyX7 tyX7_ok nmX7 0 rfl rfl 16 (by decide) qw_876 (fun _ h9 => h9) rfl rfl (by decide +kernel) (Nat.le_of_ble_eq_true rfl) [(h0, .inr (12, [.int 0, .ref h1, .ref h2, .ref h3, .ref h4, .ref h5, .int 1, .int 3, .int 50, .int (-1), .int (-1), .int (-1), .int (-1), .int 0, .int 100, .int 1000, .long 5103147120371]))] rfl dX7_add_12 (fun H locs hw => ?_)
  exact rc_vret hx hb hr hlocks hw [(h0, .inr (12, [.int 0, .ref h1, .ref h2, .ref h3, .ref h4, .ref h5, .int 1, .int 3, .int 50, .int (-1), .int (-1), .int (-1), .int (-1), .int 0, .int 100, .int 1000, .long 5103147120371]))] (rfl) [0] rfl (by decide) (Nat.le_of_ble_eq_true rfl) (Nat.le_of_ble_eq_true rfl) dX7_add_15
set_option maxHeartbeats 4000000 in
set_option maxRecDepth 100000 in
theorem cw_X7_manyNow_8 (l : Launch) (E : rc_E) (sz : Nat) (h0 : Nat) (h1 : Nat) (h2 : Nat) (h3 : Nat) (h4 : Nat) (h5 : Nat) : rc_Mi l yX7_manyNow [Cond.code yX7_manyNow cX7_manyNow 7 (some FieldType.int)] { frames := 0, cells := 0, slots := 0, locals := 0 } E [.ref h0, .int 6] [(h0, .inr (12, [.int 0, .ref h1, .ref h2, .ref h3, .ref h4, .ref h5, .int 1, .int 3, .int 50, .int (-1), .int (-1), .int (-1), .int (-1), .int 0, .int 100, .int 1000, .long 5103147120371]))] sz (S := va_W) (fun (r : Int32) (u : va_W) => (0 = r ∧ u = [(h0, .inr (12, [.int 0, .ref h1, .ref h2, .ref h3, .ref h4, .ref h5, .int 1, .int 3, .int 50, .int (-1), .int (-1), .int (-1), .int (-1), .int 0, .int 100, .int 1000, .long 5103147120371]))])) (fun u => u) 0 0 := by
  refine rc_ini (cc := cX7_manyNow) (maxL := 7) (ret := (some FieldType.int)) (by decide) rfl (Nat.le_of_ble_eq_true rfl) ?_
  intro p e s m args below meth c ls A hx hb hr hml _ hown hlocks hin hA hAm hw hl
  have hown : s.vm.findClass RX7 = some m.cls := hown
  have hl : lv_has ls 7 [(0, .ref h0), (1, .int 6)] := hl
  refine lv_iconst (v := 0) hx hb dX7_manyNow_0 (by decide) ?_
  refine lv_istore_n (lv' := [(2, .int 0), (0, .ref h0), (1, .int 6)]) hx hb dX7_manyNow_1 rfl hl (by decide) rfl (fun ls hl => ?_)
  refine lv_iload_n hx hb dX7_manyNow_2 rfl (lv_at hl 2 rfl) ?_
  refine lv_tableIn (tgt := 130) hx hb dX7_manyNow_3 (by decide) (by decide) rfl (by decide) ?_
  refine lv_aload_n hx hb dX7_manyNow_130 rfl (lv_at hl 1 rfl) ?_
  refine rc_get (v := .int 0) hx hb hown hAm hw lyX7 0 rfl rfl 13 (by decide) qw_873 (fun _ h9 => h9) rfl dX7_manyNow_131 ?_
  exact rc_iret (v := 0) hx hb hr hlocks hw [(h0, .inr (12, [.int 0, .ref h1, .ref h2, .ref h3, .ref h4, .ref h5, .int 1, .int 3, .int 50, .int (-1), .int (-1), .int (-1), .int (-1), .int 0, .int 100, .int 1000, .long 5103147120371]))] (⟨rfl, rfl⟩) [0] rfl (by decide) (Nat.le_of_ble_eq_true rfl) (Nat.le_of_ble_eq_true rfl) dX7_manyNow_134
set_option maxHeartbeats 4000000 in
set_option maxRecDepth 100000 in
theorem cw_X7_add_7 (l : Launch) (E : rc_E) (sz : Nat) (h0 : Nat) (h1 : Nat) (h2 : Nat) (h3 : Nat) (h4 : Nat) (h5 : Nat) : rc_Mv l yX7_add [Cond.code yX7_add cX7_add 2 (none : Option FieldType)] { frames := 0, cells := 0, slots := 0, locals := 0 } E [.ref h0, .int 0] [(h0, .inr (12, [.int 0, .ref h1, .ref h2, .ref h3, .ref h4, .ref h5, .int 1, .int 3, .int 50, .int (-1), .int (-1), .int (-1), .int (-1), .int 0, .int 100, .int 1000, .long 5103147120371]))] sz (S := va_W) (fun (u : va_W) => (u = [(h0, .inr (12, [.int 0, .ref h1, .ref h2, .ref h3, .ref h4, .ref h5, .int 1, .int 3, .int 50, .int (-1), .int (-1), .int (-1), .int (-1), .int 0, .int 100, .int 1000, .long 158197560731501]))])) (fun u => u) 0 0 := by
  refine rc_inv (cc := cX7_add) (maxL := 2) (ret := (none : Option FieldType)) (by decide) rfl (Nat.le_of_ble_eq_true rfl) ?_
  intro p e s m args below meth c ls A hx hb hr hml _ hown hlocks hin hA hAm hw hl
  have hown : s.vm.findClass RX7 = some m.cls := hown
  have hl : lv_has ls 2 [(0, .ref h0), (1, .int 0)] := hl
  refine lv_aload_n hx hb dX7_add_0 rfl (lv_at hl 0 rfl) ?_
  refine lv_aload_n hx hb dX7_add_1 rfl (lv_at hl 0 rfl) ?_
  refine rc_get (v := .long 5103147120371) hx hb hown hAm hw lyX7 0 rfl rfl 16 (by decide) qw_876 (fun _ h9 => h9) rfl dX7_add_2 ?_
  refine lv_ldc2 (v := 31) hx hb hown (hAm.wd qw_1470 rfl rfl) dX7_add_5 ?_
  refine lv_lmul hx hb dX7_add_8 ?_
  refine rc_topl 158197560731501 (by decide) ?_
  refine lv_iload_n hx hb dX7_add_9 rfl (lv_at hl 1 rfl) ?_
  refine lv_i2l (v := 0) hx hb dX7_add_10 (by decide) ?_
  refine lv_ladd hx hb dX7_add_11 ?_
  refine rc_topl 158197560731501 (by decide) ?_
  refine rc_put hx hb hown hAm hw lyX7 tyX7 tyX7_ok nmX7 0 rfl rfl 16 (by decide) qw_876 (fun _ h9 => h9) rfl rfl (by decide +kernel) (Nat.le_of_ble_eq_true rfl) [(h0, .inr (12, [.int 0, .ref h1, .ref h2, .ref h3, .ref h4, .ref h5, .int 1, .int 3, .int 50, .int (-1), .int (-1), .int (-1), .int (-1), .int 0, .int 100, .int 1000, .long 158197560731501]))] rfl dX7_add_12 (fun H locs hw => ?_)
  exact rc_vret hx hb hr hlocks hw [(h0, .inr (12, [.int 0, .ref h1, .ref h2, .ref h3, .ref h4, .ref h5, .int 1, .int 3, .int 50, .int (-1), .int (-1), .int (-1), .int (-1), .int 0, .int 100, .int 1000, .long 158197560731501]))] (rfl) [0] rfl (by decide) (Nat.le_of_ble_eq_true rfl) (Nat.le_of_ble_eq_true rfl) dX7_add_15
set_option maxHeartbeats 4000000 in
set_option maxRecDepth 100000 in
theorem cw_X7_manyNow_9 (l : Launch) (E : rc_E) (sz : Nat) (h0 : Nat) (h1 : Nat) (h2 : Nat) (h3 : Nat) (h4 : Nat) (h5 : Nat) : rc_Mi l yX7_manyNow [Cond.code yX7_manyNow cX7_manyNow 7 (some FieldType.int)] { frames := 0, cells := 0, slots := 0, locals := 0 } E [.ref h0, .int 7] [(h0, .inr (12, [.int 0, .ref h1, .ref h2, .ref h3, .ref h4, .ref h5, .int 1, .int 3, .int 50, .int (-1), .int (-1), .int (-1), .int (-1), .int 0, .int 100, .int 1000, .long 158197560731501])), (h4, .inl (E.2.1 3, 40, .inl (fun _ => 0)))] sz (S := va_W) (fun (r : Int32) (u : va_W) => (0 = r ∧ u = [(h0, .inr (12, [.int 0, .ref h1, .ref h2, .ref h3, .ref h4, .ref h5, .int 1, .int 3, .int 50, .int (-1), .int (-1), .int (-1), .int (-1), .int 0, .int 100, .int 1000, .long 158197560731501])), (h4, .inl (E.2.1 3, 40, .inl (fun _ => 0)))])) (fun u => u) 0 0 := by
  refine rc_ini (cc := cX7_manyNow) (maxL := 7) (ret := (some FieldType.int)) (by decide) rfl (Nat.le_of_ble_eq_true rfl) ?_
  intro p e s m args below meth c ls A hx hb hr hml _ hown hlocks hin hA hAm hw hl
  have hown : s.vm.findClass RX7 = some m.cls := hown
  have hl : lv_has ls 7 [(0, .ref h0), (1, .int 7)] := hl
  refine lv_iconst (v := 0) hx hb dX7_manyNow_0 (by decide) ?_
  refine lv_istore_n (lv' := [(2, .int 0), (0, .ref h0), (1, .int 7)]) hx hb dX7_manyNow_1 rfl hl (by decide) rfl (fun ls hl => ?_)
  refine lv_iload_n hx hb dX7_manyNow_2 rfl (lv_at hl 2 rfl) ?_
  refine lv_tableIn (tgt := 135) hx hb dX7_manyNow_3 (by decide) (by decide) rfl (by decide) ?_
  refine lv_aload_n hx hb dX7_manyNow_135 rfl (lv_at hl 1 rfl) ?_
  refine rc_get (v := .ref h4) hx hb hown hAm hw lyX7 0 rfl rfl 4 (by decide) qw_864 (fun _ h9 => h9) rfl dX7_manyNow_136 ?_
  refine lv_astore_n (lv' := [(3, .ref h4), (2, .int 0), (0, .ref h0), (1, .int 7)]) hx hb dX7_manyNow_139 rfl hl (by decide) rfl (fun ls hl => ?_)
  refine lv_aload_n hx hb dX7_manyNow_140 rfl (lv_at hl 0 rfl) ?_
  refine rc_alen hx hb hAm hw 1 3 rfl rfl 40 rfl dX7_manyNow_141 ?_
  refine lv_istore (lv' := [(4, .int 40), (3, .ref h4), (2, .int 0), (0, .ref h0), (1, .int 7)]) hx hb dX7_manyNow_142 hl (by decide) rfl (fun ls hl => ?_)
  refine lv_iconst (v := 0) hx hb dX7_manyNow_144 (by decide) ?_
  refine lv_istore (lv' := [(5, .int 0), (4, .int 40), (3, .ref h4), (2, .int 0), (0, .ref h0), (1, .int 7)]) hx hb dX7_manyNow_145 hl (by decide) rfl (fun ls hl => ?_)
  refine lv_iload hx hb dX7_manyNow_147 (lv_at hl 0 rfl) ?_
  refine lv_iload hx hb dX7_manyNow_149 (lv_at hl 1 rfl) ?_
  refine lv_icmp_ge (tgt := 179) hx hb dX7_manyNow_151 (by decide) (fun c9 => absurd c9 (by decide)) (fun _ => ?_)
  refine lv_aload_n hx hb dX7_manyNow_154 rfl (lv_at hl 2 rfl) ?_
  refine lv_iload hx hb dX7_manyNow_155 (lv_at hl 0 rfl) ?_
  refine rc_zald hx hb hAm hw 1 rfl (vp_in_iff.mpr (by decide)) dX7_manyNow_157 ?_
  refine rc_topi 0 rfl ?_
  refine lv_istore (lv' := [(6, .int 0), (5, .int 0), (4, .int 40), (3, .ref h4), (2, .int 0), (0, .ref h0), (1, .int 7)]) hx hb dX7_manyNow_158 hl (by decide) rfl (fun ls hl => ?_)
  refine lv_iload_n hx hb dX7_manyNow_160 rfl (lv_at hl 4 rfl) ?_
  refine lv_iload hx hb dX7_manyNow_161 (lv_at hl 0 rfl) ?_
  refine lv_if_eq (tgt := 170) hx hb dX7_manyNow_163 (by decide) (fun _ => ?_) (fun c9 => absurd (by decide) c9)
  refine lv_iconst (v := 0) hx hb dX7_manyNow_170 (by decide) ?_
  refine lv_iadd hx hb dX7_manyNow_171 ?_
  refine rc_topi 0 (by decide) ?_
  refine lv_istore_n (lv' := [(2, .int 0), (6, .int 0), (5, .int 0), (4, .int 40), (3, .ref h4), (0, .ref h0), (1, .int 7)]) hx hb dX7_manyNow_172 rfl hl (by decide) rfl (fun ls hl => ?_)
  refine lv_iinc (v := 1) (lv' := [(5, .int 1), (2, .int 0), (6, .int 0), (4, .int 40), (3, .ref h4), (0, .ref h0), (1, .int 7)]) hx hb dX7_manyNow_173 hl (k := 2) rfl (by decide) (by decide) rfl (fun ls hl => ?_)
  refine lv_goto (tgt := 147) hx hb dX7_manyNow_176 (by decide) ?_
  refine lv_iload hx hb dX7_manyNow_147 (lv_at hl 0 rfl) ?_
  refine lv_iload hx hb dX7_manyNow_149 (lv_at hl 3 rfl) ?_
  refine lv_icmp_ge (tgt := 179) hx hb dX7_manyNow_151 (by decide) (fun c9 => absurd c9 (by decide)) (fun _ => ?_)
  refine lv_aload_n hx hb dX7_manyNow_154 rfl (lv_at hl 4 rfl) ?_
  refine lv_iload hx hb dX7_manyNow_155 (lv_at hl 0 rfl) ?_
  refine rc_zald hx hb hAm hw 1 rfl (vp_in_iff.mpr (by decide)) dX7_manyNow_157 ?_
  refine rc_topi 0 rfl ?_
  refine lv_istore (lv' := [(6, .int 0), (5, .int 1), (2, .int 0), (4, .int 40), (3, .ref h4), (0, .ref h0), (1, .int 7)]) hx hb dX7_manyNow_158 hl (by decide) rfl (fun ls hl => ?_)
  refine lv_iload_n hx hb dX7_manyNow_160 rfl (lv_at hl 2 rfl) ?_
  refine lv_iload hx hb dX7_manyNow_161 (lv_at hl 0 rfl) ?_
  refine lv_if_eq (tgt := 170) hx hb dX7_manyNow_163 (by decide) (fun _ => ?_) (fun c9 => absurd (by decide) c9)
  refine lv_iconst (v := 0) hx hb dX7_manyNow_170 (by decide) ?_
  refine lv_iadd hx hb dX7_manyNow_171 ?_
  refine rc_topi 0 (by decide) ?_
  refine lv_istore_n (lv' := [(2, .int 0), (6, .int 0), (5, .int 1), (4, .int 40), (3, .ref h4), (0, .ref h0), (1, .int 7)]) hx hb dX7_manyNow_172 rfl hl (by decide) rfl (fun ls hl => ?_)
  refine lv_iinc (v := 2) (lv' := [(5, .int 2), (2, .int 0), (6, .int 0), (4, .int 40), (3, .ref h4), (0, .ref h0), (1, .int 7)]) hx hb dX7_manyNow_173 hl (k := 2) rfl (by decide) (by decide) rfl (fun ls hl => ?_)
  refine lv_goto (tgt := 147) hx hb dX7_manyNow_176 (by decide) ?_
  refine lv_iload hx hb dX7_manyNow_147 (lv_at hl 0 rfl) ?_
  refine lv_iload hx hb dX7_manyNow_149 (lv_at hl 3 rfl) ?_
  refine lv_icmp_ge (tgt := 179) hx hb dX7_manyNow_151 (by decide) (fun c9 => absurd c9 (by decide)) (fun _ => ?_)
  refine lv_aload_n hx hb dX7_manyNow_154 rfl (lv_at hl 4 rfl) ?_
  refine lv_iload hx hb dX7_manyNow_155 (lv_at hl 0 rfl) ?_
  refine rc_zald hx hb hAm hw 1 rfl (vp_in_iff.mpr (by decide)) dX7_manyNow_157 ?_
  refine rc_topi 0 rfl ?_
  refine lv_istore (lv' := [(6, .int 0), (5, .int 2), (2, .int 0), (4, .int 40), (3, .ref h4), (0, .ref h0), (1, .int 7)]) hx hb dX7_manyNow_158 hl (by decide) rfl (fun ls hl => ?_)
  refine lv_iload_n hx hb dX7_manyNow_160 rfl (lv_at hl 2 rfl) ?_
  refine lv_iload hx hb dX7_manyNow_161 (lv_at hl 0 rfl) ?_
  refine lv_if_eq (tgt := 170) hx hb dX7_manyNow_163 (by decide) (fun _ => ?_) (fun c9 => absurd (by decide) c9)
  refine lv_iconst (v := 0) hx hb dX7_manyNow_170 (by decide) ?_
  refine lv_iadd hx hb dX7_manyNow_171 ?_
  refine rc_topi 0 (by decide) ?_
  refine lv_istore_n (lv' := [(2, .int 0), (6, .int 0), (5, .int 2), (4, .int 40), (3, .ref h4), (0, .ref h0), (1, .int 7)]) hx hb dX7_manyNow_172 rfl hl (by decide) rfl (fun ls hl => ?_)
  refine lv_iinc (v := 3) (lv' := [(5, .int 3), (2, .int 0), (6, .int 0), (4, .int 40), (3, .ref h4), (0, .ref h0), (1, .int 7)]) hx hb dX7_manyNow_173 hl (k := 2) rfl (by decide) (by decide) rfl (fun ls hl => ?_)
  refine lv_goto (tgt := 147) hx hb dX7_manyNow_176 (by decide) ?_
  refine lv_iload hx hb dX7_manyNow_147 (lv_at hl 0 rfl) ?_
  refine lv_iload hx hb dX7_manyNow_149 (lv_at hl 3 rfl) ?_
  refine lv_icmp_ge (tgt := 179) hx hb dX7_manyNow_151 (by decide) (fun c9 => absurd c9 (by decide)) (fun _ => ?_)
  refine lv_aload_n hx hb dX7_manyNow_154 rfl (lv_at hl 4 rfl) ?_
  refine lv_iload hx hb dX7_manyNow_155 (lv_at hl 0 rfl) ?_
  refine rc_zald hx hb hAm hw 1 rfl (vp_in_iff.mpr (by decide)) dX7_manyNow_157 ?_
  refine rc_topi 0 rfl ?_
  refine lv_istore (lv' := [(6, .int 0), (5, .int 3), (2, .int 0), (4, .int 40), (3, .ref h4), (0, .ref h0), (1, .int 7)]) hx hb dX7_manyNow_158 hl (by decide) rfl (fun ls hl => ?_)
  refine lv_iload_n hx hb dX7_manyNow_160 rfl (lv_at hl 2 rfl) ?_
  refine lv_iload hx hb dX7_manyNow_161 (lv_at hl 0 rfl) ?_
  refine lv_if_eq (tgt := 170) hx hb dX7_manyNow_163 (by decide) (fun _ => ?_) (fun c9 => absurd (by decide) c9)
  refine lv_iconst (v := 0) hx hb dX7_manyNow_170 (by decide) ?_
  refine lv_iadd hx hb dX7_manyNow_171 ?_
  refine rc_topi 0 (by decide) ?_
  refine lv_istore_n (lv' := [(2, .int 0), (6, .int 0), (5, .int 3), (4, .int 40), (3, .ref h4), (0, .ref h0), (1, .int 7)]) hx hb dX7_manyNow_172 rfl hl (by decide) rfl (fun ls hl => ?_)
  refine lv_iinc (v := 4) (lv' := [(5, .int 4), (2, .int 0), (6, .int 0), (4, .int 40), (3, .ref h4), (0, .ref h0), (1, .int 7)]) hx hb dX7_manyNow_173 hl (k := 2) rfl (by decide) (by decide) rfl (fun ls hl => ?_)
  refine lv_goto (tgt := 147) hx hb dX7_manyNow_176 (by decide) ?_
  refine lv_iload hx hb dX7_manyNow_147 (lv_at hl 0 rfl) ?_
  refine lv_iload hx hb dX7_manyNow_149 (lv_at hl 3 rfl) ?_
  refine lv_icmp_ge (tgt := 179) hx hb dX7_manyNow_151 (by decide) (fun c9 => absurd c9 (by decide)) (fun _ => ?_)
  refine lv_aload_n hx hb dX7_manyNow_154 rfl (lv_at hl 4 rfl) ?_
  refine lv_iload hx hb dX7_manyNow_155 (lv_at hl 0 rfl) ?_
  refine rc_zald hx hb hAm hw 1 rfl (vp_in_iff.mpr (by decide)) dX7_manyNow_157 ?_
  refine rc_topi 0 rfl ?_
  refine lv_istore (lv' := [(6, .int 0), (5, .int 4), (2, .int 0), (4, .int 40), (3, .ref h4), (0, .ref h0), (1, .int 7)]) hx hb dX7_manyNow_158 hl (by decide) rfl (fun ls hl => ?_)
  refine lv_iload_n hx hb dX7_manyNow_160 rfl (lv_at hl 2 rfl) ?_
  refine lv_iload hx hb dX7_manyNow_161 (lv_at hl 0 rfl) ?_
  refine lv_if_eq (tgt := 170) hx hb dX7_manyNow_163 (by decide) (fun _ => ?_) (fun c9 => absurd (by decide) c9)
  refine lv_iconst (v := 0) hx hb dX7_manyNow_170 (by decide) ?_
  refine lv_iadd hx hb dX7_manyNow_171 ?_
  refine rc_topi 0 (by decide) ?_
  refine lv_istore_n (lv' := [(2, .int 0), (6, .int 0), (5, .int 4), (4, .int 40), (3, .ref h4), (0, .ref h0), (1, .int 7)]) hx hb dX7_manyNow_172 rfl hl (by decide) rfl (fun ls hl => ?_)
  refine lv_iinc (v := 5) (lv' := [(5, .int 5), (2, .int 0), (6, .int 0), (4, .int 40), (3, .ref h4), (0, .ref h0), (1, .int 7)]) hx hb dX7_manyNow_173 hl (k := 2) rfl (by decide) (by decide) rfl (fun ls hl => ?_)
  refine lv_goto (tgt := 147) hx hb dX7_manyNow_176 (by decide) ?_
  refine lv_iload hx hb dX7_manyNow_147 (lv_at hl 0 rfl) ?_
  refine lv_iload hx hb dX7_manyNow_149 (lv_at hl 3 rfl) ?_
  refine lv_icmp_ge (tgt := 179) hx hb dX7_manyNow_151 (by decide) (fun c9 => absurd c9 (by decide)) (fun _ => ?_)
  refine lv_aload_n hx hb dX7_manyNow_154 rfl (lv_at hl 4 rfl) ?_
  refine lv_iload hx hb dX7_manyNow_155 (lv_at hl 0 rfl) ?_
  refine rc_zald hx hb hAm hw 1 rfl (vp_in_iff.mpr (by decide)) dX7_manyNow_157 ?_
  refine rc_topi 0 rfl ?_
  refine lv_istore (lv' := [(6, .int 0), (5, .int 5), (2, .int 0), (4, .int 40), (3, .ref h4), (0, .ref h0), (1, .int 7)]) hx hb dX7_manyNow_158 hl (by decide) rfl (fun ls hl => ?_)
  refine lv_iload_n hx hb dX7_manyNow_160 rfl (lv_at hl 2 rfl) ?_
  refine lv_iload hx hb dX7_manyNow_161 (lv_at hl 0 rfl) ?_
  refine lv_if_eq (tgt := 170) hx hb dX7_manyNow_163 (by decide) (fun _ => ?_) (fun c9 => absurd (by decide) c9)
  refine lv_iconst (v := 0) hx hb dX7_manyNow_170 (by decide) ?_
  refine lv_iadd hx hb dX7_manyNow_171 ?_
  refine rc_topi 0 (by decide) ?_
  refine lv_istore_n (lv' := [(2, .int 0), (6, .int 0), (5, .int 5), (4, .int 40), (3, .ref h4), (0, .ref h0), (1, .int 7)]) hx hb dX7_manyNow_172 rfl hl (by decide) rfl (fun ls hl => ?_)
  refine lv_iinc (v := 6) (lv' := [(5, .int 6), (2, .int 0), (6, .int 0), (4, .int 40), (3, .ref h4), (0, .ref h0), (1, .int 7)]) hx hb dX7_manyNow_173 hl (k := 2) rfl (by decide) (by decide) rfl (fun ls hl => ?_)
  refine lv_goto (tgt := 147) hx hb dX7_manyNow_176 (by decide) ?_
  refine lv_iload hx hb dX7_manyNow_147 (lv_at hl 0 rfl) ?_
  refine lv_iload hx hb dX7_manyNow_149 (lv_at hl 3 rfl) ?_
  refine lv_icmp_ge (tgt := 179) hx hb dX7_manyNow_151 (by decide) (fun c9 => absurd c9 (by decide)) (fun _ => ?_)
  refine lv_aload_n hx hb dX7_manyNow_154 rfl (lv_at hl 4 rfl) ?_
  refine lv_iload hx hb dX7_manyNow_155 (lv_at hl 0 rfl) ?_
  refine rc_zald hx hb hAm hw 1 rfl (vp_in_iff.mpr (by decide)) dX7_manyNow_157 ?_
  refine rc_topi 0 rfl ?_
  refine lv_istore (lv' := [(6, .int 0), (5, .int 6), (2, .int 0), (4, .int 40), (3, .ref h4), (0, .ref h0), (1, .int 7)]) hx hb dX7_manyNow_158 hl (by decide) rfl (fun ls hl => ?_)
  refine lv_iload_n hx hb dX7_manyNow_160 rfl (lv_at hl 2 rfl) ?_
  refine lv_iload hx hb dX7_manyNow_161 (lv_at hl 0 rfl) ?_
  refine lv_if_eq (tgt := 170) hx hb dX7_manyNow_163 (by decide) (fun _ => ?_) (fun c9 => absurd (by decide) c9)
  refine lv_iconst (v := 0) hx hb dX7_manyNow_170 (by decide) ?_
  refine lv_iadd hx hb dX7_manyNow_171 ?_
  refine rc_topi 0 (by decide) ?_
  refine lv_istore_n (lv' := [(2, .int 0), (6, .int 0), (5, .int 6), (4, .int 40), (3, .ref h4), (0, .ref h0), (1, .int 7)]) hx hb dX7_manyNow_172 rfl hl (by decide) rfl (fun ls hl => ?_)
  refine lv_iinc (v := 7) (lv' := [(5, .int 7), (2, .int 0), (6, .int 0), (4, .int 40), (3, .ref h4), (0, .ref h0), (1, .int 7)]) hx hb dX7_manyNow_173 hl (k := 2) rfl (by decide) (by decide) rfl (fun ls hl => ?_)
  refine lv_goto (tgt := 147) hx hb dX7_manyNow_176 (by decide) ?_
  refine lv_iload hx hb dX7_manyNow_147 (lv_at hl 0 rfl) ?_
  refine lv_iload hx hb dX7_manyNow_149 (lv_at hl 3 rfl) ?_
  refine lv_icmp_ge (tgt := 179) hx hb dX7_manyNow_151 (by decide) (fun c9 => absurd c9 (by decide)) (fun _ => ?_)
  refine lv_aload_n hx hb dX7_manyNow_154 rfl (lv_at hl 4 rfl) ?_
  refine lv_iload hx hb dX7_manyNow_155 (lv_at hl 0 rfl) ?_
  refine rc_zald hx hb hAm hw 1 rfl (vp_in_iff.mpr (by decide)) dX7_manyNow_157 ?_
  refine rc_topi 0 rfl ?_
  refine lv_istore (lv' := [(6, .int 0), (5, .int 7), (2, .int 0), (4, .int 40), (3, .ref h4), (0, .ref h0), (1, .int 7)]) hx hb dX7_manyNow_158 hl (by decide) rfl (fun ls hl => ?_)
  refine lv_iload_n hx hb dX7_manyNow_160 rfl (lv_at hl 2 rfl) ?_
  refine lv_iload hx hb dX7_manyNow_161 (lv_at hl 0 rfl) ?_
  refine lv_if_eq (tgt := 170) hx hb dX7_manyNow_163 (by decide) (fun _ => ?_) (fun c9 => absurd (by decide) c9)
  refine lv_iconst (v := 0) hx hb dX7_manyNow_170 (by decide) ?_
  refine lv_iadd hx hb dX7_manyNow_171 ?_
  refine rc_topi 0 (by decide) ?_
  refine lv_istore_n (lv' := [(2, .int 0), (6, .int 0), (5, .int 7), (4, .int 40), (3, .ref h4), (0, .ref h0), (1, .int 7)]) hx hb dX7_manyNow_172 rfl hl (by decide) rfl (fun ls hl => ?_)
  refine lv_iinc (v := 8) (lv' := [(5, .int 8), (2, .int 0), (6, .int 0), (4, .int 40), (3, .ref h4), (0, .ref h0), (1, .int 7)]) hx hb dX7_manyNow_173 hl (k := 2) rfl (by decide) (by decide) rfl (fun ls hl => ?_)
  refine lv_goto (tgt := 147) hx hb dX7_manyNow_176 (by decide) ?_
  refine lv_iload hx hb dX7_manyNow_147 (lv_at hl 0 rfl) ?_
  refine lv_iload hx hb dX7_manyNow_149 (lv_at hl 3 rfl) ?_
  refine lv_icmp_ge (tgt := 179) hx hb dX7_manyNow_151 (by decide) (fun c9 => absurd c9 (by decide)) (fun _ => ?_)
  refine lv_aload_n hx hb dX7_manyNow_154 rfl (lv_at hl 4 rfl) ?_
  refine lv_iload hx hb dX7_manyNow_155 (lv_at hl 0 rfl) ?_
  refine rc_zald hx hb hAm hw 1 rfl (vp_in_iff.mpr (by decide)) dX7_manyNow_157 ?_
  refine rc_topi 0 rfl ?_
  refine lv_istore (lv' := [(6, .int 0), (5, .int 8), (2, .int 0), (4, .int 40), (3, .ref h4), (0, .ref h0), (1, .int 7)]) hx hb dX7_manyNow_158 hl (by decide) rfl (fun ls hl => ?_)
  refine lv_iload_n hx hb dX7_manyNow_160 rfl (lv_at hl 2 rfl) ?_
  refine lv_iload hx hb dX7_manyNow_161 (lv_at hl 0 rfl) ?_
  refine lv_if_eq (tgt := 170) hx hb dX7_manyNow_163 (by decide) (fun _ => ?_) (fun c9 => absurd (by decide) c9)
  refine lv_iconst (v := 0) hx hb dX7_manyNow_170 (by decide) ?_
  refine lv_iadd hx hb dX7_manyNow_171 ?_
  refine rc_topi 0 (by decide) ?_
  refine lv_istore_n (lv' := [(2, .int 0), (6, .int 0), (5, .int 8), (4, .int 40), (3, .ref h4), (0, .ref h0), (1, .int 7)]) hx hb dX7_manyNow_172 rfl hl (by decide) rfl (fun ls hl => ?_)
  refine lv_iinc (v := 9) (lv' := [(5, .int 9), (2, .int 0), (6, .int 0), (4, .int 40), (3, .ref h4), (0, .ref h0), (1, .int 7)]) hx hb dX7_manyNow_173 hl (k := 2) rfl (by decide) (by decide) rfl (fun ls hl => ?_)
  refine lv_goto (tgt := 147) hx hb dX7_manyNow_176 (by decide) ?_
  refine lv_iload hx hb dX7_manyNow_147 (lv_at hl 0 rfl) ?_
  refine lv_iload hx hb dX7_manyNow_149 (lv_at hl 3 rfl) ?_
  refine lv_icmp_ge (tgt := 179) hx hb dX7_manyNow_151 (by decide) (fun c9 => absurd c9 (by decide)) (fun _ => ?_)
  refine lv_aload_n hx hb dX7_manyNow_154 rfl (lv_at hl 4 rfl) ?_
  refine lv_iload hx hb dX7_manyNow_155 (lv_at hl 0 rfl) ?_
  refine rc_zald hx hb hAm hw 1 rfl (vp_in_iff.mpr (by decide)) dX7_manyNow_157 ?_
  refine rc_topi 0 rfl ?_
  refine lv_istore (lv' := [(6, .int 0), (5, .int 9), (2, .int 0), (4, .int 40), (3, .ref h4), (0, .ref h0), (1, .int 7)]) hx hb dX7_manyNow_158 hl (by decide) rfl (fun ls hl => ?_)
  refine lv_iload_n hx hb dX7_manyNow_160 rfl (lv_at hl 2 rfl) ?_
  refine lv_iload hx hb dX7_manyNow_161 (lv_at hl 0 rfl) ?_
  refine lv_if_eq (tgt := 170) hx hb dX7_manyNow_163 (by decide) (fun _ => ?_) (fun c9 => absurd (by decide) c9)
  refine lv_iconst (v := 0) hx hb dX7_manyNow_170 (by decide) ?_
  refine lv_iadd hx hb dX7_manyNow_171 ?_
  refine rc_topi 0 (by decide) ?_
  refine lv_istore_n (lv' := [(2, .int 0), (6, .int 0), (5, .int 9), (4, .int 40), (3, .ref h4), (0, .ref h0), (1, .int 7)]) hx hb dX7_manyNow_172 rfl hl (by decide) rfl (fun ls hl => ?_)
  refine lv_iinc (v := 10) (lv' := [(5, .int 10), (2, .int 0), (6, .int 0), (4, .int 40), (3, .ref h4), (0, .ref h0), (1, .int 7)]) hx hb dX7_manyNow_173 hl (k := 2) rfl (by decide) (by decide) rfl (fun ls hl => ?_)
  refine lv_goto (tgt := 147) hx hb dX7_manyNow_176 (by decide) ?_
  refine lv_iload hx hb dX7_manyNow_147 (lv_at hl 0 rfl) ?_
  refine lv_iload hx hb dX7_manyNow_149 (lv_at hl 3 rfl) ?_
  refine lv_icmp_ge (tgt := 179) hx hb dX7_manyNow_151 (by decide) (fun c9 => absurd c9 (by decide)) (fun _ => ?_)
  refine lv_aload_n hx hb dX7_manyNow_154 rfl (lv_at hl 4 rfl) ?_
  refine lv_iload hx hb dX7_manyNow_155 (lv_at hl 0 rfl) ?_
  refine rc_zald hx hb hAm hw 1 rfl (vp_in_iff.mpr (by decide)) dX7_manyNow_157 ?_
  refine rc_topi 0 rfl ?_
  refine lv_istore (lv' := [(6, .int 0), (5, .int 10), (2, .int 0), (4, .int 40), (3, .ref h4), (0, .ref h0), (1, .int 7)]) hx hb dX7_manyNow_158 hl (by decide) rfl (fun ls hl => ?_)
  refine lv_iload_n hx hb dX7_manyNow_160 rfl (lv_at hl 2 rfl) ?_
  refine lv_iload hx hb dX7_manyNow_161 (lv_at hl 0 rfl) ?_
  refine lv_if_eq (tgt := 170) hx hb dX7_manyNow_163 (by decide) (fun _ => ?_) (fun c9 => absurd (by decide) c9)
  refine lv_iconst (v := 0) hx hb dX7_manyNow_170 (by decide) ?_
  refine lv_iadd hx hb dX7_manyNow_171 ?_
  refine rc_topi 0 (by decide) ?_
  refine lv_istore_n (lv' := [(2, .int 0), (6, .int 0), (5, .int 10), (4, .int 40), (3, .ref h4), (0, .ref h0), (1, .int 7)]) hx hb dX7_manyNow_172 rfl hl (by decide) rfl (fun ls hl => ?_)
  refine lv_iinc (v := 11) (lv' := [(5, .int 11), (2, .int 0), (6, .int 0), (4, .int 40), (3, .ref h4), (0, .ref h0), (1, .int 7)]) hx hb dX7_manyNow_173 hl (k := 2) rfl (by decide) (by decide) rfl (fun ls hl => ?_)
  refine lv_goto (tgt := 147) hx hb dX7_manyNow_176 (by decide) ?_
  refine lv_iload hx hb dX7_manyNow_147 (lv_at hl 0 rfl) ?_
  refine lv_iload hx hb dX7_manyNow_149 (lv_at hl 3 rfl) ?_
  refine lv_icmp_ge (tgt := 179) hx hb dX7_manyNow_151 (by decide) (fun c9 => absurd c9 (by decide)) (fun _ => ?_)
  refine lv_aload_n hx hb dX7_manyNow_154 rfl (lv_at hl 4 rfl) ?_
  refine lv_iload hx hb dX7_manyNow_155 (lv_at hl 0 rfl) ?_
  refine rc_zald hx hb hAm hw 1 rfl (vp_in_iff.mpr (by decide)) dX7_manyNow_157 ?_
  refine rc_topi 0 rfl ?_
  refine lv_istore (lv' := [(6, .int 0), (5, .int 11), (2, .int 0), (4, .int 40), (3, .ref h4), (0, .ref h0), (1, .int 7)]) hx hb dX7_manyNow_158 hl (by decide) rfl (fun ls hl => ?_)
  refine lv_iload_n hx hb dX7_manyNow_160 rfl (lv_at hl 2 rfl) ?_
  refine lv_iload hx hb dX7_manyNow_161 (lv_at hl 0 rfl) ?_
  refine lv_if_eq (tgt := 170) hx hb dX7_manyNow_163 (by decide) (fun _ => ?_) (fun c9 => absurd (by decide) c9)
  refine lv_iconst (v := 0) hx hb dX7_manyNow_170 (by decide) ?_
  refine lv_iadd hx hb dX7_manyNow_171 ?_
  refine rc_topi 0 (by decide) ?_
  refine lv_istore_n (lv' := [(2, .int 0), (6, .int 0), (5, .int 11), (4, .int 40), (3, .ref h4), (0, .ref h0), (1, .int 7)]) hx hb dX7_manyNow_172 rfl hl (by decide) rfl (fun ls hl => ?_)
  refine lv_iinc (v := 12) (lv' := [(5, .int 12), (2, .int 0), (6, .int 0), (4, .int 40), (3, .ref h4), (0, .ref h0), (1, .int 7)]) hx hb dX7_manyNow_173 hl (k := 2) rfl (by decide) (by decide) rfl (fun ls hl => ?_)
  refine lv_goto (tgt := 147) hx hb dX7_manyNow_176 (by decide) ?_
  refine lv_iload hx hb dX7_manyNow_147 (lv_at hl 0 rfl) ?_
  refine lv_iload hx hb dX7_manyNow_149 (lv_at hl 3 rfl) ?_
  refine lv_icmp_ge (tgt := 179) hx hb dX7_manyNow_151 (by decide) (fun c9 => absurd c9 (by decide)) (fun _ => ?_)
  refine lv_aload_n hx hb dX7_manyNow_154 rfl (lv_at hl 4 rfl) ?_
  refine lv_iload hx hb dX7_manyNow_155 (lv_at hl 0 rfl) ?_
  refine rc_zald hx hb hAm hw 1 rfl (vp_in_iff.mpr (by decide)) dX7_manyNow_157 ?_
  refine rc_topi 0 rfl ?_
  refine lv_istore (lv' := [(6, .int 0), (5, .int 12), (2, .int 0), (4, .int 40), (3, .ref h4), (0, .ref h0), (1, .int 7)]) hx hb dX7_manyNow_158 hl (by decide) rfl (fun ls hl => ?_)
  refine lv_iload_n hx hb dX7_manyNow_160 rfl (lv_at hl 2 rfl) ?_
  refine lv_iload hx hb dX7_manyNow_161 (lv_at hl 0 rfl) ?_
  refine lv_if_eq (tgt := 170) hx hb dX7_manyNow_163 (by decide) (fun _ => ?_) (fun c9 => absurd (by decide) c9)
  refine lv_iconst (v := 0) hx hb dX7_manyNow_170 (by decide) ?_
  refine lv_iadd hx hb dX7_manyNow_171 ?_
  refine rc_topi 0 (by decide) ?_
  refine lv_istore_n (lv' := [(2, .int 0), (6, .int 0), (5, .int 12), (4, .int 40), (3, .ref h4), (0, .ref h0), (1, .int 7)]) hx hb dX7_manyNow_172 rfl hl (by decide) rfl (fun ls hl => ?_)
  refine lv_iinc (v := 13) (lv' := [(5, .int 13), (2, .int 0), (6, .int 0), (4, .int 40), (3, .ref h4), (0, .ref h0), (1, .int 7)]) hx hb dX7_manyNow_173 hl (k := 2) rfl (by decide) (by decide) rfl (fun ls hl => ?_)
  refine lv_goto (tgt := 147) hx hb dX7_manyNow_176 (by decide) ?_
  refine lv_iload hx hb dX7_manyNow_147 (lv_at hl 0 rfl) ?_
  refine lv_iload hx hb dX7_manyNow_149 (lv_at hl 3 rfl) ?_
  refine lv_icmp_ge (tgt := 179) hx hb dX7_manyNow_151 (by decide) (fun c9 => absurd c9 (by decide)) (fun _ => ?_)
  refine lv_aload_n hx hb dX7_manyNow_154 rfl (lv_at hl 4 rfl) ?_
  refine lv_iload hx hb dX7_manyNow_155 (lv_at hl 0 rfl) ?_
  refine rc_zald hx hb hAm hw 1 rfl (vp_in_iff.mpr (by decide)) dX7_manyNow_157 ?_
  refine rc_topi 0 rfl ?_
  refine lv_istore (lv' := [(6, .int 0), (5, .int 13), (2, .int 0), (4, .int 40), (3, .ref h4), (0, .ref h0), (1, .int 7)]) hx hb dX7_manyNow_158 hl (by decide) rfl (fun ls hl => ?_)
  refine lv_iload_n hx hb dX7_manyNow_160 rfl (lv_at hl 2 rfl) ?_
  refine lv_iload hx hb dX7_manyNow_161 (lv_at hl 0 rfl) ?_
  refine lv_if_eq (tgt := 170) hx hb dX7_manyNow_163 (by decide) (fun _ => ?_) (fun c9 => absurd (by decide) c9)
  refine lv_iconst (v := 0) hx hb dX7_manyNow_170 (by decide) ?_
  refine lv_iadd hx hb dX7_manyNow_171 ?_
  refine rc_topi 0 (by decide) ?_
  refine lv_istore_n (lv' := [(2, .int 0), (6, .int 0), (5, .int 13), (4, .int 40), (3, .ref h4), (0, .ref h0), (1, .int 7)]) hx hb dX7_manyNow_172 rfl hl (by decide) rfl (fun ls hl => ?_)
  refine lv_iinc (v := 14) (lv' := [(5, .int 14), (2, .int 0), (6, .int 0), (4, .int 40), (3, .ref h4), (0, .ref h0), (1, .int 7)]) hx hb dX7_manyNow_173 hl (k := 2) rfl (by decide) (by decide) rfl (fun ls hl => ?_)
  refine lv_goto (tgt := 147) hx hb dX7_manyNow_176 (by decide) ?_
  refine lv_iload hx hb dX7_manyNow_147 (lv_at hl 0 rfl) ?_
  refine lv_iload hx hb dX7_manyNow_149 (lv_at hl 3 rfl) ?_
  refine lv_icmp_ge (tgt := 179) hx hb dX7_manyNow_151 (by decide) (fun c9 => absurd c9 (by decide)) (fun _ => ?_)
  refine lv_aload_n hx hb dX7_manyNow_154 rfl (lv_at hl 4 rfl) ?_
  refine lv_iload hx hb dX7_manyNow_155 (lv_at hl 0 rfl) ?_
  refine rc_zald hx hb hAm hw 1 rfl (vp_in_iff.mpr (by decide)) dX7_manyNow_157 ?_
  refine rc_topi 0 rfl ?_
  refine lv_istore (lv' := [(6, .int 0), (5, .int 14), (2, .int 0), (4, .int 40), (3, .ref h4), (0, .ref h0), (1, .int 7)]) hx hb dX7_manyNow_158 hl (by decide) rfl (fun ls hl => ?_)
  refine lv_iload_n hx hb dX7_manyNow_160 rfl (lv_at hl 2 rfl) ?_
  refine lv_iload hx hb dX7_manyNow_161 (lv_at hl 0 rfl) ?_
  refine lv_if_eq (tgt := 170) hx hb dX7_manyNow_163 (by decide) (fun _ => ?_) (fun c9 => absurd (by decide) c9)
  refine lv_iconst (v := 0) hx hb dX7_manyNow_170 (by decide) ?_
  refine lv_iadd hx hb dX7_manyNow_171 ?_
  refine rc_topi 0 (by decide) ?_
  refine lv_istore_n (lv' := [(2, .int 0), (6, .int 0), (5, .int 14), (4, .int 40), (3, .ref h4), (0, .ref h0), (1, .int 7)]) hx hb dX7_manyNow_172 rfl hl (by decide) rfl (fun ls hl => ?_)
  refine lv_iinc (v := 15) (lv' := [(5, .int 15), (2, .int 0), (6, .int 0), (4, .int 40), (3, .ref h4), (0, .ref h0), (1, .int 7)]) hx hb dX7_manyNow_173 hl (k := 2) rfl (by decide) (by decide) rfl (fun ls hl => ?_)
  refine lv_goto (tgt := 147) hx hb dX7_manyNow_176 (by decide) ?_
  refine lv_iload hx hb dX7_manyNow_147 (lv_at hl 0 rfl) ?_
  refine lv_iload hx hb dX7_manyNow_149 (lv_at hl 3 rfl) ?_
  refine lv_icmp_ge (tgt := 179) hx hb dX7_manyNow_151 (by decide) (fun c9 => absurd c9 (by decide)) (fun _ => ?_)
  refine lv_aload_n hx hb dX7_manyNow_154 rfl (lv_at hl 4 rfl) ?_
  refine lv_iload hx hb dX7_manyNow_155 (lv_at hl 0 rfl) ?_
  refine rc_zald hx hb hAm hw 1 rfl (vp_in_iff.mpr (by decide)) dX7_manyNow_157 ?_
  refine rc_topi 0 rfl ?_
  refine lv_istore (lv' := [(6, .int 0), (5, .int 15), (2, .int 0), (4, .int 40), (3, .ref h4), (0, .ref h0), (1, .int 7)]) hx hb dX7_manyNow_158 hl (by decide) rfl (fun ls hl => ?_)
  refine lv_iload_n hx hb dX7_manyNow_160 rfl (lv_at hl 2 rfl) ?_
  refine lv_iload hx hb dX7_manyNow_161 (lv_at hl 0 rfl) ?_
  refine lv_if_eq (tgt := 170) hx hb dX7_manyNow_163 (by decide) (fun _ => ?_) (fun c9 => absurd (by decide) c9)
  refine lv_iconst (v := 0) hx hb dX7_manyNow_170 (by decide) ?_
  refine lv_iadd hx hb dX7_manyNow_171 ?_
  refine rc_topi 0 (by decide) ?_
  refine lv_istore_n (lv' := [(2, .int 0), (6, .int 0), (5, .int 15), (4, .int 40), (3, .ref h4), (0, .ref h0), (1, .int 7)]) hx hb dX7_manyNow_172 rfl hl (by decide) rfl (fun ls hl => ?_)
  refine lv_iinc (v := 16) (lv' := [(5, .int 16), (2, .int 0), (6, .int 0), (4, .int 40), (3, .ref h4), (0, .ref h0), (1, .int 7)]) hx hb dX7_manyNow_173 hl (k := 2) rfl (by decide) (by decide) rfl (fun ls hl => ?_)
  refine lv_goto (tgt := 147) hx hb dX7_manyNow_176 (by decide) ?_
  refine lv_iload hx hb dX7_manyNow_147 (lv_at hl 0 rfl) ?_
  refine lv_iload hx hb dX7_manyNow_149 (lv_at hl 3 rfl) ?_
  refine lv_icmp_ge (tgt := 179) hx hb dX7_manyNow_151 (by decide) (fun c9 => absurd c9 (by decide)) (fun _ => ?_)
  refine lv_aload_n hx hb dX7_manyNow_154 rfl (lv_at hl 4 rfl) ?_
  refine lv_iload hx hb dX7_manyNow_155 (lv_at hl 0 rfl) ?_
  refine rc_zald hx hb hAm hw 1 rfl (vp_in_iff.mpr (by decide)) dX7_manyNow_157 ?_
  refine rc_topi 0 rfl ?_
  refine lv_istore (lv' := [(6, .int 0), (5, .int 16), (2, .int 0), (4, .int 40), (3, .ref h4), (0, .ref h0), (1, .int 7)]) hx hb dX7_manyNow_158 hl (by decide) rfl (fun ls hl => ?_)
  refine lv_iload_n hx hb dX7_manyNow_160 rfl (lv_at hl 2 rfl) ?_
  refine lv_iload hx hb dX7_manyNow_161 (lv_at hl 0 rfl) ?_
  refine lv_if_eq (tgt := 170) hx hb dX7_manyNow_163 (by decide) (fun _ => ?_) (fun c9 => absurd (by decide) c9)
  refine lv_iconst (v := 0) hx hb dX7_manyNow_170 (by decide) ?_
  refine lv_iadd hx hb dX7_manyNow_171 ?_
  refine rc_topi 0 (by decide) ?_
  refine lv_istore_n (lv' := [(2, .int 0), (6, .int 0), (5, .int 16), (4, .int 40), (3, .ref h4), (0, .ref h0), (1, .int 7)]) hx hb dX7_manyNow_172 rfl hl (by decide) rfl (fun ls hl => ?_)
  refine lv_iinc (v := 17) (lv' := [(5, .int 17), (2, .int 0), (6, .int 0), (4, .int 40), (3, .ref h4), (0, .ref h0), (1, .int 7)]) hx hb dX7_manyNow_173 hl (k := 2) rfl (by decide) (by decide) rfl (fun ls hl => ?_)
  refine lv_goto (tgt := 147) hx hb dX7_manyNow_176 (by decide) ?_
  refine lv_iload hx hb dX7_manyNow_147 (lv_at hl 0 rfl) ?_
  refine lv_iload hx hb dX7_manyNow_149 (lv_at hl 3 rfl) ?_
  refine lv_icmp_ge (tgt := 179) hx hb dX7_manyNow_151 (by decide) (fun c9 => absurd c9 (by decide)) (fun _ => ?_)
  refine lv_aload_n hx hb dX7_manyNow_154 rfl (lv_at hl 4 rfl) ?_
  refine lv_iload hx hb dX7_manyNow_155 (lv_at hl 0 rfl) ?_
  refine rc_zald hx hb hAm hw 1 rfl (vp_in_iff.mpr (by decide)) dX7_manyNow_157 ?_
  refine rc_topi 0 rfl ?_
  refine lv_istore (lv' := [(6, .int 0), (5, .int 17), (2, .int 0), (4, .int 40), (3, .ref h4), (0, .ref h0), (1, .int 7)]) hx hb dX7_manyNow_158 hl (by decide) rfl (fun ls hl => ?_)
  refine lv_iload_n hx hb dX7_manyNow_160 rfl (lv_at hl 2 rfl) ?_
  refine lv_iload hx hb dX7_manyNow_161 (lv_at hl 0 rfl) ?_
  refine lv_if_eq (tgt := 170) hx hb dX7_manyNow_163 (by decide) (fun _ => ?_) (fun c9 => absurd (by decide) c9)
  refine lv_iconst (v := 0) hx hb dX7_manyNow_170 (by decide) ?_
  refine lv_iadd hx hb dX7_manyNow_171 ?_
  refine rc_topi 0 (by decide) ?_
  refine lv_istore_n (lv' := [(2, .int 0), (6, .int 0), (5, .int 17), (4, .int 40), (3, .ref h4), (0, .ref h0), (1, .int 7)]) hx hb dX7_manyNow_172 rfl hl (by decide) rfl (fun ls hl => ?_)
  refine lv_iinc (v := 18) (lv' := [(5, .int 18), (2, .int 0), (6, .int 0), (4, .int 40), (3, .ref h4), (0, .ref h0), (1, .int 7)]) hx hb dX7_manyNow_173 hl (k := 2) rfl (by decide) (by decide) rfl (fun ls hl => ?_)
  refine lv_goto (tgt := 147) hx hb dX7_manyNow_176 (by decide) ?_
  refine lv_iload hx hb dX7_manyNow_147 (lv_at hl 0 rfl) ?_
  refine lv_iload hx hb dX7_manyNow_149 (lv_at hl 3 rfl) ?_
  refine lv_icmp_ge (tgt := 179) hx hb dX7_manyNow_151 (by decide) (fun c9 => absurd c9 (by decide)) (fun _ => ?_)
  refine lv_aload_n hx hb dX7_manyNow_154 rfl (lv_at hl 4 rfl) ?_
  refine lv_iload hx hb dX7_manyNow_155 (lv_at hl 0 rfl) ?_
  refine rc_zald hx hb hAm hw 1 rfl (vp_in_iff.mpr (by decide)) dX7_manyNow_157 ?_
  refine rc_topi 0 rfl ?_
  refine lv_istore (lv' := [(6, .int 0), (5, .int 18), (2, .int 0), (4, .int 40), (3, .ref h4), (0, .ref h0), (1, .int 7)]) hx hb dX7_manyNow_158 hl (by decide) rfl (fun ls hl => ?_)
  refine lv_iload_n hx hb dX7_manyNow_160 rfl (lv_at hl 2 rfl) ?_
  refine lv_iload hx hb dX7_manyNow_161 (lv_at hl 0 rfl) ?_
  refine lv_if_eq (tgt := 170) hx hb dX7_manyNow_163 (by decide) (fun _ => ?_) (fun c9 => absurd (by decide) c9)
  refine lv_iconst (v := 0) hx hb dX7_manyNow_170 (by decide) ?_
  refine lv_iadd hx hb dX7_manyNow_171 ?_
  refine rc_topi 0 (by decide) ?_
  refine lv_istore_n (lv' := [(2, .int 0), (6, .int 0), (5, .int 18), (4, .int 40), (3, .ref h4), (0, .ref h0), (1, .int 7)]) hx hb dX7_manyNow_172 rfl hl (by decide) rfl (fun ls hl => ?_)
  refine lv_iinc (v := 19) (lv' := [(5, .int 19), (2, .int 0), (6, .int 0), (4, .int 40), (3, .ref h4), (0, .ref h0), (1, .int 7)]) hx hb dX7_manyNow_173 hl (k := 2) rfl (by decide) (by decide) rfl (fun ls hl => ?_)
  refine lv_goto (tgt := 147) hx hb dX7_manyNow_176 (by decide) ?_
  refine lv_iload hx hb dX7_manyNow_147 (lv_at hl 0 rfl) ?_
  refine lv_iload hx hb dX7_manyNow_149 (lv_at hl 3 rfl) ?_
  refine lv_icmp_ge (tgt := 179) hx hb dX7_manyNow_151 (by decide) (fun c9 => absurd c9 (by decide)) (fun _ => ?_)
  refine lv_aload_n hx hb dX7_manyNow_154 rfl (lv_at hl 4 rfl) ?_
  refine lv_iload hx hb dX7_manyNow_155 (lv_at hl 0 rfl) ?_
  refine rc_zald hx hb hAm hw 1 rfl (vp_in_iff.mpr (by decide)) dX7_manyNow_157 ?_
  refine rc_topi 0 rfl ?_
  refine lv_istore (lv' := [(6, .int 0), (5, .int 19), (2, .int 0), (4, .int 40), (3, .ref h4), (0, .ref h0), (1, .int 7)]) hx hb dX7_manyNow_158 hl (by decide) rfl (fun ls hl => ?_)
  refine lv_iload_n hx hb dX7_manyNow_160 rfl (lv_at hl 2 rfl) ?_
  refine lv_iload hx hb dX7_manyNow_161 (lv_at hl 0 rfl) ?_
  refine lv_if_eq (tgt := 170) hx hb dX7_manyNow_163 (by decide) (fun _ => ?_) (fun c9 => absurd (by decide) c9)
  refine lv_iconst (v := 0) hx hb dX7_manyNow_170 (by decide) ?_
  refine lv_iadd hx hb dX7_manyNow_171 ?_
  refine rc_topi 0 (by decide) ?_
  refine lv_istore_n (lv' := [(2, .int 0), (6, .int 0), (5, .int 19), (4, .int 40), (3, .ref h4), (0, .ref h0), (1, .int 7)]) hx hb dX7_manyNow_172 rfl hl (by decide) rfl (fun ls hl => ?_)
  refine lv_iinc (v := 20) (lv' := [(5, .int 20), (2, .int 0), (6, .int 0), (4, .int 40), (3, .ref h4), (0, .ref h0), (1, .int 7)]) hx hb dX7_manyNow_173 hl (k := 2) rfl (by decide) (by decide) rfl (fun ls hl => ?_)
  refine lv_goto (tgt := 147) hx hb dX7_manyNow_176 (by decide) ?_
  refine lv_iload hx hb dX7_manyNow_147 (lv_at hl 0 rfl) ?_
  refine lv_iload hx hb dX7_manyNow_149 (lv_at hl 3 rfl) ?_
  refine lv_icmp_ge (tgt := 179) hx hb dX7_manyNow_151 (by decide) (fun c9 => absurd c9 (by decide)) (fun _ => ?_)
  refine lv_aload_n hx hb dX7_manyNow_154 rfl (lv_at hl 4 rfl) ?_
  refine lv_iload hx hb dX7_manyNow_155 (lv_at hl 0 rfl) ?_
  refine rc_zald hx hb hAm hw 1 rfl (vp_in_iff.mpr (by decide)) dX7_manyNow_157 ?_
  refine rc_topi 0 rfl ?_
  refine lv_istore (lv' := [(6, .int 0), (5, .int 20), (2, .int 0), (4, .int 40), (3, .ref h4), (0, .ref h0), (1, .int 7)]) hx hb dX7_manyNow_158 hl (by decide) rfl (fun ls hl => ?_)
  refine lv_iload_n hx hb dX7_manyNow_160 rfl (lv_at hl 2 rfl) ?_
  refine lv_iload hx hb dX7_manyNow_161 (lv_at hl 0 rfl) ?_
  refine lv_if_eq (tgt := 170) hx hb dX7_manyNow_163 (by decide) (fun _ => ?_) (fun c9 => absurd (by decide) c9)
  refine lv_iconst (v := 0) hx hb dX7_manyNow_170 (by decide) ?_
  refine lv_iadd hx hb dX7_manyNow_171 ?_
  refine rc_topi 0 (by decide) ?_
  refine lv_istore_n (lv' := [(2, .int 0), (6, .int 0), (5, .int 20), (4, .int 40), (3, .ref h4), (0, .ref h0), (1, .int 7)]) hx hb dX7_manyNow_172 rfl hl (by decide) rfl (fun ls hl => ?_)
  refine lv_iinc (v := 21) (lv' := [(5, .int 21), (2, .int 0), (6, .int 0), (4, .int 40), (3, .ref h4), (0, .ref h0), (1, .int 7)]) hx hb dX7_manyNow_173 hl (k := 2) rfl (by decide) (by decide) rfl (fun ls hl => ?_)
  refine lv_goto (tgt := 147) hx hb dX7_manyNow_176 (by decide) ?_
  refine lv_iload hx hb dX7_manyNow_147 (lv_at hl 0 rfl) ?_
  refine lv_iload hx hb dX7_manyNow_149 (lv_at hl 3 rfl) ?_
  refine lv_icmp_ge (tgt := 179) hx hb dX7_manyNow_151 (by decide) (fun c9 => absurd c9 (by decide)) (fun _ => ?_)
  refine lv_aload_n hx hb dX7_manyNow_154 rfl (lv_at hl 4 rfl) ?_
  refine lv_iload hx hb dX7_manyNow_155 (lv_at hl 0 rfl) ?_
  refine rc_zald hx hb hAm hw 1 rfl (vp_in_iff.mpr (by decide)) dX7_manyNow_157 ?_
  refine rc_topi 0 rfl ?_
  refine lv_istore (lv' := [(6, .int 0), (5, .int 21), (2, .int 0), (4, .int 40), (3, .ref h4), (0, .ref h0), (1, .int 7)]) hx hb dX7_manyNow_158 hl (by decide) rfl (fun ls hl => ?_)
  refine lv_iload_n hx hb dX7_manyNow_160 rfl (lv_at hl 2 rfl) ?_
  refine lv_iload hx hb dX7_manyNow_161 (lv_at hl 0 rfl) ?_
  refine lv_if_eq (tgt := 170) hx hb dX7_manyNow_163 (by decide) (fun _ => ?_) (fun c9 => absurd (by decide) c9)
  refine lv_iconst (v := 0) hx hb dX7_manyNow_170 (by decide) ?_
  refine lv_iadd hx hb dX7_manyNow_171 ?_
  refine rc_topi 0 (by decide) ?_
  refine lv_istore_n (lv' := [(2, .int 0), (6, .int 0), (5, .int 21), (4, .int 40), (3, .ref h4), (0, .ref h0), (1, .int 7)]) hx hb dX7_manyNow_172 rfl hl (by decide) rfl (fun ls hl => ?_)
  refine lv_iinc (v := 22) (lv' := [(5, .int 22), (2, .int 0), (6, .int 0), (4, .int 40), (3, .ref h4), (0, .ref h0), (1, .int 7)]) hx hb dX7_manyNow_173 hl (k := 2) rfl (by decide) (by decide) rfl (fun ls hl => ?_)
  refine lv_goto (tgt := 147) hx hb dX7_manyNow_176 (by decide) ?_
  refine lv_iload hx hb dX7_manyNow_147 (lv_at hl 0 rfl) ?_
  refine lv_iload hx hb dX7_manyNow_149 (lv_at hl 3 rfl) ?_
  refine lv_icmp_ge (tgt := 179) hx hb dX7_manyNow_151 (by decide) (fun c9 => absurd c9 (by decide)) (fun _ => ?_)
  refine lv_aload_n hx hb dX7_manyNow_154 rfl (lv_at hl 4 rfl) ?_
  refine lv_iload hx hb dX7_manyNow_155 (lv_at hl 0 rfl) ?_
  refine rc_zald hx hb hAm hw 1 rfl (vp_in_iff.mpr (by decide)) dX7_manyNow_157 ?_
  refine rc_topi 0 rfl ?_
  refine lv_istore (lv' := [(6, .int 0), (5, .int 22), (2, .int 0), (4, .int 40), (3, .ref h4), (0, .ref h0), (1, .int 7)]) hx hb dX7_manyNow_158 hl (by decide) rfl (fun ls hl => ?_)
  refine lv_iload_n hx hb dX7_manyNow_160 rfl (lv_at hl 2 rfl) ?_
  refine lv_iload hx hb dX7_manyNow_161 (lv_at hl 0 rfl) ?_
  refine lv_if_eq (tgt := 170) hx hb dX7_manyNow_163 (by decide) (fun _ => ?_) (fun c9 => absurd (by decide) c9)
  refine lv_iconst (v := 0) hx hb dX7_manyNow_170 (by decide) ?_
  refine lv_iadd hx hb dX7_manyNow_171 ?_
  refine rc_topi 0 (by decide) ?_
  refine lv_istore_n (lv' := [(2, .int 0), (6, .int 0), (5, .int 22), (4, .int 40), (3, .ref h4), (0, .ref h0), (1, .int 7)]) hx hb dX7_manyNow_172 rfl hl (by decide) rfl (fun ls hl => ?_)
  refine lv_iinc (v := 23) (lv' := [(5, .int 23), (2, .int 0), (6, .int 0), (4, .int 40), (3, .ref h4), (0, .ref h0), (1, .int 7)]) hx hb dX7_manyNow_173 hl (k := 2) rfl (by decide) (by decide) rfl (fun ls hl => ?_)
  refine lv_goto (tgt := 147) hx hb dX7_manyNow_176 (by decide) ?_
  refine lv_iload hx hb dX7_manyNow_147 (lv_at hl 0 rfl) ?_
  refine lv_iload hx hb dX7_manyNow_149 (lv_at hl 3 rfl) ?_
  refine lv_icmp_ge (tgt := 179) hx hb dX7_manyNow_151 (by decide) (fun c9 => absurd c9 (by decide)) (fun _ => ?_)
  refine lv_aload_n hx hb dX7_manyNow_154 rfl (lv_at hl 4 rfl) ?_
  refine lv_iload hx hb dX7_manyNow_155 (lv_at hl 0 rfl) ?_
  refine rc_zald hx hb hAm hw 1 rfl (vp_in_iff.mpr (by decide)) dX7_manyNow_157 ?_
  refine rc_topi 0 rfl ?_
  refine lv_istore (lv' := [(6, .int 0), (5, .int 23), (2, .int 0), (4, .int 40), (3, .ref h4), (0, .ref h0), (1, .int 7)]) hx hb dX7_manyNow_158 hl (by decide) rfl (fun ls hl => ?_)
  refine lv_iload_n hx hb dX7_manyNow_160 rfl (lv_at hl 2 rfl) ?_
  refine lv_iload hx hb dX7_manyNow_161 (lv_at hl 0 rfl) ?_
  refine lv_if_eq (tgt := 170) hx hb dX7_manyNow_163 (by decide) (fun _ => ?_) (fun c9 => absurd (by decide) c9)
  refine lv_iconst (v := 0) hx hb dX7_manyNow_170 (by decide) ?_
  refine lv_iadd hx hb dX7_manyNow_171 ?_
  refine rc_topi 0 (by decide) ?_
  refine lv_istore_n (lv' := [(2, .int 0), (6, .int 0), (5, .int 23), (4, .int 40), (3, .ref h4), (0, .ref h0), (1, .int 7)]) hx hb dX7_manyNow_172 rfl hl (by decide) rfl (fun ls hl => ?_)
  refine lv_iinc (v := 24) (lv' := [(5, .int 24), (2, .int 0), (6, .int 0), (4, .int 40), (3, .ref h4), (0, .ref h0), (1, .int 7)]) hx hb dX7_manyNow_173 hl (k := 2) rfl (by decide) (by decide) rfl (fun ls hl => ?_)
  refine lv_goto (tgt := 147) hx hb dX7_manyNow_176 (by decide) ?_
  refine lv_iload hx hb dX7_manyNow_147 (lv_at hl 0 rfl) ?_
  refine lv_iload hx hb dX7_manyNow_149 (lv_at hl 3 rfl) ?_
  refine lv_icmp_ge (tgt := 179) hx hb dX7_manyNow_151 (by decide) (fun c9 => absurd c9 (by decide)) (fun _ => ?_)
  refine lv_aload_n hx hb dX7_manyNow_154 rfl (lv_at hl 4 rfl) ?_
  refine lv_iload hx hb dX7_manyNow_155 (lv_at hl 0 rfl) ?_
  refine rc_zald hx hb hAm hw 1 rfl (vp_in_iff.mpr (by decide)) dX7_manyNow_157 ?_
  refine rc_topi 0 rfl ?_
  refine lv_istore (lv' := [(6, .int 0), (5, .int 24), (2, .int 0), (4, .int 40), (3, .ref h4), (0, .ref h0), (1, .int 7)]) hx hb dX7_manyNow_158 hl (by decide) rfl (fun ls hl => ?_)
  refine lv_iload_n hx hb dX7_manyNow_160 rfl (lv_at hl 2 rfl) ?_
  refine lv_iload hx hb dX7_manyNow_161 (lv_at hl 0 rfl) ?_
  refine lv_if_eq (tgt := 170) hx hb dX7_manyNow_163 (by decide) (fun _ => ?_) (fun c9 => absurd (by decide) c9)
  refine lv_iconst (v := 0) hx hb dX7_manyNow_170 (by decide) ?_
  refine lv_iadd hx hb dX7_manyNow_171 ?_
  refine rc_topi 0 (by decide) ?_
  refine lv_istore_n (lv' := [(2, .int 0), (6, .int 0), (5, .int 24), (4, .int 40), (3, .ref h4), (0, .ref h0), (1, .int 7)]) hx hb dX7_manyNow_172 rfl hl (by decide) rfl (fun ls hl => ?_)
  refine lv_iinc (v := 25) (lv' := [(5, .int 25), (2, .int 0), (6, .int 0), (4, .int 40), (3, .ref h4), (0, .ref h0), (1, .int 7)]) hx hb dX7_manyNow_173 hl (k := 2) rfl (by decide) (by decide) rfl (fun ls hl => ?_)
  refine lv_goto (tgt := 147) hx hb dX7_manyNow_176 (by decide) ?_
  refine lv_iload hx hb dX7_manyNow_147 (lv_at hl 0 rfl) ?_
  refine lv_iload hx hb dX7_manyNow_149 (lv_at hl 3 rfl) ?_
  refine lv_icmp_ge (tgt := 179) hx hb dX7_manyNow_151 (by decide) (fun c9 => absurd c9 (by decide)) (fun _ => ?_)
  refine lv_aload_n hx hb dX7_manyNow_154 rfl (lv_at hl 4 rfl) ?_
  refine lv_iload hx hb dX7_manyNow_155 (lv_at hl 0 rfl) ?_
  refine rc_zald hx hb hAm hw 1 rfl (vp_in_iff.mpr (by decide)) dX7_manyNow_157 ?_
  refine rc_topi 0 rfl ?_
  refine lv_istore (lv' := [(6, .int 0), (5, .int 25), (2, .int 0), (4, .int 40), (3, .ref h4), (0, .ref h0), (1, .int 7)]) hx hb dX7_manyNow_158 hl (by decide) rfl (fun ls hl => ?_)
  refine lv_iload_n hx hb dX7_manyNow_160 rfl (lv_at hl 2 rfl) ?_
  refine lv_iload hx hb dX7_manyNow_161 (lv_at hl 0 rfl) ?_
  refine lv_if_eq (tgt := 170) hx hb dX7_manyNow_163 (by decide) (fun _ => ?_) (fun c9 => absurd (by decide) c9)
  refine lv_iconst (v := 0) hx hb dX7_manyNow_170 (by decide) ?_
  refine lv_iadd hx hb dX7_manyNow_171 ?_
  refine rc_topi 0 (by decide) ?_
  refine lv_istore_n (lv' := [(2, .int 0), (6, .int 0), (5, .int 25), (4, .int 40), (3, .ref h4), (0, .ref h0), (1, .int 7)]) hx hb dX7_manyNow_172 rfl hl (by decide) rfl (fun ls hl => ?_)
  refine lv_iinc (v := 26) (lv' := [(5, .int 26), (2, .int 0), (6, .int 0), (4, .int 40), (3, .ref h4), (0, .ref h0), (1, .int 7)]) hx hb dX7_manyNow_173 hl (k := 2) rfl (by decide) (by decide) rfl (fun ls hl => ?_)
  refine lv_goto (tgt := 147) hx hb dX7_manyNow_176 (by decide) ?_
  refine lv_iload hx hb dX7_manyNow_147 (lv_at hl 0 rfl) ?_
  refine lv_iload hx hb dX7_manyNow_149 (lv_at hl 3 rfl) ?_
  refine lv_icmp_ge (tgt := 179) hx hb dX7_manyNow_151 (by decide) (fun c9 => absurd c9 (by decide)) (fun _ => ?_)
  refine lv_aload_n hx hb dX7_manyNow_154 rfl (lv_at hl 4 rfl) ?_
  refine lv_iload hx hb dX7_manyNow_155 (lv_at hl 0 rfl) ?_
  refine rc_zald hx hb hAm hw 1 rfl (vp_in_iff.mpr (by decide)) dX7_manyNow_157 ?_
  refine rc_topi 0 rfl ?_
  refine lv_istore (lv' := [(6, .int 0), (5, .int 26), (2, .int 0), (4, .int 40), (3, .ref h4), (0, .ref h0), (1, .int 7)]) hx hb dX7_manyNow_158 hl (by decide) rfl (fun ls hl => ?_)
  refine lv_iload_n hx hb dX7_manyNow_160 rfl (lv_at hl 2 rfl) ?_
  refine lv_iload hx hb dX7_manyNow_161 (lv_at hl 0 rfl) ?_
  refine lv_if_eq (tgt := 170) hx hb dX7_manyNow_163 (by decide) (fun _ => ?_) (fun c9 => absurd (by decide) c9)
  refine lv_iconst (v := 0) hx hb dX7_manyNow_170 (by decide) ?_
  refine lv_iadd hx hb dX7_manyNow_171 ?_
  refine rc_topi 0 (by decide) ?_
  refine lv_istore_n (lv' := [(2, .int 0), (6, .int 0), (5, .int 26), (4, .int 40), (3, .ref h4), (0, .ref h0), (1, .int 7)]) hx hb dX7_manyNow_172 rfl hl (by decide) rfl (fun ls hl => ?_)
  refine lv_iinc (v := 27) (lv' := [(5, .int 27), (2, .int 0), (6, .int 0), (4, .int 40), (3, .ref h4), (0, .ref h0), (1, .int 7)]) hx hb dX7_manyNow_173 hl (k := 2) rfl (by decide) (by decide) rfl (fun ls hl => ?_)
  refine lv_goto (tgt := 147) hx hb dX7_manyNow_176 (by decide) ?_
  refine lv_iload hx hb dX7_manyNow_147 (lv_at hl 0 rfl) ?_
  refine lv_iload hx hb dX7_manyNow_149 (lv_at hl 3 rfl) ?_
  refine lv_icmp_ge (tgt := 179) hx hb dX7_manyNow_151 (by decide) (fun c9 => absurd c9 (by decide)) (fun _ => ?_)
  refine lv_aload_n hx hb dX7_manyNow_154 rfl (lv_at hl 4 rfl) ?_
  refine lv_iload hx hb dX7_manyNow_155 (lv_at hl 0 rfl) ?_
  refine rc_zald hx hb hAm hw 1 rfl (vp_in_iff.mpr (by decide)) dX7_manyNow_157 ?_
  refine rc_topi 0 rfl ?_
  refine lv_istore (lv' := [(6, .int 0), (5, .int 27), (2, .int 0), (4, .int 40), (3, .ref h4), (0, .ref h0), (1, .int 7)]) hx hb dX7_manyNow_158 hl (by decide) rfl (fun ls hl => ?_)
  refine lv_iload_n hx hb dX7_manyNow_160 rfl (lv_at hl 2 rfl) ?_
  refine lv_iload hx hb dX7_manyNow_161 (lv_at hl 0 rfl) ?_
  refine lv_if_eq (tgt := 170) hx hb dX7_manyNow_163 (by decide) (fun _ => ?_) (fun c9 => absurd (by decide) c9)
  refine lv_iconst (v := 0) hx hb dX7_manyNow_170 (by decide) ?_
  refine lv_iadd hx hb dX7_manyNow_171 ?_
  refine rc_topi 0 (by decide) ?_
  refine lv_istore_n (lv' := [(2, .int 0), (6, .int 0), (5, .int 27), (4, .int 40), (3, .ref h4), (0, .ref h0), (1, .int 7)]) hx hb dX7_manyNow_172 rfl hl (by decide) rfl (fun ls hl => ?_)
  refine lv_iinc (v := 28) (lv' := [(5, .int 28), (2, .int 0), (6, .int 0), (4, .int 40), (3, .ref h4), (0, .ref h0), (1, .int 7)]) hx hb dX7_manyNow_173 hl (k := 2) rfl (by decide) (by decide) rfl (fun ls hl => ?_)
  refine lv_goto (tgt := 147) hx hb dX7_manyNow_176 (by decide) ?_
  refine lv_iload hx hb dX7_manyNow_147 (lv_at hl 0 rfl) ?_
  refine lv_iload hx hb dX7_manyNow_149 (lv_at hl 3 rfl) ?_
  refine lv_icmp_ge (tgt := 179) hx hb dX7_manyNow_151 (by decide) (fun c9 => absurd c9 (by decide)) (fun _ => ?_)
  refine lv_aload_n hx hb dX7_manyNow_154 rfl (lv_at hl 4 rfl) ?_
  refine lv_iload hx hb dX7_manyNow_155 (lv_at hl 0 rfl) ?_
  refine rc_zald hx hb hAm hw 1 rfl (vp_in_iff.mpr (by decide)) dX7_manyNow_157 ?_
  refine rc_topi 0 rfl ?_
  refine lv_istore (lv' := [(6, .int 0), (5, .int 28), (2, .int 0), (4, .int 40), (3, .ref h4), (0, .ref h0), (1, .int 7)]) hx hb dX7_manyNow_158 hl (by decide) rfl (fun ls hl => ?_)
  refine lv_iload_n hx hb dX7_manyNow_160 rfl (lv_at hl 2 rfl) ?_
  refine lv_iload hx hb dX7_manyNow_161 (lv_at hl 0 rfl) ?_
  refine lv_if_eq (tgt := 170) hx hb dX7_manyNow_163 (by decide) (fun _ => ?_) (fun c9 => absurd (by decide) c9)
  refine lv_iconst (v := 0) hx hb dX7_manyNow_170 (by decide) ?_
  refine lv_iadd hx hb dX7_manyNow_171 ?_
  refine rc_topi 0 (by decide) ?_
  refine lv_istore_n (lv' := [(2, .int 0), (6, .int 0), (5, .int 28), (4, .int 40), (3, .ref h4), (0, .ref h0), (1, .int 7)]) hx hb dX7_manyNow_172 rfl hl (by decide) rfl (fun ls hl => ?_)
  refine lv_iinc (v := 29) (lv' := [(5, .int 29), (2, .int 0), (6, .int 0), (4, .int 40), (3, .ref h4), (0, .ref h0), (1, .int 7)]) hx hb dX7_manyNow_173 hl (k := 2) rfl (by decide) (by decide) rfl (fun ls hl => ?_)
  refine lv_goto (tgt := 147) hx hb dX7_manyNow_176 (by decide) ?_
  refine lv_iload hx hb dX7_manyNow_147 (lv_at hl 0 rfl) ?_
  refine lv_iload hx hb dX7_manyNow_149 (lv_at hl 3 rfl) ?_
  refine lv_icmp_ge (tgt := 179) hx hb dX7_manyNow_151 (by decide) (fun c9 => absurd c9 (by decide)) (fun _ => ?_)
  refine lv_aload_n hx hb dX7_manyNow_154 rfl (lv_at hl 4 rfl) ?_
  refine lv_iload hx hb dX7_manyNow_155 (lv_at hl 0 rfl) ?_
  refine rc_zald hx hb hAm hw 1 rfl (vp_in_iff.mpr (by decide)) dX7_manyNow_157 ?_
  refine rc_topi 0 rfl ?_
  refine lv_istore (lv' := [(6, .int 0), (5, .int 29), (2, .int 0), (4, .int 40), (3, .ref h4), (0, .ref h0), (1, .int 7)]) hx hb dX7_manyNow_158 hl (by decide) rfl (fun ls hl => ?_)
  refine lv_iload_n hx hb dX7_manyNow_160 rfl (lv_at hl 2 rfl) ?_
  refine lv_iload hx hb dX7_manyNow_161 (lv_at hl 0 rfl) ?_
  refine lv_if_eq (tgt := 170) hx hb dX7_manyNow_163 (by decide) (fun _ => ?_) (fun c9 => absurd (by decide) c9)
  refine lv_iconst (v := 0) hx hb dX7_manyNow_170 (by decide) ?_
  refine lv_iadd hx hb dX7_manyNow_171 ?_
  refine rc_topi 0 (by decide) ?_
  refine lv_istore_n (lv' := [(2, .int 0), (6, .int 0), (5, .int 29), (4, .int 40), (3, .ref h4), (0, .ref h0), (1, .int 7)]) hx hb dX7_manyNow_172 rfl hl (by decide) rfl (fun ls hl => ?_)
  refine lv_iinc (v := 30) (lv' := [(5, .int 30), (2, .int 0), (6, .int 0), (4, .int 40), (3, .ref h4), (0, .ref h0), (1, .int 7)]) hx hb dX7_manyNow_173 hl (k := 2) rfl (by decide) (by decide) rfl (fun ls hl => ?_)
  refine lv_goto (tgt := 147) hx hb dX7_manyNow_176 (by decide) ?_
  refine lv_iload hx hb dX7_manyNow_147 (lv_at hl 0 rfl) ?_
  refine lv_iload hx hb dX7_manyNow_149 (lv_at hl 3 rfl) ?_
  refine lv_icmp_ge (tgt := 179) hx hb dX7_manyNow_151 (by decide) (fun c9 => absurd c9 (by decide)) (fun _ => ?_)
  refine lv_aload_n hx hb dX7_manyNow_154 rfl (lv_at hl 4 rfl) ?_
  refine lv_iload hx hb dX7_manyNow_155 (lv_at hl 0 rfl) ?_
  refine rc_zald hx hb hAm hw 1 rfl (vp_in_iff.mpr (by decide)) dX7_manyNow_157 ?_
  refine rc_topi 0 rfl ?_
  refine lv_istore (lv' := [(6, .int 0), (5, .int 30), (2, .int 0), (4, .int 40), (3, .ref h4), (0, .ref h0), (1, .int 7)]) hx hb dX7_manyNow_158 hl (by decide) rfl (fun ls hl => ?_)
  refine lv_iload_n hx hb dX7_manyNow_160 rfl (lv_at hl 2 rfl) ?_
  refine lv_iload hx hb dX7_manyNow_161 (lv_at hl 0 rfl) ?_
  refine lv_if_eq (tgt := 170) hx hb dX7_manyNow_163 (by decide) (fun _ => ?_) (fun c9 => absurd (by decide) c9)
  refine lv_iconst (v := 0) hx hb dX7_manyNow_170 (by decide) ?_
  refine lv_iadd hx hb dX7_manyNow_171 ?_
  refine rc_topi 0 (by decide) ?_
  refine lv_istore_n (lv' := [(2, .int 0), (6, .int 0), (5, .int 30), (4, .int 40), (3, .ref h4), (0, .ref h0), (1, .int 7)]) hx hb dX7_manyNow_172 rfl hl (by decide) rfl (fun ls hl => ?_)
  refine lv_iinc (v := 31) (lv' := [(5, .int 31), (2, .int 0), (6, .int 0), (4, .int 40), (3, .ref h4), (0, .ref h0), (1, .int 7)]) hx hb dX7_manyNow_173 hl (k := 2) rfl (by decide) (by decide) rfl (fun ls hl => ?_)
  refine lv_goto (tgt := 147) hx hb dX7_manyNow_176 (by decide) ?_
  refine lv_iload hx hb dX7_manyNow_147 (lv_at hl 0 rfl) ?_
  refine lv_iload hx hb dX7_manyNow_149 (lv_at hl 3 rfl) ?_
  refine lv_icmp_ge (tgt := 179) hx hb dX7_manyNow_151 (by decide) (fun c9 => absurd c9 (by decide)) (fun _ => ?_)
  refine lv_aload_n hx hb dX7_manyNow_154 rfl (lv_at hl 4 rfl) ?_
  refine lv_iload hx hb dX7_manyNow_155 (lv_at hl 0 rfl) ?_
  refine rc_zald hx hb hAm hw 1 rfl (vp_in_iff.mpr (by decide)) dX7_manyNow_157 ?_
  refine rc_topi 0 rfl ?_
  refine lv_istore (lv' := [(6, .int 0), (5, .int 31), (2, .int 0), (4, .int 40), (3, .ref h4), (0, .ref h0), (1, .int 7)]) hx hb dX7_manyNow_158 hl (by decide) rfl (fun ls hl => ?_)
  refine lv_iload_n hx hb dX7_manyNow_160 rfl (lv_at hl 2 rfl) ?_
  refine lv_iload hx hb dX7_manyNow_161 (lv_at hl 0 rfl) ?_
  refine lv_if_eq (tgt := 170) hx hb dX7_manyNow_163 (by decide) (fun _ => ?_) (fun c9 => absurd (by decide) c9)
  refine lv_iconst (v := 0) hx hb dX7_manyNow_170 (by decide) ?_
  refine lv_iadd hx hb dX7_manyNow_171 ?_
  refine rc_topi 0 (by decide) ?_
  refine lv_istore_n (lv' := [(2, .int 0), (6, .int 0), (5, .int 31), (4, .int 40), (3, .ref h4), (0, .ref h0), (1, .int 7)]) hx hb dX7_manyNow_172 rfl hl (by decide) rfl (fun ls hl => ?_)
  refine lv_iinc (v := 32) (lv' := [(5, .int 32), (2, .int 0), (6, .int 0), (4, .int 40), (3, .ref h4), (0, .ref h0), (1, .int 7)]) hx hb dX7_manyNow_173 hl (k := 2) rfl (by decide) (by decide) rfl (fun ls hl => ?_)
  refine lv_goto (tgt := 147) hx hb dX7_manyNow_176 (by decide) ?_
  refine lv_iload hx hb dX7_manyNow_147 (lv_at hl 0 rfl) ?_
  refine lv_iload hx hb dX7_manyNow_149 (lv_at hl 3 rfl) ?_
  refine lv_icmp_ge (tgt := 179) hx hb dX7_manyNow_151 (by decide) (fun c9 => absurd c9 (by decide)) (fun _ => ?_)
  refine lv_aload_n hx hb dX7_manyNow_154 rfl (lv_at hl 4 rfl) ?_
  refine lv_iload hx hb dX7_manyNow_155 (lv_at hl 0 rfl) ?_
  refine rc_zald hx hb hAm hw 1 rfl (vp_in_iff.mpr (by decide)) dX7_manyNow_157 ?_
  refine rc_topi 0 rfl ?_
  refine lv_istore (lv' := [(6, .int 0), (5, .int 32), (2, .int 0), (4, .int 40), (3, .ref h4), (0, .ref h0), (1, .int 7)]) hx hb dX7_manyNow_158 hl (by decide) rfl (fun ls hl => ?_)
  refine lv_iload_n hx hb dX7_manyNow_160 rfl (lv_at hl 2 rfl) ?_
  refine lv_iload hx hb dX7_manyNow_161 (lv_at hl 0 rfl) ?_
  refine lv_if_eq (tgt := 170) hx hb dX7_manyNow_163 (by decide) (fun _ => ?_) (fun c9 => absurd (by decide) c9)
  refine lv_iconst (v := 0) hx hb dX7_manyNow_170 (by decide) ?_
  refine lv_iadd hx hb dX7_manyNow_171 ?_
  refine rc_topi 0 (by decide) ?_
  refine lv_istore_n (lv' := [(2, .int 0), (6, .int 0), (5, .int 32), (4, .int 40), (3, .ref h4), (0, .ref h0), (1, .int 7)]) hx hb dX7_manyNow_172 rfl hl (by decide) rfl (fun ls hl => ?_)
  refine lv_iinc (v := 33) (lv' := [(5, .int 33), (2, .int 0), (6, .int 0), (4, .int 40), (3, .ref h4), (0, .ref h0), (1, .int 7)]) hx hb dX7_manyNow_173 hl (k := 2) rfl (by decide) (by decide) rfl (fun ls hl => ?_)
  refine lv_goto (tgt := 147) hx hb dX7_manyNow_176 (by decide) ?_
  refine lv_iload hx hb dX7_manyNow_147 (lv_at hl 0 rfl) ?_
  refine lv_iload hx hb dX7_manyNow_149 (lv_at hl 3 rfl) ?_
  refine lv_icmp_ge (tgt := 179) hx hb dX7_manyNow_151 (by decide) (fun c9 => absurd c9 (by decide)) (fun _ => ?_)
  refine lv_aload_n hx hb dX7_manyNow_154 rfl (lv_at hl 4 rfl) ?_
  refine lv_iload hx hb dX7_manyNow_155 (lv_at hl 0 rfl) ?_
  refine rc_zald hx hb hAm hw 1 rfl (vp_in_iff.mpr (by decide)) dX7_manyNow_157 ?_
  refine rc_topi 0 rfl ?_
  refine lv_istore (lv' := [(6, .int 0), (5, .int 33), (2, .int 0), (4, .int 40), (3, .ref h4), (0, .ref h0), (1, .int 7)]) hx hb dX7_manyNow_158 hl (by decide) rfl (fun ls hl => ?_)
  refine lv_iload_n hx hb dX7_manyNow_160 rfl (lv_at hl 2 rfl) ?_
  refine lv_iload hx hb dX7_manyNow_161 (lv_at hl 0 rfl) ?_
  refine lv_if_eq (tgt := 170) hx hb dX7_manyNow_163 (by decide) (fun _ => ?_) (fun c9 => absurd (by decide) c9)
  refine lv_iconst (v := 0) hx hb dX7_manyNow_170 (by decide) ?_
  refine lv_iadd hx hb dX7_manyNow_171 ?_
  refine rc_topi 0 (by decide) ?_
  refine lv_istore_n (lv' := [(2, .int 0), (6, .int 0), (5, .int 33), (4, .int 40), (3, .ref h4), (0, .ref h0), (1, .int 7)]) hx hb dX7_manyNow_172 rfl hl (by decide) rfl (fun ls hl => ?_)
  refine lv_iinc (v := 34) (lv' := [(5, .int 34), (2, .int 0), (6, .int 0), (4, .int 40), (3, .ref h4), (0, .ref h0), (1, .int 7)]) hx hb dX7_manyNow_173 hl (k := 2) rfl (by decide) (by decide) rfl (fun ls hl => ?_)
  refine lv_goto (tgt := 147) hx hb dX7_manyNow_176 (by decide) ?_
  refine lv_iload hx hb dX7_manyNow_147 (lv_at hl 0 rfl) ?_
  refine lv_iload hx hb dX7_manyNow_149 (lv_at hl 3 rfl) ?_
  refine lv_icmp_ge (tgt := 179) hx hb dX7_manyNow_151 (by decide) (fun c9 => absurd c9 (by decide)) (fun _ => ?_)
  refine lv_aload_n hx hb dX7_manyNow_154 rfl (lv_at hl 4 rfl) ?_
  refine lv_iload hx hb dX7_manyNow_155 (lv_at hl 0 rfl) ?_
  refine rc_zald hx hb hAm hw 1 rfl (vp_in_iff.mpr (by decide)) dX7_manyNow_157 ?_
  refine rc_topi 0 rfl ?_
  refine lv_istore (lv' := [(6, .int 0), (5, .int 34), (2, .int 0), (4, .int 40), (3, .ref h4), (0, .ref h0), (1, .int 7)]) hx hb dX7_manyNow_158 hl (by decide) rfl (fun ls hl => ?_)
  refine lv_iload_n hx hb dX7_manyNow_160 rfl (lv_at hl 2 rfl) ?_
  refine lv_iload hx hb dX7_manyNow_161 (lv_at hl 0 rfl) ?_
  refine lv_if_eq (tgt := 170) hx hb dX7_manyNow_163 (by decide) (fun _ => ?_) (fun c9 => absurd (by decide) c9)
  refine lv_iconst (v := 0) hx hb dX7_manyNow_170 (by decide) ?_
  refine lv_iadd hx hb dX7_manyNow_171 ?_
  refine rc_topi 0 (by decide) ?_
  refine lv_istore_n (lv' := [(2, .int 0), (6, .int 0), (5, .int 34), (4, .int 40), (3, .ref h4), (0, .ref h0), (1, .int 7)]) hx hb dX7_manyNow_172 rfl hl (by decide) rfl (fun ls hl => ?_)
  refine lv_iinc (v := 35) (lv' := [(5, .int 35), (2, .int 0), (6, .int 0), (4, .int 40), (3, .ref h4), (0, .ref h0), (1, .int 7)]) hx hb dX7_manyNow_173 hl (k := 2) rfl (by decide) (by decide) rfl (fun ls hl => ?_)
  refine lv_goto (tgt := 147) hx hb dX7_manyNow_176 (by decide) ?_
  refine lv_iload hx hb dX7_manyNow_147 (lv_at hl 0 rfl) ?_
  refine lv_iload hx hb dX7_manyNow_149 (lv_at hl 3 rfl) ?_
  refine lv_icmp_ge (tgt := 179) hx hb dX7_manyNow_151 (by decide) (fun c9 => absurd c9 (by decide)) (fun _ => ?_)
  refine lv_aload_n hx hb dX7_manyNow_154 rfl (lv_at hl 4 rfl) ?_
  refine lv_iload hx hb dX7_manyNow_155 (lv_at hl 0 rfl) ?_
  refine rc_zald hx hb hAm hw 1 rfl (vp_in_iff.mpr (by decide)) dX7_manyNow_157 ?_
  refine rc_topi 0 rfl ?_
  refine lv_istore (lv' := [(6, .int 0), (5, .int 35), (2, .int 0), (4, .int 40), (3, .ref h4), (0, .ref h0), (1, .int 7)]) hx hb dX7_manyNow_158 hl (by decide) rfl (fun ls hl => ?_)
  refine lv_iload_n hx hb dX7_manyNow_160 rfl (lv_at hl 2 rfl) ?_
  refine lv_iload hx hb dX7_manyNow_161 (lv_at hl 0 rfl) ?_
  refine lv_if_eq (tgt := 170) hx hb dX7_manyNow_163 (by decide) (fun _ => ?_) (fun c9 => absurd (by decide) c9)
  refine lv_iconst (v := 0) hx hb dX7_manyNow_170 (by decide) ?_
  refine lv_iadd hx hb dX7_manyNow_171 ?_
  refine rc_topi 0 (by decide) ?_
  refine lv_istore_n (lv' := [(2, .int 0), (6, .int 0), (5, .int 35), (4, .int 40), (3, .ref h4), (0, .ref h0), (1, .int 7)]) hx hb dX7_manyNow_172 rfl hl (by decide) rfl (fun ls hl => ?_)
  refine lv_iinc (v := 36) (lv' := [(5, .int 36), (2, .int 0), (6, .int 0), (4, .int 40), (3, .ref h4), (0, .ref h0), (1, .int 7)]) hx hb dX7_manyNow_173 hl (k := 2) rfl (by decide) (by decide) rfl (fun ls hl => ?_)
  refine lv_goto (tgt := 147) hx hb dX7_manyNow_176 (by decide) ?_
  refine lv_iload hx hb dX7_manyNow_147 (lv_at hl 0 rfl) ?_
  refine lv_iload hx hb dX7_manyNow_149 (lv_at hl 3 rfl) ?_
  refine lv_icmp_ge (tgt := 179) hx hb dX7_manyNow_151 (by decide) (fun c9 => absurd c9 (by decide)) (fun _ => ?_)
  refine lv_aload_n hx hb dX7_manyNow_154 rfl (lv_at hl 4 rfl) ?_
  refine lv_iload hx hb dX7_manyNow_155 (lv_at hl 0 rfl) ?_
  refine rc_zald hx hb hAm hw 1 rfl (vp_in_iff.mpr (by decide)) dX7_manyNow_157 ?_
  refine rc_topi 0 rfl ?_
  refine lv_istore (lv' := [(6, .int 0), (5, .int 36), (2, .int 0), (4, .int 40), (3, .ref h4), (0, .ref h0), (1, .int 7)]) hx hb dX7_manyNow_158 hl (by decide) rfl (fun ls hl => ?_)
  refine lv_iload_n hx hb dX7_manyNow_160 rfl (lv_at hl 2 rfl) ?_
  refine lv_iload hx hb dX7_manyNow_161 (lv_at hl 0 rfl) ?_
  refine lv_if_eq (tgt := 170) hx hb dX7_manyNow_163 (by decide) (fun _ => ?_) (fun c9 => absurd (by decide) c9)
  refine lv_iconst (v := 0) hx hb dX7_manyNow_170 (by decide) ?_
  refine lv_iadd hx hb dX7_manyNow_171 ?_
  refine rc_topi 0 (by decide) ?_
  refine lv_istore_n (lv' := [(2, .int 0), (6, .int 0), (5, .int 36), (4, .int 40), (3, .ref h4), (0, .ref h0), (1, .int 7)]) hx hb dX7_manyNow_172 rfl hl (by decide) rfl (fun ls hl => ?_)
  refine lv_iinc (v := 37) (lv' := [(5, .int 37), (2, .int 0), (6, .int 0), (4, .int 40), (3, .ref h4), (0, .ref h0), (1, .int 7)]) hx hb dX7_manyNow_173 hl (k := 2) rfl (by decide) (by decide) rfl (fun ls hl => ?_)
  refine lv_goto (tgt := 147) hx hb dX7_manyNow_176 (by decide) ?_
  refine lv_iload hx hb dX7_manyNow_147 (lv_at hl 0 rfl) ?_
  refine lv_iload hx hb dX7_manyNow_149 (lv_at hl 3 rfl) ?_
  refine lv_icmp_ge (tgt := 179) hx hb dX7_manyNow_151 (by decide) (fun c9 => absurd c9 (by decide)) (fun _ => ?_)
  refine lv_aload_n hx hb dX7_manyNow_154 rfl (lv_at hl 4 rfl) ?_
  refine lv_iload hx hb dX7_manyNow_155 (lv_at hl 0 rfl) ?_
  refine rc_zald hx hb hAm hw 1 rfl (vp_in_iff.mpr (by decide)) dX7_manyNow_157 ?_
  refine rc_topi 0 rfl ?_
  refine lv_istore (lv' := [(6, .int 0), (5, .int 37), (2, .int 0), (4, .int 40), (3, .ref h4), (0, .ref h0), (1, .int 7)]) hx hb dX7_manyNow_158 hl (by decide) rfl (fun ls hl => ?_)
  refine lv_iload_n hx hb dX7_manyNow_160 rfl (lv_at hl 2 rfl) ?_
  refine lv_iload hx hb dX7_manyNow_161 (lv_at hl 0 rfl) ?_
  refine lv_if_eq (tgt := 170) hx hb dX7_manyNow_163 (by decide) (fun _ => ?_) (fun c9 => absurd (by decide) c9)
  refine lv_iconst (v := 0) hx hb dX7_manyNow_170 (by decide) ?_
  refine lv_iadd hx hb dX7_manyNow_171 ?_
  refine rc_topi 0 (by decide) ?_
  refine lv_istore_n (lv' := [(2, .int 0), (6, .int 0), (5, .int 37), (4, .int 40), (3, .ref h4), (0, .ref h0), (1, .int 7)]) hx hb dX7_manyNow_172 rfl hl (by decide) rfl (fun ls hl => ?_)
  refine lv_iinc (v := 38) (lv' := [(5, .int 38), (2, .int 0), (6, .int 0), (4, .int 40), (3, .ref h4), (0, .ref h0), (1, .int 7)]) hx hb dX7_manyNow_173 hl (k := 2) rfl (by decide) (by decide) rfl (fun ls hl => ?_)
  refine lv_goto (tgt := 147) hx hb dX7_manyNow_176 (by decide) ?_
  refine lv_iload hx hb dX7_manyNow_147 (lv_at hl 0 rfl) ?_
  refine lv_iload hx hb dX7_manyNow_149 (lv_at hl 3 rfl) ?_
  refine lv_icmp_ge (tgt := 179) hx hb dX7_manyNow_151 (by decide) (fun c9 => absurd c9 (by decide)) (fun _ => ?_)
  refine lv_aload_n hx hb dX7_manyNow_154 rfl (lv_at hl 4 rfl) ?_
  refine lv_iload hx hb dX7_manyNow_155 (lv_at hl 0 rfl) ?_
  refine rc_zald hx hb hAm hw 1 rfl (vp_in_iff.mpr (by decide)) dX7_manyNow_157 ?_
  refine rc_topi 0 rfl ?_
  refine lv_istore (lv' := [(6, .int 0), (5, .int 38), (2, .int 0), (4, .int 40), (3, .ref h4), (0, .ref h0), (1, .int 7)]) hx hb dX7_manyNow_158 hl (by decide) rfl (fun ls hl => ?_)
  refine lv_iload_n hx hb dX7_manyNow_160 rfl (lv_at hl 2 rfl) ?_
  refine lv_iload hx hb dX7_manyNow_161 (lv_at hl 0 rfl) ?_
  refine lv_if_eq (tgt := 170) hx hb dX7_manyNow_163 (by decide) (fun _ => ?_) (fun c9 => absurd (by decide) c9)
  refine lv_iconst (v := 0) hx hb dX7_manyNow_170 (by decide) ?_
  refine lv_iadd hx hb dX7_manyNow_171 ?_
  refine rc_topi 0 (by decide) ?_
  refine lv_istore_n (lv' := [(2, .int 0), (6, .int 0), (5, .int 38), (4, .int 40), (3, .ref h4), (0, .ref h0), (1, .int 7)]) hx hb dX7_manyNow_172 rfl hl (by decide) rfl (fun ls hl => ?_)
  refine lv_iinc (v := 39) (lv' := [(5, .int 39), (2, .int 0), (6, .int 0), (4, .int 40), (3, .ref h4), (0, .ref h0), (1, .int 7)]) hx hb dX7_manyNow_173 hl (k := 2) rfl (by decide) (by decide) rfl (fun ls hl => ?_)
  refine lv_goto (tgt := 147) hx hb dX7_manyNow_176 (by decide) ?_
  refine lv_iload hx hb dX7_manyNow_147 (lv_at hl 0 rfl) ?_
  refine lv_iload hx hb dX7_manyNow_149 (lv_at hl 3 rfl) ?_
  refine lv_icmp_ge (tgt := 179) hx hb dX7_manyNow_151 (by decide) (fun c9 => absurd c9 (by decide)) (fun _ => ?_)
  refine lv_aload_n hx hb dX7_manyNow_154 rfl (lv_at hl 4 rfl) ?_
  refine lv_iload hx hb dX7_manyNow_155 (lv_at hl 0 rfl) ?_
  refine rc_zald hx hb hAm hw 1 rfl (vp_in_iff.mpr (by decide)) dX7_manyNow_157 ?_
  refine rc_topi 0 rfl ?_
  refine lv_istore (lv' := [(6, .int 0), (5, .int 39), (2, .int 0), (4, .int 40), (3, .ref h4), (0, .ref h0), (1, .int 7)]) hx hb dX7_manyNow_158 hl (by decide) rfl (fun ls hl => ?_)
  refine lv_iload_n hx hb dX7_manyNow_160 rfl (lv_at hl 2 rfl) ?_
  refine lv_iload hx hb dX7_manyNow_161 (lv_at hl 0 rfl) ?_
  refine lv_if_eq (tgt := 170) hx hb dX7_manyNow_163 (by decide) (fun _ => ?_) (fun c9 => absurd (by decide) c9)
  refine lv_iconst (v := 0) hx hb dX7_manyNow_170 (by decide) ?_
  refine lv_iadd hx hb dX7_manyNow_171 ?_
  refine rc_topi 0 (by decide) ?_
  refine lv_istore_n (lv' := [(2, .int 0), (6, .int 0), (5, .int 39), (4, .int 40), (3, .ref h4), (0, .ref h0), (1, .int 7)]) hx hb dX7_manyNow_172 rfl hl (by decide) rfl (fun ls hl => ?_)
  refine lv_iinc (v := 40) (lv' := [(5, .int 40), (2, .int 0), (6, .int 0), (4, .int 40), (3, .ref h4), (0, .ref h0), (1, .int 7)]) hx hb dX7_manyNow_173 hl (k := 2) rfl (by decide) (by decide) rfl (fun ls hl => ?_)
  refine lv_goto (tgt := 147) hx hb dX7_manyNow_176 (by decide) ?_
  refine lv_iload hx hb dX7_manyNow_147 (lv_at hl 0 rfl) ?_
  refine lv_iload hx hb dX7_manyNow_149 (lv_at hl 3 rfl) ?_
  refine lv_icmp_ge (tgt := 179) hx hb dX7_manyNow_151 (by decide) (fun _ => ?_) (fun c9 => absurd (by decide) c9)
  refine lv_iload_n hx hb dX7_manyNow_179 rfl (lv_at hl 1 rfl) ?_
  exact rc_iret (v := 0) hx hb hr hlocks hw [(h0, .inr (12, [.int 0, .ref h1, .ref h2, .ref h3, .ref h4, .ref h5, .int 1, .int 3, .int 50, .int (-1), .int (-1), .int (-1), .int (-1), .int 0, .int 100, .int 1000, .long 158197560731501])), (h4, .inl (E.2.1 3, 40, .inl (fun _ => 0)))] (⟨rfl, rfl⟩) [0, 1] rfl (by decide) (Nat.le_of_ble_eq_true rfl) (Nat.le_of_ble_eq_true rfl) dX7_manyNow_180
set_option maxHeartbeats 4000000 in
set_option maxRecDepth 100000 in
theorem cw_X7_add_8 (l : Launch) (E : rc_E) (sz : Nat) (h0 : Nat) (h1 : Nat) (h2 : Nat) (h3 : Nat) (h4 : Nat) (h5 : Nat) : rc_Mv l yX7_add [Cond.code yX7_add cX7_add 2 (none : Option FieldType)] { frames := 0, cells := 0, slots := 0, locals := 0 } E [.ref h0, .int 0] [(h0, .inr (12, [.int 0, .ref h1, .ref h2, .ref h3, .ref h4, .ref h5, .int 1, .int 3, .int 50, .int (-1), .int (-1), .int (-1), .int (-1), .int 0, .int 100, .int 1000, .long 158197560731501]))] sz (S := va_W) (fun (u : va_W) => (u = [(h0, .inr (12, [.int 0, .ref h1, .ref h2, .ref h3, .ref h4, .ref h5, .int 1, .int 3, .int 50, .int (-1), .int (-1), .int (-1), .int (-1), .int 0, .int 100, .int 1000, .long 4904124382676531]))])) (fun u => u) 0 0 := by
  refine rc_inv (cc := cX7_add) (maxL := 2) (ret := (none : Option FieldType)) (by decide) rfl (Nat.le_of_ble_eq_true rfl) ?_
  intro p e s m args below meth c ls A hx hb hr hml _ hown hlocks hin hA hAm hw hl
  have hown : s.vm.findClass RX7 = some m.cls := hown
  have hl : lv_has ls 2 [(0, .ref h0), (1, .int 0)] := hl
  refine lv_aload_n hx hb dX7_add_0 rfl (lv_at hl 0 rfl) ?_
  refine lv_aload_n hx hb dX7_add_1 rfl (lv_at hl 0 rfl) ?_
  refine rc_get (v := .long 158197560731501) hx hb hown hAm hw lyX7 0 rfl rfl 16 (by decide) qw_876 (fun _ h9 => h9) rfl dX7_add_2 ?_
  refine lv_ldc2 (v := 31) hx hb hown (hAm.wd qw_1470 rfl rfl) dX7_add_5 ?_
  refine lv_lmul hx hb dX7_add_8 ?_
  refine rc_topl 4904124382676531 (by decide) ?_
  refine lv_iload_n hx hb dX7_add_9 rfl (lv_at hl 1 rfl) ?_
  refine lv_i2l (v := 0) hx hb dX7_add_10 (by decide) ?_
  refine lv_ladd hx hb dX7_add_11 ?_
  refine rc_topl 4904124382676531 (by decide) ?_
  refine rc_put hx hb hown hAm hw lyX7 tyX7 tyX7_ok nmX7 0 rfl rfl 16 (by decide) qw_876 (fun _ h9 => h9) rfl rfl (by decide +kernel) (Nat.le_of_ble_eq_true rfl) [(h0, .inr (12, [.int 0, .ref h1, .ref h2, .ref h3, .ref h4, .ref h5, .int 1, .int 3, .int 50, .int (-1), .int (-1), .int (-1), .int (-1), .int 0, .int 100, .int 1000, .long 4904124382676531]))] rfl dX7_add_12 (fun H locs hw => ?_)
  exact rc_vret hx hb hr hlocks hw [(h0, .inr (12, [.int 0, .ref h1, .ref h2, .ref h3, .ref h4, .ref h5, .int 1, .int 3, .int 50, .int (-1), .int (-1), .int (-1), .int (-1), .int 0, .int 100, .int 1000, .long 4904124382676531]))] (rfl) [0] rfl (by decide) (Nat.le_of_ble_eq_true rfl) (Nat.le_of_ble_eq_true rfl) dX7_add_15
set_option maxHeartbeats 4000000 in
set_option maxRecDepth 100000 in
theorem cw_X7_manyNow_10 (l : Launch) (E : rc_E) (sz : Nat) (h0 : Nat) (h1 : Nat) (h2 : Nat) (h3 : Nat) (h4 : Nat) (h5 : Nat) : rc_Mi l yX7_manyNow [Cond.code yX7_manyNow cX7_manyNow 7 (some FieldType.int)] { frames := 1, cells := 0, slots := 0, locals := 20 } E [.ref h0, .int 8] [(h0, .inr (12, [.int 0, .ref h1, .ref h2, .ref h3, .ref h4, .ref h5, .int 1, .int 3, .int 50, .int (-1), .int (-1), .int (-1), .int (-1), .int 0, .int 100, .int 1000, .long 4904124382676531])), (h2, .inr (4, [.int 0, .ref (E.2.2 0), .int 0]))] sz (S := va_W) (fun (r : Int32) (u : va_W) => (0 = r ∧ u = [(h0, .inr (12, [.int 0, .ref h1, .ref h2, .ref h3, .ref h4, .ref h5, .int 1, .int 3, .int 50, .int (-1), .int (-1), .int (-1), .int (-1), .int 0, .int 100, .int 1000, .long 4904124382676531])), (h2, .inr (4, [.int 0, .ref (E.2.2 0), .int 0]))])) (fun u => u) 0 0 := by
  refine rc_ini (cc := cX7_manyNow) (maxL := 7) (ret := (some FieldType.int)) (by decide) rfl (Nat.le_of_ble_eq_true rfl) ?_
  intro p e s m args below meth c ls A hx hb hr hml _ hown hlocks hin hA hAm hw hl
  have hown : s.vm.findClass RX7 = some m.cls := hown
  have hl : lv_has ls 7 [(0, .ref h0), (1, .int 8)] := hl
  refine lv_iconst (v := 0) hx hb dX7_manyNow_0 (by decide) ?_
  refine lv_istore_n (lv' := [(2, .int 0), (0, .ref h0), (1, .int 8)]) hx hb dX7_manyNow_1 rfl hl (by decide) rfl (fun ls hl => ?_)
  refine lv_iload_n hx hb dX7_manyNow_2 rfl (lv_at hl 2 rfl) ?_
  refine lv_tableOut (tgt := 181) hx hb dX7_manyNow_3 (by decide) (by decide) ?_
  refine lv_iconst (v := 0) hx hb dX7_manyNow_181 (by decide) ?_
  refine lv_istore_n (lv' := [(3, .int 0), (2, .int 0), (0, .ref h0), (1, .int 8)]) hx hb dX7_manyNow_182 rfl hl (by decide) rfl (fun ls hl => ?_)
  refine lv_iload_n hx hb dX7_manyNow_183 rfl (lv_at hl 0 rfl) ?_
  refine lv_aload_n hx hb dX7_manyNow_184 rfl (lv_at hl 2 rfl) ?_
  refine rc_get (v := .ref h2) hx hb hown hAm hw lyX7 0 rfl rfl 2 (by decide) qw_862 (fun _ h9 => h9) rfl dX7_manyNow_185 ?_
  refine rc_calli (wr := [(h0, .inr (12, [.int 0, .ref h1, .ref h2, .ref h3, .ref h4, .ref h5, .int 1, .int 3, .int 50, .int (-1), .int (-1), .int (-1), .int (-1), .int 0, .int 100, .int 1000, .long 4904124382676531]))]) (va_runV (As := []) (rest := [.int 0]) (Ts := []) ⟨hx, hb, hml, hown, fun _ h9 => absurd h9 List.not_mem_nil⟩ (cw_Jx4a65c_size_8abf5 l E _ h2) (rc_cwV hAm qw_928 qw_4 qw_289 qw_287 qw_288 rfl rfl hd_Jx4a65c_size_8abf5 ⟨Nat.le_of_ble_eq_true rfl, Nat.le_of_ble_eq_true rfl⟩) (rc_preV hAm hA hw [1] rfl rfl 1 rfl (q := vwCl[4]) rfl) rfl rfl hl.1 rfl (lv_room (Nat.le_of_ble_eq_true rfl)) dX7_manyNow_188 ⟨Nat.le_of_ble_eq_true rfl, Nat.le_of_ble_eq_true rfl⟩) hA hw [1] [0] rfl rfl rfl (by decide) (fun r_1 u_2 H locs hp hw => ?_)
  obtain ⟨rfl, rfl⟩ := hp
  have hw : rc_W E A s [(h0, .inr (12, [.int 0, .ref h1, .ref h2, .ref h3, .ref h4, .ref h5, .int 1, .int 3, .int 50, .int (-1), .int (-1), .int (-1), .int (-1), .int 0, .int 100, .int 1000, .long 4904124382676531])), (h2, .inr (4, [.int 0, .ref (E.2.2 0), .int 0]))] H locs := hw
  refine lv_icmp_ge (tgt := 216) hx hb dX7_manyNow_191 (by decide) (fun _ => ?_) (fun c9 => absurd (by decide) c9)
  refine lv_iload_n hx hb dX7_manyNow_216 rfl (lv_at hl 1 rfl) ?_
  exact rc_iret (v := 0) hx hb hr hlocks hw [(h0, .inr (12, [.int 0, .ref h1, .ref h2, .ref h3, .ref h4, .ref h5, .int 1, .int 3, .int 50, .int (-1), .int (-1), .int (-1), .int (-1), .int 0, .int 100, .int 1000, .long 4904124382676531])), (h2, .inr (4, [.int 0, .ref (E.2.2 0), .int 0]))] (⟨rfl, rfl⟩) [0, 1] rfl (by decide) (Nat.le_of_ble_eq_true rfl) (Nat.le_of_ble_eq_true rfl) dX7_manyNow_217
set_option maxHeartbeats 4000000 in
set_option maxRecDepth 100000 in
theorem cw_X7_add_9 (l : Launch) (E : rc_E) (sz : Nat) (h0 : Nat) (h1 : Nat) (h2 : Nat) (h3 : Nat) (h4 : Nat) (h5 : Nat) : rc_Mv l yX7_add [Cond.code yX7_add cX7_add 2 (none : Option FieldType)] { frames := 0, cells := 0, slots := 0, locals := 0 } E [.ref h0, .int 0] [(h0, .inr (12, [.int 0, .ref h1, .ref h2, .ref h3, .ref h4, .ref h5, .int 1, .int 3, .int 50, .int (-1), .int (-1), .int (-1), .int (-1), .int 0, .int 100, .int 1000, .long 4904124382676531]))] sz (S := va_W) (fun (u : va_W) => (u = [(h0, .inr (12, [.int 0, .ref h1, .ref h2, .ref h3, .ref h4, .ref h5, .int 1, .int 3, .int 50, .int (-1), .int (-1), .int (-1), .int (-1), .int 0, .int 100, .int 1000, .long 152027855862972461]))])) (fun u => u) 0 0 := by
  refine rc_inv (cc := cX7_add) (maxL := 2) (ret := (none : Option FieldType)) (by decide) rfl (Nat.le_of_ble_eq_true rfl) ?_
  intro p e s m args below meth c ls A hx hb hr hml _ hown hlocks hin hA hAm hw hl
  have hown : s.vm.findClass RX7 = some m.cls := hown
  have hl : lv_has ls 2 [(0, .ref h0), (1, .int 0)] := hl
  refine lv_aload_n hx hb dX7_add_0 rfl (lv_at hl 0 rfl) ?_
  refine lv_aload_n hx hb dX7_add_1 rfl (lv_at hl 0 rfl) ?_
  refine rc_get (v := .long 4904124382676531) hx hb hown hAm hw lyX7 0 rfl rfl 16 (by decide) qw_876 (fun _ h9 => h9) rfl dX7_add_2 ?_
  refine lv_ldc2 (v := 31) hx hb hown (hAm.wd qw_1470 rfl rfl) dX7_add_5 ?_
  refine lv_lmul hx hb dX7_add_8 ?_
  refine rc_topl 152027855862972461 (by decide) ?_
  refine lv_iload_n hx hb dX7_add_9 rfl (lv_at hl 1 rfl) ?_
  refine lv_i2l (v := 0) hx hb dX7_add_10 (by decide) ?_
  refine lv_ladd hx hb dX7_add_11 ?_
  refine rc_topl 152027855862972461 (by decide) ?_
  refine rc_put hx hb hown hAm hw lyX7 tyX7 tyX7_ok nmX7 0 rfl rfl 16 (by decide) qw_876 (fun _ h9 => h9) rfl rfl (by decide +kernel) (Nat.le_of_ble_eq_true rfl) [(h0, .inr (12, [.int 0, .ref h1, .ref h2, .ref h3, .ref h4, .ref h5, .int 1, .int 3, .int 50, .int (-1), .int (-1), .int (-1), .int (-1), .int 0, .int 100, .int 1000, .long 152027855862972461]))] rfl dX7_add_12 (fun H locs hw => ?_)
  exact rc_vret hx hb hr hlocks hw [(h0, .inr (12, [.int 0, .ref h1, .ref h2, .ref h3, .ref h4, .ref h5, .int 1, .int 3, .int 50, .int (-1), .int (-1), .int (-1), .int (-1), .int 0, .int 100, .int 1000, .long 152027855862972461]))] (rfl) [0] rfl (by decide) (Nat.le_of_ble_eq_true rfl) (Nat.le_of_ble_eq_true rfl) dX7_add_15
set_option maxHeartbeats 4000000 in
set_option maxRecDepth 100000 in
theorem cw_X7_sample_2 (l : Launch) (E : rc_E) (sz : Nat) (h0 : Nat) (h1 : Nat) (h2 : Nat) (h3 : Nat) (h4 : Nat) (h5 : Nat) : rc_Mr l yX7_sample [Cond.code yX7_sample cX7_sample 6 (some (FieldType.array FieldType.int))] { frames := 3, cells := 2, slots := 6, locals := 86 } E [.ref h0, .int 0, .int (-1)] [(h0, .inr (12, [.int 0, .ref h1, .ref h2, .ref h3, .ref h4, .ref h5, .int 1, .int 3, .int 50, .int (-1), .int (-1), .int (-1), .int (-1), .int 0, .int 100, .int 1000, .long 152027855862972461])), (h3, .inr (4, [.int 0, .ref (E.2.2 0), .int 0]))] sz (S := va_W) (fun (u : va_W) (r : Nat) => (∃ q2 : Nat, q2 = r ∧ u = [(h0, .inr (12, [.int 0, .ref h1, .ref h2, .ref h3, .ref h4, .ref h5, .int 1, .int 3, .int 50, .int (-1), .int (-1), .int (-1), .int (-1), .int 0, .int 100, .int 1000, .long 152027855862972461])), (h3, .inr (4, [.int 0, .ref (E.2.2 0), .int 0])), (q2, .inl (E.2.1 0, 0, .inl (va_cpy (fun _ => 0) (fun _ => 0) 6 0 0)))])) (fun u => u) 2 6 := by
  refine rc_inr (cc := cX7_sample) (maxL := 6) (ret := (some (FieldType.array FieldType.int))) (by decide) rfl (Nat.le_of_ble_eq_true rfl) ?_
  intro p e s m args below meth c ls A hx hb hr hml _ hown hlocks hin hA hAm hw hl
  have hown : s.vm.findClass RX7 = some m.cls := hown
  have hl : lv_has ls 6 [(0, .ref h0), (1, .int 0), (2, .int (-1))] := hl
  refine lv_bipush (v := 6) hx hb dX7_sample_0 (by decide) ?_
  refine rc_inew hx hb hAm hA hw qw_108 6 (by decide) (by decide) (Nat.le_of_ble_eq_true rfl) (Nat.le_of_ble_eq_true rfl) (Nat.le_of_ble_eq_true rfl) dX7_sample_2 (fun q1 H hw => ?_)
  have hw : rc_W E A s [(h0, .inr (12, [.int 0, .ref h1, .ref h2, .ref h3, .ref h4, .ref h5, .int 1, .int 3, .int 50, .int (-1), .int (-1), .int (-1), .int (-1), .int 0, .int 100, .int 1000, .long 152027855862972461])), (h3, .inr (4, [.int 0, .ref (E.2.2 0), .int 0])), (q1, .inl (E.2.1 0, 6, .inl (fun _ => 0)))] H _ := hw
  refine lv_astore_n (lv' := [(3, .ref q1), (0, .ref h0), (1, .int 0), (2, .int (-1))]) hx hb dX7_sample_4 rfl hl (by decide) rfl (fun ls hl => ?_)
  refine lv_iconst (v := 0) hx hb dX7_sample_5 (by decide) ?_
  refine lv_istore (lv' := [(4, .int 0), (3, .ref q1), (0, .ref h0), (1, .int 0), (2, .int (-1))]) hx hb dX7_sample_6 hl (by decide) rfl (fun ls hl => ?_)
  refine lv_aload_n hx hb dX7_sample_8 rfl (lv_at hl 2 rfl) ?_
  refine rc_get (v := .ref h3) hx hb hown hAm hw lyX7 0 rfl rfl 3 (by decide) qw_863 (fun _ h9 => h9) rfl dX7_sample_9 ?_
  refine rc_calli (wr := [(h0, .inr (12, [.int 0, .ref h1, .ref h2, .ref h3, .ref h4, .ref h5, .int 1, .int 3, .int 50, .int (-1), .int (-1), .int (-1), .int (-1), .int 0, .int 100, .int 1000, .long 152027855862972461])), (q1, .inl (E.2.1 0, 6, .inl (fun _ => 0)))]) (va_runV (As := []) (rest := []) (Ts := []) ⟨hx, hb, hml, hown, fun _ h9 => absurd h9 List.not_mem_nil⟩ (cw_Jx4a65c_size_8abf5 l E _ h3) (rc_cwV hAm qw_928 qw_4 qw_289 qw_287 qw_288 rfl rfl hd_Jx4a65c_size_8abf5 ⟨Nat.le_of_ble_eq_true rfl, Nat.le_of_ble_eq_true rfl⟩) (rc_preV hAm hA hw [1] rfl rfl 1 rfl (q := vwCl[4]) rfl) rfl rfl hl.1 rfl (lv_room (Nat.le_of_ble_eq_true rfl)) dX7_sample_12 ⟨Nat.le_of_ble_eq_true rfl, Nat.le_of_ble_eq_true rfl⟩) hA hw [1] [0, 2] rfl rfl rfl (by decide) (fun r_1 u_2 H locs hp hw => ?_)
  obtain ⟨rfl, rfl⟩ := hp
  have hw : rc_W E A s [(h0, .inr (12, [.int 0, .ref h1, .ref h2, .ref h3, .ref h4, .ref h5, .int 1, .int 3, .int 50, .int (-1), .int (-1), .int (-1), .int (-1), .int 0, .int 100, .int 1000, .long 152027855862972461])), (q1, .inl (E.2.1 0, 6, .inl (fun _ => 0))), (h3, .inr (4, [.int 0, .ref (E.2.2 0), .int 0]))] H locs := hw
  refine lv_iconst (v := 1) hx hb dX7_sample_15 (by decide) ?_
  refine lv_isub hx hb dX7_sample_16 ?_
  refine rc_topi (-1) (by decide) ?_
  refine lv_istore (lv' := [(5, .int (-1)), (4, .int 0), (3, .ref q1), (0, .ref h0), (1, .int 0), (2, .int (-1))]) hx hb dX7_sample_17 hl (by decide) rfl (fun ls hl => ?_)
  refine lv_iload hx hb dX7_sample_19 (lv_at hl 0 rfl) ?_
  refine lv_if_lt (tgt := 102) hx hb dX7_sample_21 (by decide) (fun _ => ?_) (fun c9 => absurd (by decide) c9)
  refine lv_aload_n hx hb dX7_sample_102 rfl (lv_at hl 2 rfl) ?_
  refine lv_bipush (v := 6) hx hb dX7_sample_103 (by decide) ?_
  refine lv_iload hx hb dX7_sample_105 (lv_at hl 1 rfl) ?_
  refine lv_isub hx hb dX7_sample_107 ?_
  refine rc_topi 6 (by decide) ?_
  refine lv_bipush (v := 6) hx hb dX7_sample_108 (by decide) ?_
  refine rc_callr (wr := [(h0, .inr (12, [.int 0, .ref h1, .ref h2, .ref h3, .ref h4, .ref h5, .int 1, .int 3, .int 50, .int (-1), .int (-1), .int (-1), .int (-1), .int 0, .int 100, .int 1000, .long 152027855862972461])), (h3, .inr (4, [.int 0, .ref (E.2.2 0), .int 0]))]) (va_runS (As := [.ref q1, .int 6, .int 6]) (rest := []) (Ts := []) ⟨hx, hb, hml, hown, fun _ h9 => absurd h9 List.not_mem_nil⟩ (cw_J7_copyOfRange_feecc l E _ q1) (rc_cwS hAm qw_992 qw_11 qw_994 qw_993 rfl rfl hd_J7_copyOfRange_feecc ⟨Nat.le_of_ble_eq_true rfl, Nat.le_of_ble_eq_true rfl⟩) (rc_preS hAm hA hw [1] rfl rfl) rfl rfl hl.1 rfl (lv_room (Nat.le_of_ble_eq_true rfl)) dX7_sample_110 ⟨Nat.le_of_ble_eq_true rfl, Nat.le_of_ble_eq_true rfl⟩) hA hw [1] [0, 2] rfl rfl rfl (by decide) (fun u_4 r_3 H locs hp hw => ?_)
  obtain ⟨q2, rfl, rfl⟩ := hp
  have hw : rc_W E A s [(h0, .inr (12, [.int 0, .ref h1, .ref h2, .ref h3, .ref h4, .ref h5, .int 1, .int 3, .int 50, .int (-1), .int (-1), .int (-1), .int (-1), .int 0, .int 100, .int 1000, .long 152027855862972461])), (h3, .inr (4, [.int 0, .ref (E.2.2 0), .int 0])), (q1, .inl (E.2.1 0, 6, .inl (fun _ => 0))), (q2, .inl (E.2.1 0, 0, .inl (va_cpy (fun _ => 0) (fun _ => 0) 6 0 0)))] H locs := hw
  exact rc_aret (v := q2) hx hb hr (by first | exact Or.inl ⟨_, rfl⟩ | exact Or.inr ⟨_, rfl⟩) hlocks hw [(h0, .inr (12, [.int 0, .ref h1, .ref h2, .ref h3, .ref h4, .ref h5, .int 1, .int 3, .int 50, .int (-1), .int (-1), .int (-1), .int (-1), .int 0, .int 100, .int 1000, .long 152027855862972461])), (h3, .inr (4, [.int 0, .ref (E.2.2 0), .int 0])), (q2, .inl (E.2.1 0, 0, .inl (va_cpy (fun _ => 0) (fun _ => 0) 6 0 0)))] (⟨q2, rfl, rfl⟩) [0, 1, 3] rfl (by decide) (Nat.le_of_ble_eq_true rfl) (Nat.le_of_ble_eq_true rfl) dX7_sample_113
set_option maxHeartbeats 4000000 in
set_option maxRecDepth 100000 in
theorem cw_X7_sample__2 (l : Launch) (E : rc_E) (sz : Nat) (h0 : Nat) (h1 : Nat) (h2 : Nat) (h3 : Nat) (h4 : Nat) (h5 : Nat) : rc_Mr l yX7_sample_ [Cond.code yX7_sample_ cX7_sample_ 2 (some (FieldType.array FieldType.int))] { frames := 4, cells := 2, slots := 6, locals := 111 } E [.ref h0, .int 0] [(h0, .inr (12, [.int 0, .ref h1, .ref h2, .ref h3, .ref h4, .ref h5, .int 1, .int 3, .int 50, .int (-1), .int (-1), .int (-1), .int (-1), .int 0, .int 100, .int 1000, .long 152027855862972461])), (h3, .inr (4, [.int 0, .ref (E.2.2 0), .int 0]))] sz (S := va_W) (fun (u : va_W) (r : Nat) => (∃ q1 : Nat, q1 = r ∧ u = [(h0, .inr (12, [.int 0, .ref h1, .ref h2, .ref h3, .ref h4, .ref h5, .int 1, .int 3, .int 50, .int (-1), .int (-1), .int (-1), .int (-1), .int 0, .int 100, .int 1000, .long 152027855862972461])), (h3, .inr (4, [.int 0, .ref (E.2.2 0), .int 0])), (q1, .inl (E.2.1 0, 0, .inl (va_cpy (fun _ => 0) (fun _ => 0) 6 0 0)))])) (fun u => u) 2 6 := by
  refine rc_inr (cc := cX7_sample_) (maxL := 2) (ret := (some (FieldType.array FieldType.int))) (by decide) rfl (Nat.le_of_ble_eq_true rfl) ?_
  intro p e s m args below meth c ls A hx hb hr hml _ hown hlocks hin hA hAm hw hl
  have hown : s.vm.findClass RX7 = some m.cls := hown
  have hl : lv_has ls 2 [(0, .ref h0), (1, .int 0)] := hl
  refine lv_aload_n hx hb dX7_sample__0 rfl (lv_at hl 0 rfl) ?_
  refine lv_iload_n hx hb dX7_sample__1 rfl (lv_at hl 1 rfl) ?_
  refine lv_iconst (v := (-1)) hx hb dX7_sample__2 (by decide) ?_
  refine rc_callr (wr := []) (va_runV (As := [.int 0, .int (-1)]) (rest := []) (Ts := []) ⟨hx, hb, hml, hown, fun _ h9 => absurd h9 List.not_mem_nil⟩ (cw_X7_sample_2 l E _ h0 h1 h2 h3 h4 h5) (rc_cwV hAm qw_971 qw_13 qw_974 qw_973 qs_55 rfl rfl hd_X7_sample ⟨Nat.le_of_ble_eq_true rfl, Nat.le_of_ble_eq_true rfl⟩) (rc_preV hAm hA hw [0, 1] rfl rfl 0 rfl (q := vwCl[12]) rfl) rfl rfl hl.1 rfl (lv_room (Nat.le_of_ble_eq_true rfl)) dX7_sample__3 ⟨Nat.le_of_ble_eq_true rfl, Nat.le_of_ble_eq_true rfl⟩) hA hw [0, 1] [] rfl rfl rfl (by decide) (fun u_2 r_1 H locs hp hw => ?_)
  obtain ⟨q1, rfl, rfl⟩ := hp
  have hw : rc_W E A s [(h0, .inr (12, [.int 0, .ref h1, .ref h2, .ref h3, .ref h4, .ref h5, .int 1, .int 3, .int 50, .int (-1), .int (-1), .int (-1), .int (-1), .int 0, .int 100, .int 1000, .long 152027855862972461])), (h3, .inr (4, [.int 0, .ref (E.2.2 0), .int 0])), (q1, .inl (E.2.1 0, 0, .inl (va_cpy (fun _ => 0) (fun _ => 0) 6 0 0)))] H locs := hw
  exact rc_aret (v := q1) hx hb hr (by first | exact Or.inl ⟨_, rfl⟩ | exact Or.inr ⟨_, rfl⟩) hlocks hw [(h0, .inr (12, [.int 0, .ref h1, .ref h2, .ref h3, .ref h4, .ref h5, .int 1, .int 3, .int 50, .int (-1), .int (-1), .int (-1), .int (-1), .int 0, .int 100, .int 1000, .long 152027855862972461])), (h3, .inr (4, [.int 0, .ref (E.2.2 0), .int 0])), (q1, .inl (E.2.1 0, 0, .inl (va_cpy (fun _ => 0) (fun _ => 0) 6 0 0)))] (⟨q1, rfl, rfl⟩) [0, 1, 2] rfl (by decide) (Nat.le_of_ble_eq_true rfl) (Nat.le_of_ble_eq_true rfl) dX7_sample__6
set_option maxHeartbeats 4000000 in
set_option maxRecDepth 100000 in
theorem cw_X7_ofChangeNow_2 (l : Launch) (E : rc_E) (sz : Nat) (h0 : Nat) (h1 : Nat) (h2 : Nat) (h3 : Nat) (h4 : Nat) (h5 : Nat) : rc_Mi l yX7_ofChangeNow [Cond.code yX7_ofChangeNow cX7_ofChangeNow 6 (some FieldType.int)] { frames := 5, cells := 3, slots := 10, locals := 132 } E [.ref h0, .int 0, .int 0] [(h0, .inr (12, [.int 0, .ref h1, .ref h2, .ref h3, .ref h4, .ref h5, .int 1, .int 3, .int 50, .int (-1), .int (-1), .int (-1), .int (-1), .int 0, .int 100, .int 1000, .long 152027855862972461])), (h3, .inr (4, [.int 0, .ref (E.2.2 0), .int 0]))] sz (S := va_W) (fun (r : Int32) (u : va_W) => (0 = r ∧ u = [(h0, .inr (12, [.int 0, .ref h1, .ref h2, .ref h3, .ref h4, .ref h5, .int 1, .int 3, .int 50, .int (-1), .int (-1), .int (-1), .int (-1), .int 0, .int 100, .int 1000, .long 152027855862972461])), (h3, .inr (4, [.int 0, .ref (E.2.2 0), .int 0]))])) (fun u => u) 3 10 := by
  refine rc_ini (cc := cX7_ofChangeNow) (maxL := 6) (ret := (some FieldType.int)) (by decide) rfl (Nat.le_of_ble_eq_true rfl) ?_
  intro p e s m args below meth c ls A hx hb hr hml _ hown hlocks hin hA hAm hw hl
  have hown : s.vm.findClass RX7 = some m.cls := hown
  have hl : lv_has ls 6 [(0, .ref h0), (1, .int 0), (2, .int 0)] := hl
  refine lv_iconst (v := 0) hx hb dX7_ofChangeNow_0 (by decide) ?_
  refine lv_istore_n (lv' := [(3, .int 0), (0, .ref h0), (1, .int 0), (2, .int 0)]) hx hb dX7_ofChangeNow_1 rfl hl (by decide) rfl (fun ls hl => ?_)
  refine lv_aload_n hx hb dX7_ofChangeNow_2 rfl (lv_at hl 1 rfl) ?_
  refine rc_get (v := .ref h3) hx hb hown hAm hw lyX7 0 rfl rfl 3 (by decide) qw_863 (fun _ h9 => h9) rfl dX7_ofChangeNow_3 ?_
  refine rc_callr (wr := [(h0, .inr (12, [.int 0, .ref h1, .ref h2, .ref h3, .ref h4, .ref h5, .int 1, .int 3, .int 50, .int (-1), .int (-1), .int (-1), .int (-1), .int 0, .int 100, .int 1000, .long 152027855862972461]))]) (va_runV (As := []) (rest := []) (Ts := []) ⟨hx, hb, hml, hown, fun _ h9 => absurd h9 List.not_mem_nil⟩ (cw_Jx4a65c_iterator_32c93 l E _ h3) (rc_cwV hAm qw_1295 qw_4 qw_1298 qw_1296 qw_1297 rfl rfl hd_Jx4a65c_iterator_32c93 ⟨Nat.le_of_ble_eq_true rfl, Nat.le_of_ble_eq_true rfl⟩) (rc_preV hAm hA hw [1] rfl rfl 1 rfl (q := vwCl[4]) rfl) rfl rfl hl.1 rfl (lv_room (Nat.le_of_ble_eq_true rfl)) dX7_ofChangeNow_6 ⟨Nat.le_of_ble_eq_true rfl, Nat.le_of_ble_eq_true rfl⟩) hA hw [1] [0] rfl rfl rfl (by decide) (fun u_2 r_1 H locs hp hw => ?_)
  obtain ⟨q1, rfl, rfl⟩ := hp
  have hw : rc_W E A s [(h0, .inr (12, [.int 0, .ref h1, .ref h2, .ref h3, .ref h4, .ref h5, .int 1, .int 3, .int 50, .int (-1), .int (-1), .int (-1), .int (-1), .int 0, .int 100, .int 1000, .long 152027855862972461])), (h3, .inr (4, [.int 0, .ref (E.2.2 0), .int 0])), (q1, .inr (3, [.int 0, .int (-1), .int 0, .ref h3]))] H locs := hw
  refine lv_astore (lv' := [(4, .ref q1), (3, .int 0), (0, .ref h0), (1, .int 0), (2, .int 0)]) hx hb dX7_ofChangeNow_9 hl (by decide) rfl (fun ls hl => ?_)
  refine lv_aload hx hb dX7_ofChangeNow_11 (lv_at hl 0 rfl) ?_
  refine rc_callFi (wr := [(h0, .inr (12, [.int 0, .ref h1, .ref h2, .ref h3, .ref h4, .ref h5, .int 1, .int 3, .int 50, .int (-1), .int (-1), .int (-1), .int (-1), .int 0, .int 100, .int 1000, .long 152027855862972461]))]) (va_runF (As := []) (rest := []) (Ts := []) ((hAm.K.1 3 _ rfl).2) ⟨hx, hb, hml, hown, fun _ h9 => absurd h9 List.not_mem_nil⟩ (cw_Jx35411_hasNext_aae02 l E _ q1 h3) (rc_cwF (C := "java/util/ArrayList$Itr") (n := 0) hAm qw_1319 qw_32 qw_1327 qw_1325 qw_1323 qw_1321 qw_1320 (by decide +kernel) qw_1326 qw_1324 qw_1322 rfl rfl (by decide +kernel) ⟨Nat.le_of_ble_eq_true rfl, Nat.le_of_ble_eq_true rfl⟩) (rc_preV hAm hA hw [2, 1] rfl rfl 2 rfl (q := vwCl[3]) rfl) rfl rfl hl.1 rfl (lv_room (Nat.le_of_ble_eq_true rfl)) dX7_ofChangeNow_13 ⟨Nat.le_of_ble_eq_true rfl, Nat.le_of_ble_eq_true rfl⟩) hA hw [2, 1] [0] rfl rfl rfl (by decide) (fun r_3 u_4 H locs hp hw => ?_)
  obtain ⟨rfl, rfl⟩ := hp
  have hw : rc_W E A s [(h0, .inr (12, [.int 0, .ref h1, .ref h2, .ref h3, .ref h4, .ref h5, .int 1, .int 3, .int 50, .int (-1), .int (-1), .int (-1), .int (-1), .int 0, .int 100, .int 1000, .long 152027855862972461])), (q1, .inr (3, [.int 0, .int (-1), .int 0, .ref h3])), (h3, .inr (4, [.int 0, .ref (E.2.2 0), .int 0]))] H locs := hw
  refine lv_if_eq (tgt := 52) hx hb dX7_ofChangeNow_18 (by decide) (fun _ => ?_) (fun c9 => absurd (by decide) c9)
  refine lv_aload_n hx hb dX7_ofChangeNow_52 rfl (lv_at hl 2 rfl) ?_
  refine lv_iload_n hx hb dX7_ofChangeNow_53 rfl (lv_at hl 3 rfl) ?_
  refine rc_callr (wr := [(q1, .inr (3, [.int 0, .int (-1), .int 0, .ref h3]))]) (va_runV (As := [.int 0]) (rest := []) (Ts := []) ⟨hx, hb, hml, hown, fun _ h9 => absurd h9 List.not_mem_nil⟩ (cw_X7_sample__2 l E _ h0 h1 h2 h3 h4 h5) (rc_cwV hAm qw_967 qw_13 qw_970 qw_969 qs_54 rfl rfl hd_X7_sample_ ⟨Nat.le_of_ble_eq_true rfl, Nat.le_of_ble_eq_true rfl⟩) (rc_preV hAm hA hw [0, 2] rfl rfl 0 rfl (q := vwCl[12]) rfl) rfl rfl hl.1 rfl (lv_room (Nat.le_of_ble_eq_true rfl)) dX7_ofChangeNow_54 ⟨Nat.le_of_ble_eq_true rfl, Nat.le_of_ble_eq_true rfl⟩) hA hw [0, 2] [1] rfl rfl rfl (by decide) (fun u_6 r_5 H locs hp hw => ?_)
  obtain ⟨q2, rfl, rfl⟩ := hp
  have hw : rc_W E A s [(q1, .inr (3, [.int 0, .int (-1), .int 0, .ref h3])), (h0, .inr (12, [.int 0, .ref h1, .ref h2, .ref h3, .ref h4, .ref h5, .int 1, .int 3, .int 50, .int (-1), .int (-1), .int (-1), .int (-1), .int 0, .int 100, .int 1000, .long 152027855862972461])), (h3, .inr (4, [.int 0, .ref (E.2.2 0), .int 0])), (q2, .inl (E.2.1 0, 0, .inl (va_cpy (fun _ => 0) (fun _ => 0) 6 0 0)))] H locs := hw
  refine lv_astore (lv' := [(4, .ref q2), (3, .int 0), (0, .ref h0), (1, .int 0), (2, .int 0)]) hx hb dX7_ofChangeNow_57 hl (by decide) rfl (fun ls hl => ?_)
  refine lv_aload hx hb dX7_ofChangeNow_59 (lv_at hl 0 rfl) ?_
  refine rc_callv (wr := [(q1, .inr (3, [.int 0, .int (-1), .int 0, .ref h3])), (h0, .inr (12, [.int 0, .ref h1, .ref h2, .ref h3, .ref h4, .ref h5, .int 1, .int 3, .int 50, .int (-1), .int (-1), .int (-1), .int (-1), .int 0, .int 100, .int 1000, .long 152027855862972461])), (h3, .inr (4, [.int 0, .ref (E.2.2 0), .int 0]))]) (va_runS (As := [.ref q2]) (rest := []) (Ts := []) ⟨hx, hb, hml, hown, fun _ h9 => absurd h9 List.not_mem_nil⟩ (cw_J7_sort_2022b l E _ q2 (va_cpy (fun _ => 0) (fun _ => 0) 6 0 0)) (rc_cwS hAm qw_1241 qw_11 qw_1243 qw_1242 rfl rfl hd_J7_sort_2022b ⟨Nat.le_of_ble_eq_true rfl, Nat.le_of_ble_eq_true rfl⟩) (rc_preS hAm hA hw [3] rfl rfl) rfl rfl hl.1 rfl (lv_room (Nat.le_of_ble_eq_true rfl)) dX7_ofChangeNow_61 ⟨Nat.le_of_ble_eq_true rfl, Nat.le_of_ble_eq_true rfl⟩) hA hw [3] [0, 1, 2] rfl rfl rfl (by decide) (fun u_8 H locs hp hw => ?_)
  obtain ⟨rfl⟩ := hp
  have hw : rc_W E A s [(q1, .inr (3, [.int 0, .int (-1), .int 0, .ref h3])), (h0, .inr (12, [.int 0, .ref h1, .ref h2, .ref h3, .ref h4, .ref h5, .int 1, .int 3, .int 50, .int (-1), .int (-1), .int (-1), .int (-1), .int 0, .int 100, .int 1000, .long 152027855862972461])), (h3, .inr (4, [.int 0, .ref (E.2.2 0), .int 0])), (q2, .inl (E.2.1 0, 0, .inl (va_cpy (fun _ => 0) (fun _ => 0) 6 0 0)))] H locs := hw
  refine lv_aload hx hb dX7_ofChangeNow_64 (lv_at hl 0 rfl) ?_
  refine rc_alen hx hb hAm hw 3 0 rfl rfl 0 rfl dX7_ofChangeNow_66 ?_
  refine lv_iconst (v := 1) hx hb dX7_ofChangeNow_67 (by decide) ?_
  refine lv_isub hx hb dX7_ofChangeNow_68 ?_
  refine rc_topi (-1) (by decide) ?_
  refine lv_istore (lv' := [(5, .int (-1)), (4, .ref q2), (3, .int 0), (0, .ref h0), (1, .int 0), (2, .int 0)]) hx hb dX7_ofChangeNow_69 hl (by decide) rfl (fun ls hl => ?_)
  refine lv_iload_n hx hb dX7_ofChangeNow_71 rfl (lv_at hl 5 rfl) ?_
  refine lv_tableIn (tgt := 108) hx hb dX7_ofChangeNow_72 (by decide) (by decide) rfl (by decide) ?_
  refine lv_iload_n hx hb dX7_ofChangeNow_108 rfl (lv_at hl 2 rfl) ?_
  exact rc_iret (v := 0) hx hb hr hlocks hw [(h0, .inr (12, [.int 0, .ref h1, .ref h2, .ref h3, .ref h4, .ref h5, .int 1, .int 3, .int 50, .int (-1), .int (-1), .int (-1), .int (-1), .int 0, .int 100, .int 1000, .long 152027855862972461])), (h3, .inr (4, [.int 0, .ref (E.2.2 0), .int 0]))] (⟨rfl, rfl⟩) [1, 2] rfl (by decide) (Nat.le_of_ble_eq_true rfl) (Nat.le_of_ble_eq_true rfl) dX7_ofChangeNow_109
set_option maxHeartbeats 4000000 in
set_option maxRecDepth 100000 in
theorem cw_X7_add_10 (l : Launch) (E : rc_E) (sz : Nat) (h0 : Nat) (h1 : Nat) (h2 : Nat) (h3 : Nat) (h4 : Nat) (h5 : Nat) : rc_Mv l yX7_add [Cond.code yX7_add cX7_add 2 (none : Option FieldType)] { frames := 0, cells := 0, slots := 0, locals := 0 } E [.ref h0, .int 0] [(h0, .inr (12, [.int 0, .ref h1, .ref h2, .ref h3, .ref h4, .ref h5, .int 1, .int 3, .int 50, .int (-1), .int (-1), .int (-1), .int (-1), .int 0, .int 100, .int 1000, .long 152027855862972461]))] sz (S := va_W) (fun (u : va_W) => (u = [(h0, .inr (12, [.int 0, .ref h1, .ref h2, .ref h3, .ref h4, .ref h5, .int 1, .int 3, .int 50, .int (-1), .int (-1), .int (-1), .int (-1), .int 0, .int 100, .int 1000, .long 4712863531752146291]))])) (fun u => u) 0 0 := by
  refine rc_inv (cc := cX7_add) (maxL := 2) (ret := (none : Option FieldType)) (by decide) rfl (Nat.le_of_ble_eq_true rfl) ?_
  intro p e s m args below meth c ls A hx hb hr hml _ hown hlocks hin hA hAm hw hl
  have hown : s.vm.findClass RX7 = some m.cls := hown
  have hl : lv_has ls 2 [(0, .ref h0), (1, .int 0)] := hl
  refine lv_aload_n hx hb dX7_add_0 rfl (lv_at hl 0 rfl) ?_
  refine lv_aload_n hx hb dX7_add_1 rfl (lv_at hl 0 rfl) ?_
  refine rc_get (v := .long 152027855862972461) hx hb hown hAm hw lyX7 0 rfl rfl 16 (by decide) qw_876 (fun _ h9 => h9) rfl dX7_add_2 ?_
  refine lv_ldc2 (v := 31) hx hb hown (hAm.wd qw_1470 rfl rfl) dX7_add_5 ?_
  refine lv_lmul hx hb dX7_add_8 ?_
  refine rc_topl 4712863531752146291 (by decide) ?_
  refine lv_iload_n hx hb dX7_add_9 rfl (lv_at hl 1 rfl) ?_
  refine lv_i2l (v := 0) hx hb dX7_add_10 (by decide) ?_
  refine lv_ladd hx hb dX7_add_11 ?_
  refine rc_topl 4712863531752146291 (by decide) ?_
  refine rc_put hx hb hown hAm hw lyX7 tyX7 tyX7_ok nmX7 0 rfl rfl 16 (by decide) qw_876 (fun _ h9 => h9) rfl rfl (by decide +kernel) (Nat.le_of_ble_eq_true rfl) [(h0, .inr (12, [.int 0, .ref h1, .ref h2, .ref h3, .ref h4, .ref h5, .int 1, .int 3, .int 50, .int (-1), .int (-1), .int (-1), .int (-1), .int 0, .int 100, .int 1000, .long 4712863531752146291]))] rfl dX7_add_12 (fun H locs hw => ?_)
  exact rc_vret hx hb hr hlocks hw [(h0, .inr (12, [.int 0, .ref h1, .ref h2, .ref h3, .ref h4, .ref h5, .int 1, .int 3, .int 50, .int (-1), .int (-1), .int (-1), .int (-1), .int 0, .int 100, .int 1000, .long 4712863531752146291]))] (rfl) [0] rfl (by decide) (Nat.le_of_ble_eq_true rfl) (Nat.le_of_ble_eq_true rfl) dX7_add_15
set_option maxHeartbeats 4000000 in
set_option maxRecDepth 100000 in
theorem cw_X7_sample_3 (l : Launch) (E : rc_E) (sz : Nat) (h0 : Nat) (h1 : Nat) (h2 : Nat) (h3 : Nat) (h4 : Nat) (h5 : Nat) : rc_Mr l yX7_sample [Cond.code yX7_sample cX7_sample 6 (some (FieldType.array FieldType.int))] { frames := 3, cells := 2, slots := 6, locals := 86 } E [.ref h0, .int 0, .int (-1)] [(h0, .inr (12, [.int 0, .ref h1, .ref h2, .ref h3, .ref h4, .ref h5, .int 1, .int 3, .int 50, .int (-1), .int (-1), .int (-1), .int (-1), .int 0, .int 100, .int 1000, .long 4712863531752146291])), (h3, .inr (4, [.int 0, .ref (E.2.2 0), .int 0]))] sz (S := va_W) (fun (u : va_W) (r : Nat) => (∃ q2 : Nat, q2 = r ∧ u = [(h0, .inr (12, [.int 0, .ref h1, .ref h2, .ref h3, .ref h4, .ref h5, .int 1, .int 3, .int 50, .int (-1), .int (-1), .int (-1), .int (-1), .int 0, .int 100, .int 1000, .long 4712863531752146291])), (h3, .inr (4, [.int 0, .ref (E.2.2 0), .int 0])), (q2, .inl (E.2.1 0, 0, .inl (va_cpy (fun _ => 0) (fun _ => 0) 6 0 0)))])) (fun u => u) 2 6 := by
  refine rc_inr (cc := cX7_sample) (maxL := 6) (ret := (some (FieldType.array FieldType.int))) (by decide) rfl (Nat.le_of_ble_eq_true rfl) ?_
  intro p e s m args below meth c ls A hx hb hr hml _ hown hlocks hin hA hAm hw hl
  have hown : s.vm.findClass RX7 = some m.cls := hown
  have hl : lv_has ls 6 [(0, .ref h0), (1, .int 0), (2, .int (-1))] := hl
  refine lv_bipush (v := 6) hx hb dX7_sample_0 (by decide) ?_
  refine rc_inew hx hb hAm hA hw qw_108 6 (by decide) (by decide) (Nat.le_of_ble_eq_true rfl) (Nat.le_of_ble_eq_true rfl) (Nat.le_of_ble_eq_true rfl) dX7_sample_2 (fun q1 H hw => ?_)
  have hw : rc_W E A s [(h0, .inr (12, [.int 0, .ref h1, .ref h2, .ref h3, .ref h4, .ref h5, .int 1, .int 3, .int 50, .int (-1), .int (-1), .int (-1), .int (-1), .int 0, .int 100, .int 1000, .long 4712863531752146291])), (h3, .inr (4, [.int 0, .ref (E.2.2 0), .int 0])), (q1, .inl (E.2.1 0, 6, .inl (fun _ => 0)))] H _ := hw
  refine lv_astore_n (lv' := [(3, .ref q1), (0, .ref h0), (1, .int 0), (2, .int (-1))]) hx hb dX7_sample_4 rfl hl (by decide) rfl (fun ls hl => ?_)
  refine lv_iconst (v := 0) hx hb dX7_sample_5 (by decide) ?_
  refine lv_istore (lv' := [(4, .int 0), (3, .ref q1), (0, .ref h0), (1, .int 0), (2, .int (-1))]) hx hb dX7_sample_6 hl (by decide) rfl (fun ls hl => ?_)
  refine lv_aload_n hx hb dX7_sample_8 rfl (lv_at hl 2 rfl) ?_
  refine rc_get (v := .ref h3) hx hb hown hAm hw lyX7 0 rfl rfl 3 (by decide) qw_863 (fun _ h9 => h9) rfl dX7_sample_9 ?_
  refine rc_calli (wr := [(h0, .inr (12, [.int 0, .ref h1, .ref h2, .ref h3, .ref h4, .ref h5, .int 1, .int 3, .int 50, .int (-1), .int (-1), .int (-1), .int (-1), .int 0, .int 100, .int 1000, .long 4712863531752146291])), (q1, .inl (E.2.1 0, 6, .inl (fun _ => 0)))]) (va_runV (As := []) (rest := []) (Ts := []) ⟨hx, hb, hml, hown, fun _ h9 => absurd h9 List.not_mem_nil⟩ (cw_Jx4a65c_size_8abf5 l E _ h3) (rc_cwV hAm qw_928 qw_4 qw_289 qw_287 qw_288 rfl rfl hd_Jx4a65c_size_8abf5 ⟨Nat.le_of_ble_eq_true rfl, Nat.le_of_ble_eq_true rfl⟩) (rc_preV hAm hA hw [1] rfl rfl 1 rfl (q := vwCl[4]) rfl) rfl rfl hl.1 rfl (lv_room (Nat.le_of_ble_eq_true rfl)) dX7_sample_12 ⟨Nat.le_of_ble_eq_true rfl, Nat.le_of_ble_eq_true rfl⟩) hA hw [1] [0, 2] rfl rfl rfl (by decide) (fun r_1 u_2 H locs hp hw => ?_)
  obtain ⟨rfl, rfl⟩ := hp
  have hw : rc_W E A s [(h0, .inr (12, [.int 0, .ref h1, .ref h2, .ref h3, .ref h4, .ref h5, .int 1, .int 3, .int 50, .int (-1), .int (-1), .int (-1), .int (-1), .int 0, .int 100, .int 1000, .long 4712863531752146291])), (q1, .inl (E.2.1 0, 6, .inl (fun _ => 0))), (h3, .inr (4, [.int 0, .ref (E.2.2 0), .int 0]))] H locs := hw
  refine lv_iconst (v := 1) hx hb dX7_sample_15 (by decide) ?_
  refine lv_isub hx hb dX7_sample_16 ?_
  refine rc_topi (-1) (by decide) ?_
  refine lv_istore (lv' := [(5, .int (-1)), (4, .int 0), (3, .ref q1), (0, .ref h0), (1, .int 0), (2, .int (-1))]) hx hb dX7_sample_17 hl (by decide) rfl (fun ls hl => ?_)
  refine lv_iload hx hb dX7_sample_19 (lv_at hl 0 rfl) ?_
  refine lv_if_lt (tgt := 102) hx hb dX7_sample_21 (by decide) (fun _ => ?_) (fun c9 => absurd (by decide) c9)
  refine lv_aload_n hx hb dX7_sample_102 rfl (lv_at hl 2 rfl) ?_
  refine lv_bipush (v := 6) hx hb dX7_sample_103 (by decide) ?_
  refine lv_iload hx hb dX7_sample_105 (lv_at hl 1 rfl) ?_
  refine lv_isub hx hb dX7_sample_107 ?_
  refine rc_topi 6 (by decide) ?_
  refine lv_bipush (v := 6) hx hb dX7_sample_108 (by decide) ?_
  refine rc_callr (wr := [(h0, .inr (12, [.int 0, .ref h1, .ref h2, .ref h3, .ref h4, .ref h5, .int 1, .int 3, .int 50, .int (-1), .int (-1), .int (-1), .int (-1), .int 0, .int 100, .int 1000, .long 4712863531752146291])), (h3, .inr (4, [.int 0, .ref (E.2.2 0), .int 0]))]) (va_runS (As := [.ref q1, .int 6, .int 6]) (rest := []) (Ts := []) ⟨hx, hb, hml, hown, fun _ h9 => absurd h9 List.not_mem_nil⟩ (cw_J7_copyOfRange_feecc l E _ q1) (rc_cwS hAm qw_992 qw_11 qw_994 qw_993 rfl rfl hd_J7_copyOfRange_feecc ⟨Nat.le_of_ble_eq_true rfl, Nat.le_of_ble_eq_true rfl⟩) (rc_preS hAm hA hw [1] rfl rfl) rfl rfl hl.1 rfl (lv_room (Nat.le_of_ble_eq_true rfl)) dX7_sample_110 ⟨Nat.le_of_ble_eq_true rfl, Nat.le_of_ble_eq_true rfl⟩) hA hw [1] [0, 2] rfl rfl rfl (by decide) (fun u_4 r_3 H locs hp hw => ?_)
  obtain ⟨q2, rfl, rfl⟩ := hp
  have hw : rc_W E A s [(h0, .inr (12, [.int 0, .ref h1, .ref h2, .ref h3, .ref h4, .ref h5, .int 1, .int 3, .int 50, .int (-1), .int (-1), .int (-1), .int (-1), .int 0, .int 100, .int 1000, .long 4712863531752146291])), (h3, .inr (4, [.int 0, .ref (E.2.2 0), .int 0])), (q1, .inl (E.2.1 0, 6, .inl (fun _ => 0))), (q2, .inl (E.2.1 0, 0, .inl (va_cpy (fun _ => 0) (fun _ => 0) 6 0 0)))] H locs := hw
  exact rc_aret (v := q2) hx hb hr (by first | exact Or.inl ⟨_, rfl⟩ | exact Or.inr ⟨_, rfl⟩) hlocks hw [(h0, .inr (12, [.int 0, .ref h1, .ref h2, .ref h3, .ref h4, .ref h5, .int 1, .int 3, .int 50, .int (-1), .int (-1), .int (-1), .int (-1), .int 0, .int 100, .int 1000, .long 4712863531752146291])), (h3, .inr (4, [.int 0, .ref (E.2.2 0), .int 0])), (q2, .inl (E.2.1 0, 0, .inl (va_cpy (fun _ => 0) (fun _ => 0) 6 0 0)))] (⟨q2, rfl, rfl⟩) [0, 1, 3] rfl (by decide) (Nat.le_of_ble_eq_true rfl) (Nat.le_of_ble_eq_true rfl) dX7_sample_113
