theorem hd_X5_init : yX5_init.cls ≠ "java/lang/invoke/MethodHandle" ∧ yX5_init.cls ≠ "java/lang/invoke/VarHandle" ∧ (parseMethodDescriptor yX5_init.desc).map (fun d => d.parameters.length) = some 0 := by decide +kernel
set_option maxHeartbeats 4000000 in
set_option maxRecDepth 100000 in
theorem in_duel (l : Launch) (E : rc_E) (sz : Nat) (G : tg_G) {a : Nat} (h1 : G 17 = some (a, .inr (3, [.null, .null, .null, .null, .int 0, .int 0, .int 0, .int 0, .int 0, .int 0]))) : tg_M l yX2_init [Cond.code yX2_init cX2_init 1 (none : Option FieldType)] { frames := 2, cells := 13, slots := 966, locals := 32 } E [.ref a] G sz (tg_Qv E (fun u => ∃ (q18 q19 q20 q21 q22 q23 : Nat) (rr : Nat → Nat) (rw9 : Nat → Option Nat), u 17 = some (a, .inr (3, [.ref q18, .ref q20, .ref q22, .ref q23, .int 0, .int 0, .int 0, .int 1, .int 1, .int 1])) ∧ u 18 = some (q18, .inr (6, [.ref q19, .int 0])) ∧ u 19 = some (q19, .inl (E.2.1 0, 6, .inl (fun _ => 0))) ∧ u 20 = some (q20, .inr (6, [.ref q21, .int 0])) ∧ u 21 = some (q21, .inl (E.2.1 0, 6, .inl (fun _ => 0))) ∧ u 22 = some (q22, .inl (E.2.1 0, 12, .inl (fun _ => 0))) ∧ u 23 = some (q23, .inl (E.2.1 1, 7, .inr (.inr (.inr (.inr rw9))))) ∧ (∀ c9, c9 < 7 → rw9 c9 = some (rr c9)) ∧ (∀ c9, c9 < 7 → u (24 + c9) = some (rr c9, .inl (E.2.1 0, 133, .inl (fun _ => 0)))) ∧ ∀ t9, t9 < 17 ∨ 31 ≤ t9 → u t9 = G t9)) 13 966 := by
  refine tg_in (cc := cX2_init) (maxL := 1) (ret := (none : Option FieldType)) (tg_Qv E (fun u => ∃ (q18 q19 q20 q21 q22 q23 : Nat) (rr : Nat → Nat) (rw9 : Nat → Option Nat), u 17 = some (a, .inr (3, [.ref q18, .ref q20, .ref q22, .ref q23, .int 0, .int 0, .int 0, .int 1, .int 1, .int 1])) ∧ u 18 = some (q18, .inr (6, [.ref q19, .int 0])) ∧ u 19 = some (q19, .inl (E.2.1 0, 6, .inl (fun _ => 0))) ∧ u 20 = some (q20, .inr (6, [.ref q21, .int 0])) ∧ u 21 = some (q21, .inl (E.2.1 0, 6, .inl (fun _ => 0))) ∧ u 22 = some (q22, .inl (E.2.1 0, 12, .inl (fun _ => 0))) ∧ u 23 = some (q23, .inl (E.2.1 1, 7, .inr (.inr (.inr (.inr rw9))))) ∧ (∀ c9, c9 < 7 → rw9 c9 = some (rr c9)) ∧ (∀ c9, c9 < 7 → u (24 + c9) = some (rr c9, .inl (E.2.1 0, 133, .inl (fun _ => 0)))) ∧ ∀ t9, t9 < 17 ∨ 31 ≤ t9 → u t9 = G t9)) (by decide) rfl (Nat.le_of_ble_eq_true rfl) ?_
  intro p e s m args below meth cd ls A hx hb hr hml hown hlocks hin hA hAm hw hl
  have hown : s.vm.findClass RX2 = some m.cls := hown
  have hl : lv_has ls 1 [(0, .ref a)] := hl
  refine lv_aload_n hx hb dX2_init_0 rfl (lv_at hl 0 rfl) ?_
  refine rc_obj hx hb hown hAm qw_102 qw_31 qw_32 (by rw [hml]; exact hl.1) (Nat.le_of_ble_eq_true rfl) (Nat.le_of_ble_eq_true rfl) dX2_init_1 ?_
  refine lv_aload_n hx hb dX2_init_4 rfl (lv_at hl 0 rfl) ?_
  refine tg_new 18 (C := RX5) (ci := 6) hx hb hown hAm hA hw lyX5 tyX5 tyX5_ok rfl qw_103 qw_82 qw_6 [.null, .int 0] rfl (Nat.le_of_ble_eq_true rfl) (Nat.le_of_ble_eq_true rfl) dX2_init_5 (fun q_1 G_2 H g_3 o_4 hw => ?_)
  have h1 := (o_4 _ (by decide)).trans h1
  have kq_1 : G_2 18 = some (q_1, .inr (6, [.null, .int 0])) := g_3
  refine lv_dup hx hb dX2_init_8 rfl ?_
  refine tg_callv (va_runIN (As := []) (rest := [.ref q_1, .ref a]) (Ts := []) ⟨hx, hb, hml, hown, fun _ h9 => absurd h9 List.not_mem_nil⟩ (in_sample l E _ G_2 kq_1) (rc_cnI hAm qw_104 qw_6 qw_85 qw_84 rfl rfl rfl hd_X5_init ⟨Nat.le_of_ble_eq_true rfl, Nat.le_of_ble_eq_true rfl⟩) (tg_preS hAm hA hw) rfl rfl hl.1 rfl (lv_room (Nat.le_of_ble_eq_true rfl)) dX2_init_9 ⟨Nat.le_of_ble_eq_true rfl, Nat.le_of_ble_eq_true rfl⟩) hA hw (fun G_5 H locs hp hw => ?_)
  obtain ⟨q_8, kq_1, kq_8, o_7⟩ := hp
  have h1 := (o_7 _ (by decide) (by decide)).trans h1
  refine tg_putF hx hb hown hAm hw lyX2 tyX2 tyX2_ok nmX2 h1 rfl 0 (by decide) qw_107 (fun _ h9 => h9) rfl hin rfl rfl rfl (Nat.le_of_ble_eq_true rfl) dX2_init_12 (fun G_9 H locs g_10 o_11 hw => ?_)
  have kq_1 := (o_11 _ (by decide)).trans kq_1
  have kq_8 := (o_11 _ (by decide)).trans kq_8
  have h1 : G_9 17 = some (a, .inr (3, [.ref q_1, .null, .null, .null, .int 0, .int 0, .int 0, .int 0, .int 0, .int 0])) := g_10
  refine lv_aload_n hx hb dX2_init_15 rfl (lv_at hl 0 rfl) ?_
  refine tg_new 20 (C := RX5) (ci := 6) hx hb hown hAm hA hw lyX5 tyX5 tyX5_ok rfl qw_103 qw_82 qw_6 [.null, .int 0] rfl (Nat.le_of_ble_eq_true rfl) (Nat.le_of_ble_eq_true rfl) dX2_init_16 (fun q_12 G_13 H g_14 o_15 hw => ?_)
  have h1 := (o_15 _ (by decide)).trans h1
  have kq_1 := (o_15 _ (by decide)).trans kq_1
  have kq_8 := (o_15 _ (by decide)).trans kq_8
  have kq_12 : G_13 20 = some (q_12, .inr (6, [.null, .int 0])) := g_14
  refine lv_dup hx hb dX2_init_19 rfl ?_
  refine tg_callv (va_runIN (As := []) (rest := [.ref q_12, .ref a]) (Ts := []) ⟨hx, hb, hml, hown, fun _ h9 => absurd h9 List.not_mem_nil⟩ (in_sample l E _ G_13 kq_12) (rc_cnI hAm qw_104 qw_6 qw_85 qw_84 rfl rfl rfl hd_X5_init ⟨Nat.le_of_ble_eq_true rfl, Nat.le_of_ble_eq_true rfl⟩) (tg_preS hAm hA hw) rfl rfl hl.1 rfl (lv_room (Nat.le_of_ble_eq_true rfl)) dX2_init_20 ⟨Nat.le_of_ble_eq_true rfl, Nat.le_of_ble_eq_true rfl⟩) hA hw (fun G_16 H locs hp hw => ?_)
  obtain ⟨q_19, kq_12, kq_19, o_18⟩ := hp
  have h1 := (o_18 _ (by decide) (by decide)).trans h1
  have kq_1 := (o_18 _ (by decide) (by decide)).trans kq_1
  have kq_8 := (o_18 _ (by decide) (by decide)).trans kq_8
  refine tg_putF hx hb hown hAm hw lyX2 tyX2 tyX2_ok nmX2 h1 rfl 1 (by decide) qw_109 (fun _ h9 => h9) rfl hin rfl rfl rfl (Nat.le_of_ble_eq_true rfl) dX2_init_23 (fun G_20 H locs g_21 o_22 hw => ?_)
  have kq_1 := (o_22 _ (by decide)).trans kq_1
  have kq_8 := (o_22 _ (by decide)).trans kq_8
  have kq_12 := (o_22 _ (by decide)).trans kq_12
  have kq_19 := (o_22 _ (by decide)).trans kq_19
  have h1 : G_20 17 = some (a, .inr (3, [.ref q_1, .ref q_12, .null, .null, .int 0, .int 0, .int 0, .int 0, .int 0, .int 0])) := g_21
  refine lv_aload_n hx hb dX2_init_26 rfl (lv_at hl 0 rfl) ?_
  refine lv_bipush (v := 12) hx hb dX2_init_27 (by decide) ?_
  refine tg_inew 22 hx hb hAm hA hw qw_96 12 (by decide) (by decide) (Nat.le_of_ble_eq_true rfl) (Nat.le_of_ble_eq_true rfl) (Nat.le_of_ble_eq_true rfl) dX2_init_29 (fun q_23 G_24 H g_25 o_26 hw => ?_)
  have h1 := (o_26 _ (by decide)).trans h1
  have kq_1 := (o_26 _ (by decide)).trans kq_1
  have kq_8 := (o_26 _ (by decide)).trans kq_8
  have kq_12 := (o_26 _ (by decide)).trans kq_12
  have kq_19 := (o_26 _ (by decide)).trans kq_19
  have kq_23 : G_24 22 = some (q_23, .inl (E.2.1 0, 12, .inl (fun _ => 0))) := g_25
  refine tg_putF hx hb hown hAm hw lyX2 tyX2 tyX2_ok nmX2 h1 rfl 2 (by decide) qw_111 (fun _ h9 => h9) rfl hin rfl rfl rfl (Nat.le_of_ble_eq_true rfl) dX2_init_31 (fun G_27 H locs g_28 o_29 hw => ?_)
  have kq_1 := (o_29 _ (by decide)).trans kq_1
  have kq_8 := (o_29 _ (by decide)).trans kq_8
  have kq_12 := (o_29 _ (by decide)).trans kq_12
  have kq_19 := (o_29 _ (by decide)).trans kq_19
  have kq_23 := (o_29 _ (by decide)).trans kq_23
  have h1 : G_27 17 = some (a, .inr (3, [.ref q_1, .ref q_12, .ref q_23, .null, .int 0, .int 0, .int 0, .int 0, .int 0, .int 0])) := g_28
  refine lv_aload_n hx hb dX2_init_34 rfl (lv_at hl 0 rfl) ?_
  refine lv_bipush (v := 7) hx hb dX2_init_35 (by decide) ?_
  refine lv_sipush (v := 133) hx hb dX2_init_37 (by decide) ?_
  refine tg_mna7 23 hx hb hown hAm hA hw qw_105 qw_106 qw_96 133 (by decide) (by decide) (Nat.le_of_ble_eq_true rfl) (Nat.le_of_ble_eq_true rfl) (Nat.le_of_ble_eq_true rfl) (Nat.le_of_ble_eq_true rfl) dX2_init_40 (fun q_30 rr rw9 G_31 H g_32 hrw9 hrow9 o_33 hw => ?_)
  have h1 := (o_33 _ (by omega)).trans h1
  have kq_1 := (o_33 _ (by omega)).trans kq_1
  have kq_8 := (o_33 _ (by omega)).trans kq_8
  have kq_12 := (o_33 _ (by omega)).trans kq_12
  have kq_19 := (o_33 _ (by omega)).trans kq_19
  have kq_23 := (o_33 _ (by omega)).trans kq_23
  refine tg_putF hx hb hown hAm hw lyX2 tyX2 tyX2_ok nmX2 h1 rfl 3 (by decide) qw_112 (fun _ h9 => h9) rfl hin rfl rfl rfl (Nat.le_of_ble_eq_true rfl) dX2_init_44 (fun G_34 H locs g_35 o_36 hw => ?_)
  have kq_1 := (o_36 _ (by decide)).trans kq_1
  have kq_8 := (o_36 _ (by decide)).trans kq_8
  have kq_12 := (o_36 _ (by decide)).trans kq_12
  have kq_19 := (o_36 _ (by decide)).trans kq_19
  have kq_23 := (o_36 _ (by decide)).trans kq_23
  have g_32 := (o_36 _ (by decide)).trans g_32
  have h1 : G_34 17 = some (a, .inr (3, [.ref q_1, .ref q_12, .ref q_23, .ref q_30, .int 0, .int 0, .int 0, .int 0, .int 0, .int 0])) := g_35
  refine lv_aload_n hx hb dX2_init_47 rfl (lv_at hl 0 rfl) ?_
  refine lv_iconst (v := 0) hx hb dX2_init_48 (by decide) ?_
  refine tg_put hx hb hown hAm hw lyX2 tyX2 tyX2_ok nmX2 h1 rfl 4 (by decide) qw_113 (fun _ h9 => h9) rfl rfl (by decide +kernel) (Nat.le_of_ble_eq_true rfl) dX2_init_49 (fun G_37 H locs g_38 o_39 hw => ?_)
  have kq_1 := (o_39 _ (by decide)).trans kq_1
  have kq_8 := (o_39 _ (by decide)).trans kq_8
  have kq_12 := (o_39 _ (by decide)).trans kq_12
  have kq_19 := (o_39 _ (by decide)).trans kq_19
  have kq_23 := (o_39 _ (by decide)).trans kq_23
  have g_32 := (o_39 _ (by decide)).trans g_32
  have h1 : G_37 17 = some (a, .inr (3, [.ref q_1, .ref q_12, .ref q_23, .ref q_30, .int 0, .int 0, .int 0, .int 0, .int 0, .int 0])) := g_38
  refine lv_aload_n hx hb dX2_init_52 rfl (lv_at hl 0 rfl) ?_
  refine lv_iconst (v := 0) hx hb dX2_init_53 (by decide) ?_
  refine tg_put hx hb hown hAm hw lyX2 tyX2 tyX2_ok nmX2 h1 rfl 5 (by decide) qw_114 (fun _ h9 => h9) rfl rfl (by decide +kernel) (Nat.le_of_ble_eq_true rfl) dX2_init_54 (fun G_40 H locs g_41 o_42 hw => ?_)
  have kq_1 := (o_42 _ (by decide)).trans kq_1
  have kq_8 := (o_42 _ (by decide)).trans kq_8
  have kq_12 := (o_42 _ (by decide)).trans kq_12
  have kq_19 := (o_42 _ (by decide)).trans kq_19
  have kq_23 := (o_42 _ (by decide)).trans kq_23
  have g_32 := (o_42 _ (by decide)).trans g_32
  have h1 : G_40 17 = some (a, .inr (3, [.ref q_1, .ref q_12, .ref q_23, .ref q_30, .int 0, .int 0, .int 0, .int 0, .int 0, .int 0])) := g_41
  refine lv_aload_n hx hb dX2_init_57 rfl (lv_at hl 0 rfl) ?_
  refine lv_iconst (v := 0) hx hb dX2_init_58 (by decide) ?_
  refine tg_put hx hb hown hAm hw lyX2 tyX2 tyX2_ok nmX2 h1 rfl 6 (by decide) qw_115 (fun _ h9 => h9) rfl rfl (by decide +kernel) (Nat.le_of_ble_eq_true rfl) dX2_init_59 (fun G_43 H locs g_44 o_45 hw => ?_)
  have kq_1 := (o_45 _ (by decide)).trans kq_1
  have kq_8 := (o_45 _ (by decide)).trans kq_8
  have kq_12 := (o_45 _ (by decide)).trans kq_12
  have kq_19 := (o_45 _ (by decide)).trans kq_19
  have kq_23 := (o_45 _ (by decide)).trans kq_23
  have g_32 := (o_45 _ (by decide)).trans g_32
  have h1 : G_43 17 = some (a, .inr (3, [.ref q_1, .ref q_12, .ref q_23, .ref q_30, .int 0, .int 0, .int 0, .int 0, .int 0, .int 0])) := g_44
  refine lv_aload_n hx hb dX2_init_62 rfl (lv_at hl 0 rfl) ?_
  refine lv_iconst (v := 1) hx hb dX2_init_63 (by decide) ?_
  refine tg_put hx hb hown hAm hw lyX2 tyX2 tyX2_ok nmX2 h1 rfl 7 (by decide) qw_117 (fun _ h9 => h9) rfl rfl (by decide +kernel) (Nat.le_of_ble_eq_true rfl) dX2_init_64 (fun G_46 H locs g_47 o_48 hw => ?_)
  have kq_1 := (o_48 _ (by decide)).trans kq_1
  have kq_8 := (o_48 _ (by decide)).trans kq_8
  have kq_12 := (o_48 _ (by decide)).trans kq_12
  have kq_19 := (o_48 _ (by decide)).trans kq_19
  have kq_23 := (o_48 _ (by decide)).trans kq_23
  have g_32 := (o_48 _ (by decide)).trans g_32
  have h1 : G_46 17 = some (a, .inr (3, [.ref q_1, .ref q_12, .ref q_23, .ref q_30, .int 0, .int 0, .int 0, .int 1, .int 0, .int 0])) := g_47
  refine lv_aload_n hx hb dX2_init_67 rfl (lv_at hl 0 rfl) ?_
  refine lv_iconst (v := 1) hx hb dX2_init_68 (by decide) ?_
  refine tg_put hx hb hown hAm hw lyX2 tyX2 tyX2_ok nmX2 h1 rfl 8 (by decide) qw_119 (fun _ h9 => h9) rfl rfl (by decide +kernel) (Nat.le_of_ble_eq_true rfl) dX2_init_69 (fun G_49 H locs g_50 o_51 hw => ?_)
  have kq_1 := (o_51 _ (by decide)).trans kq_1
  have kq_8 := (o_51 _ (by decide)).trans kq_8
  have kq_12 := (o_51 _ (by decide)).trans kq_12
  have kq_19 := (o_51 _ (by decide)).trans kq_19
  have kq_23 := (o_51 _ (by decide)).trans kq_23
  have g_32 := (o_51 _ (by decide)).trans g_32
  have h1 : G_49 17 = some (a, .inr (3, [.ref q_1, .ref q_12, .ref q_23, .ref q_30, .int 0, .int 0, .int 0, .int 1, .int 1, .int 0])) := g_50
  refine lv_aload_n hx hb dX2_init_72 rfl (lv_at hl 0 rfl) ?_
  refine lv_iconst (v := 1) hx hb dX2_init_73 (by decide) ?_
  refine tg_put hx hb hown hAm hw lyX2 tyX2 tyX2_ok nmX2 h1 rfl 9 (by decide) qw_121 (fun _ h9 => h9) rfl rfl (by decide +kernel) (Nat.le_of_ble_eq_true rfl) dX2_init_74 (fun G_52 H locs g_53 o_54 hw => ?_)
  have kq_1 := (o_54 _ (by decide)).trans kq_1
  have kq_8 := (o_54 _ (by decide)).trans kq_8
  have kq_12 := (o_54 _ (by decide)).trans kq_12
  have kq_19 := (o_54 _ (by decide)).trans kq_19
  have kq_23 := (o_54 _ (by decide)).trans kq_23
  have g_32 := (o_54 _ (by decide)).trans g_32
  have h1 : G_52 17 = some (a, .inr (3, [.ref q_1, .ref q_12, .ref q_23, .ref q_30, .int 0, .int 0, .int 0, .int 1, .int 1, .int 1])) := g_53
  exact tg_vret hx hb hr hlocks hw (⟨_, _, _, _, _, _, rr, rw9, h1, kq_1, kq_8, kq_12, kq_19, kq_23, g_32, hrw9, fun c9 h9 => ((o_54 (24 + c9) (by omega)).trans ((o_51 (24 + c9) (by omega)).trans ((o_48 (24 + c9) (by omega)).trans ((o_45 (24 + c9) (by omega)).trans ((o_42 (24 + c9) (by omega)).trans ((o_39 (24 + c9) (by omega)).trans ((o_36 (24 + c9) (by omega))))))))).trans (hrow9 c9 h9), fun t9 h9 => (o_54 t9 (by omega)).trans ((o_51 t9 (by omega)).trans ((o_48 t9 (by omega)).trans ((o_45 t9 (by omega)).trans ((o_42 t9 (by omega)).trans ((o_39 t9 (by omega)).trans ((o_36 t9 (by omega)).trans ((o_33 t9 (by omega)).trans ((o_29 t9 (by omega)).trans ((o_26 t9 (by omega)).trans ((o_22 t9 (by omega)).trans ((o_18 t9 (by omega) (by omega)).trans ((o_15 t9 (by omega)).trans ((o_11 t9 (by omega)).trans ((o_7 t9 (by omega) (by omega)).trans ((o_4 t9 (by omega)))))))))))))))))⟩) (Nat.le_of_ble_eq_true rfl) (Nat.le_of_ble_eq_true rfl) dX2_init_77
theorem hd_X1_init : yX1_init.cls ≠ "java/lang/invoke/MethodHandle" ∧ yX1_init.cls ≠ "java/lang/invoke/VarHandle" ∧ (parseMethodDescriptor yX1_init.desc).map (fun d => d.parameters.length) = some 0 := by decide +kernel
theorem hd_X2_init : yX2_init.cls ≠ "java/lang/invoke/MethodHandle" ∧ yX2_init.cls ≠ "java/lang/invoke/VarHandle" ∧ (parseMethodDescriptor yX2_init.desc).map (fun d => d.parameters.length) = some 0 := by decide +kernel
theorem hd_X0_init : yX0_init.cls ≠ "java/lang/invoke/MethodHandle" ∧ yX0_init.cls ≠ "java/lang/invoke/VarHandle" ∧ (parseMethodDescriptor yX0_init.desc).map (fun d => d.parameters.length) = some 0 := by decide +kernel
set_option maxHeartbeats 16000000 in
set_option maxRecDepth 100000 in
theorem in_court (l : Launch) (E : rc_E) (sz : Nat) (G : tg_G) {a : Nat} (h1 : G 8 = some (a, .inr (7, [.null, .null, .null, .null, .null, .null, .null, .int 0, .int 0, .int 0, .int 0, .int 0, .int 0]))) : tg_M l yX6_init [Cond.code yX6_init cX6_init 1 (none : Option FieldType)] { frames := 7, cells := 23, slots := 1203, locals := 171 } E [.ref a] G sz (tg_Qv E (fun u => ∃ ad : Nat → Nat, ad 8 = a ∧ ∀ pr, siH E ad pr 0 1 u)) 23 1203 := by
  refine tg_in (cc := cX6_init) (maxL := 1) (ret := (none : Option FieldType)) (tg_Qv E (fun u => ∃ ad : Nat → Nat, ad 8 = a ∧ ∀ pr, siH E ad pr 0 1 u)) (by decide) rfl (Nat.le_of_ble_eq_true rfl) ?_
  intro p e s m args below meth cd ls A hx hb hr hml hown hlocks hin hA hAm hw hl
  have hown : s.vm.findClass RX6 = some m.cls := hown
  have hl : lv_has ls 1 [(0, .ref a)] := hl
  refine lv_aload_n hx hb dX6_init_0 rfl (lv_at hl 0 rfl) ?_
  refine rc_obj hx hb hown hAm qw_30 qw_31 qw_32 (by rw [hml]; exact hl.1) (Nat.le_of_ble_eq_true rfl) (Nat.le_of_ble_eq_true rfl) dX6_init_1 ?_
  refine lv_aload_n hx hb dX6_init_4 rfl (lv_at hl 0 rfl) ?_
  refine tg_new 9 (C := RJx4a65c) (ci := 0) hx hb hown hAm hA hw lyJx4a65c tyJx4a65c tyJx4a65c_ok rfl qw_33 qw_34 qw_4 [.int 0, .null, .int 0] rfl (Nat.le_of_ble_eq_true rfl) (Nat.le_of_ble_eq_true rfl) dX6_init_5 (fun q_1 G_2 H g_3 o_4 hw => ?_)
  have h1 := (o_4 _ (by decide)).trans h1
  have kq_1 : G_2 9 = some (q_1, .inr (0, [.int 0, .null, .int 0])) := g_3
  refine lv_dup hx hb dX6_init_8 rfl ?_
  refine tg_callv (va_runI (As := []) (rest := [.ref q_1, .ref a]) (Ts := []) ⟨hx, hb, hml, hown, fun _ h9 => absurd h9 List.not_mem_nil⟩ (in_list l E _ G_2 kq_1) (rc_cwI hAm qw_35 qw_4 qw_37 qw_36 rfl rfl rfl hd_Jx4a65c_init_da8c8 ⟨Nat.le_of_ble_eq_true rfl, Nat.le_of_ble_eq_true rfl⟩) (tg_preS hAm hA hw) rfl rfl hl.1 rfl (lv_room (Nat.le_of_ble_eq_true rfl)) dX6_init_9 ⟨Nat.le_of_ble_eq_true rfl, Nat.le_of_ble_eq_true rfl⟩) hA hw (fun G_5 H locs hp hw => ?_)
  obtain ⟨kq_1, o_7⟩ := hp
  have h1 := (o_7 _ (by decide)).trans h1
  refine tg_putF hx hb hown hAm hw lyX6 tyX6 tyX6_ok nmX6 h1 rfl 0 (by decide) qw_225 (fun _ h9 => h9) rfl hin rfl rfl rfl (Nat.le_of_ble_eq_true rfl) dX6_init_12 (fun G_8 H locs g_9 o_10 hw => ?_)
  have kq_1 := (o_10 _ (by decide)).trans kq_1
  have h1 : G_8 8 = some (a, .inr (7, [.ref q_1, .null, .null, .null, .null, .null, .null, .int 0, .int 0, .int 0, .int 0, .int 0, .int 0])) := g_9
  refine lv_aload_n hx hb dX6_init_15 rfl (lv_at hl 0 rfl) ?_
  refine tg_new 11 (C := RJx4a65c) (ci := 0) hx hb hown hAm hA hw lyJx4a65c tyJx4a65c tyJx4a65c_ok rfl qw_33 qw_34 qw_4 [.int 0, .null, .int 0] rfl (Nat.le_of_ble_eq_true rfl) (Nat.le_of_ble_eq_true rfl) dX6_init_16 (fun q_11 G_12 H g_13 o_14 hw => ?_)
  have h1 := (o_14 _ (by decide)).trans h1
  have kq_1 := (o_14 _ (by decide)).trans kq_1
  have kq_11 : G_12 11 = some (q_11, .inr (0, [.int 0, .null, .int 0])) := g_13
  refine lv_dup hx hb dX6_init_19 rfl ?_
  refine tg_callv (va_runI (As := []) (rest := [.ref q_11, .ref a]) (Ts := []) ⟨hx, hb, hml, hown, fun _ h9 => absurd h9 List.not_mem_nil⟩ (in_list l E _ G_12 kq_11) (rc_cwI hAm qw_35 qw_4 qw_37 qw_36 rfl rfl rfl hd_Jx4a65c_init_da8c8 ⟨Nat.le_of_ble_eq_true rfl, Nat.le_of_ble_eq_true rfl⟩) (tg_preS hAm hA hw) rfl rfl hl.1 rfl (lv_room (Nat.le_of_ble_eq_true rfl)) dX6_init_20 ⟨Nat.le_of_ble_eq_true rfl, Nat.le_of_ble_eq_true rfl⟩) hA hw (fun G_15 H locs hp hw => ?_)
  obtain ⟨kq_11, o_17⟩ := hp
  have h1 := (o_17 _ (by decide)).trans h1
  have kq_1 := (o_17 _ (by decide)).trans kq_1
  refine tg_putF hx hb hown hAm hw lyX6 tyX6 tyX6_ok nmX6 h1 rfl 1 (by decide) qw_226 (fun _ h9 => h9) rfl hin rfl rfl rfl (Nat.le_of_ble_eq_true rfl) dX6_init_23 (fun G_18 H locs g_19 o_20 hw => ?_)
  have kq_1 := (o_20 _ (by decide)).trans kq_1
  have kq_11 := (o_20 _ (by decide)).trans kq_11
  have h1 : G_18 8 = some (a, .inr (7, [.ref q_1, .ref q_11, .null, .null, .null, .null, .null, .int 0, .int 0, .int 0, .int 0, .int 0, .int 0])) := g_19
  refine lv_aload_n hx hb dX6_init_26 rfl (lv_at hl 0 rfl) ?_
  refine tg_new 13 (C := RJx4a65c) (ci := 0) hx hb hown hAm hA hw lyJx4a65c tyJx4a65c tyJx4a65c_ok rfl qw_33 qw_34 qw_4 [.int 0, .null, .int 0] rfl (Nat.le_of_ble_eq_true rfl) (Nat.le_of_ble_eq_true rfl) dX6_init_27 (fun q_21 G_22 H g_23 o_24 hw => ?_)
  have h1 := (o_24 _ (by decide)).trans h1
  have kq_1 := (o_24 _ (by decide)).trans kq_1
  have kq_11 := (o_24 _ (by decide)).trans kq_11
  have kq_21 : G_22 13 = some (q_21, .inr (0, [.int 0, .null, .int 0])) := g_23
  refine lv_dup hx hb dX6_init_30 rfl ?_
  refine tg_callv (va_runI (As := []) (rest := [.ref q_21, .ref a]) (Ts := []) ⟨hx, hb, hml, hown, fun _ h9 => absurd h9 List.not_mem_nil⟩ (in_list l E _ G_22 kq_21) (rc_cwI hAm qw_35 qw_4 qw_37 qw_36 rfl rfl rfl hd_Jx4a65c_init_da8c8 ⟨Nat.le_of_ble_eq_true rfl, Nat.le_of_ble_eq_true rfl⟩) (tg_preS hAm hA hw) rfl rfl hl.1 rfl (lv_room (Nat.le_of_ble_eq_true rfl)) dX6_init_31 ⟨Nat.le_of_ble_eq_true rfl, Nat.le_of_ble_eq_true rfl⟩) hA hw (fun G_25 H locs hp hw => ?_)
  obtain ⟨kq_21, o_27⟩ := hp
  have h1 := (o_27 _ (by decide)).trans h1
  have kq_1 := (o_27 _ (by decide)).trans kq_1
  have kq_11 := (o_27 _ (by decide)).trans kq_11
  refine tg_putF hx hb hown hAm hw lyX6 tyX6 tyX6_ok nmX6 h1 rfl 2 (by decide) qw_227 (fun _ h9 => h9) rfl hin rfl rfl rfl (Nat.le_of_ble_eq_true rfl) dX6_init_34 (fun G_28 H locs g_29 o_30 hw => ?_)
  have kq_1 := (o_30 _ (by decide)).trans kq_1
  have kq_11 := (o_30 _ (by decide)).trans kq_11
  have kq_21 := (o_30 _ (by decide)).trans kq_21
  have h1 : G_28 8 = some (a, .inr (7, [.ref q_1, .ref q_11, .ref q_21, .null, .null, .null, .null, .int 0, .int 0, .int 0, .int 0, .int 0, .int 0])) := g_29
  refine lv_aload_n hx hb dX6_init_37 rfl (lv_at hl 0 rfl) ?_
  refine tg_new 40 (C := RX1) (ci := 2) hx hb hown hAm hA hw lyX1 tyX1 tyX1_ok rfl qw_59 qw_60 qw_5 [.null, .int 0, .int 0] rfl (Nat.le_of_ble_eq_true rfl) (Nat.le_of_ble_eq_true rfl) dX6_init_38 (fun q_31 G_32 H g_33 o_34 hw => ?_)
  have h1 := (o_34 _ (by decide)).trans h1
  have kq_1 := (o_34 _ (by decide)).trans kq_1
  have kq_11 := (o_34 _ (by decide)).trans kq_11
  have kq_21 := (o_34 _ (by decide)).trans kq_21
  have kq_31 : G_32 40 = some (q_31, .inr (2, [.null, .int 0, .int 0])) := g_33
  refine lv_dup hx hb dX6_init_41 rfl ?_
  refine tg_callv (va_runIN (As := []) (rest := [.ref q_31, .ref a]) (Ts := []) ⟨hx, hb, hml, hown, fun _ h9 => absurd h9 List.not_mem_nil⟩ (in_change l E _ G_32 kq_31) (rc_cnI hAm qw_61 qw_5 qw_63 qw_62 rfl rfl rfl hd_X1_init ⟨Nat.le_of_ble_eq_true rfl, Nat.le_of_ble_eq_true rfl⟩) (tg_preS hAm hA hw) rfl rfl hl.1 rfl (lv_room (Nat.le_of_ble_eq_true rfl)) dX6_init_42 ⟨Nat.le_of_ble_eq_true rfl, Nat.le_of_ble_eq_true rfl⟩) hA hw (fun G_35 H locs hp hw => ?_)
  obtain ⟨q_38, kq_31, kq_38, o_37⟩ := hp
  have h1 := (o_37 _ (by decide) (by decide)).trans h1
  have kq_1 := (o_37 _ (by decide) (by decide)).trans kq_1
  have kq_11 := (o_37 _ (by decide) (by decide)).trans kq_11
  have kq_21 := (o_37 _ (by decide) (by decide)).trans kq_21
  refine tg_putF hx hb hown hAm hw lyX6 tyX6 tyX6_ok nmX6 h1 rfl 3 (by decide) qw_228 (fun _ h9 => h9) rfl hin rfl rfl rfl (Nat.le_of_ble_eq_true rfl) dX6_init_45 (fun G_39 H locs g_40 o_41 hw => ?_)
  have kq_1 := (o_41 _ (by decide)).trans kq_1
  have kq_11 := (o_41 _ (by decide)).trans kq_11
  have kq_21 := (o_41 _ (by decide)).trans kq_21
  have kq_31 := (o_41 _ (by decide)).trans kq_31
  have kq_38 := (o_41 _ (by decide)).trans kq_38
  have h1 : G_39 8 = some (a, .inr (7, [.ref q_1, .ref q_11, .ref q_21, .ref q_31, .null, .null, .null, .int 0, .int 0, .int 0, .int 0, .int 0, .int 0])) := g_40
  refine lv_aload_n hx hb dX6_init_48 rfl (lv_at hl 0 rfl) ?_
  refine tg_new 15 (C := RX5) (ci := 6) hx hb hown hAm hA hw lyX5 tyX5 tyX5_ok rfl qw_81 qw_82 qw_6 [.null, .int 0] rfl (Nat.le_of_ble_eq_true rfl) (Nat.le_of_ble_eq_true rfl) dX6_init_49 (fun q_42 G_43 H g_44 o_45 hw => ?_)
  have h1 := (o_45 _ (by decide)).trans h1
  have kq_1 := (o_45 _ (by decide)).trans kq_1
  have kq_11 := (o_45 _ (by decide)).trans kq_11
  have kq_21 := (o_45 _ (by decide)).trans kq_21
  have kq_31 := (o_45 _ (by decide)).trans kq_31
  have kq_38 := (o_45 _ (by decide)).trans kq_38
  have kq_42 : G_43 15 = some (q_42, .inr (6, [.null, .int 0])) := g_44
  refine lv_dup hx hb dX6_init_52 rfl ?_
  refine tg_callv (va_runIN (As := []) (rest := [.ref q_42, .ref a]) (Ts := []) ⟨hx, hb, hml, hown, fun _ h9 => absurd h9 List.not_mem_nil⟩ (in_sample l E _ G_43 kq_42) (rc_cnI hAm qw_83 qw_6 qw_85 qw_84 rfl rfl rfl hd_X5_init ⟨Nat.le_of_ble_eq_true rfl, Nat.le_of_ble_eq_true rfl⟩) (tg_preS hAm hA hw) rfl rfl hl.1 rfl (lv_room (Nat.le_of_ble_eq_true rfl)) dX6_init_53 ⟨Nat.le_of_ble_eq_true rfl, Nat.le_of_ble_eq_true rfl⟩) hA hw (fun G_46 H locs hp hw => ?_)
  obtain ⟨q_49, kq_42, kq_49, o_48⟩ := hp
  have h1 := (o_48 _ (by decide) (by decide)).trans h1
  have kq_1 := (o_48 _ (by decide) (by decide)).trans kq_1
  have kq_11 := (o_48 _ (by decide) (by decide)).trans kq_11
  have kq_21 := (o_48 _ (by decide) (by decide)).trans kq_21
  have kq_31 := (o_48 _ (by decide) (by decide)).trans kq_31
  have kq_38 := (o_48 _ (by decide) (by decide)).trans kq_38
  refine tg_putF hx hb hown hAm hw lyX6 tyX6 tyX6_ok nmX6 h1 rfl 4 (by decide) qw_229 (fun _ h9 => h9) rfl hin rfl rfl rfl (Nat.le_of_ble_eq_true rfl) dX6_init_56 (fun G_50 H locs g_51 o_52 hw => ?_)
  have kq_1 := (o_52 _ (by decide)).trans kq_1
  have kq_11 := (o_52 _ (by decide)).trans kq_11
  have kq_21 := (o_52 _ (by decide)).trans kq_21
  have kq_31 := (o_52 _ (by decide)).trans kq_31
  have kq_38 := (o_52 _ (by decide)).trans kq_38
  have kq_42 := (o_52 _ (by decide)).trans kq_42
  have kq_49 := (o_52 _ (by decide)).trans kq_49
  have h1 : G_50 8 = some (a, .inr (7, [.ref q_1, .ref q_11, .ref q_21, .ref q_31, .ref q_42, .null, .null, .int 0, .int 0, .int 0, .int 0, .int 0, .int 0])) := g_51
  refine lv_aload_n hx hb dX6_init_59 rfl (lv_at hl 0 rfl) ?_
  refine tg_new 17 (C := RX2) (ci := 3) hx hb hown hAm hA hw lyX2 tyX2 tyX2_ok rfl qw_97 qw_98 qw_7 [.null, .null, .null, .null, .int 0, .int 0, .int 0, .int 0, .int 0, .int 0] rfl (Nat.le_of_ble_eq_true rfl) (Nat.le_of_ble_eq_true rfl) dX6_init_60 (fun q_53 G_54 H g_55 o_56 hw => ?_)
  have h1 := (o_56 _ (by decide)).trans h1
  have kq_1 := (o_56 _ (by decide)).trans kq_1
  have kq_11 := (o_56 _ (by decide)).trans kq_11
  have kq_21 := (o_56 _ (by decide)).trans kq_21
  have kq_31 := (o_56 _ (by decide)).trans kq_31
  have kq_38 := (o_56 _ (by decide)).trans kq_38
  have kq_42 := (o_56 _ (by decide)).trans kq_42
  have kq_49 := (o_56 _ (by decide)).trans kq_49
  have kq_53 : G_54 17 = some (q_53, .inr (3, [.null, .null, .null, .null, .int 0, .int 0, .int 0, .int 0, .int 0, .int 0])) := g_55
  refine lv_dup hx hb dX6_init_63 rfl ?_
  refine tg_callv (va_runIN (As := []) (rest := [.ref q_53, .ref a]) (Ts := []) ⟨hx, hb, hml, hown, fun _ h9 => absurd h9 List.not_mem_nil⟩ (in_duel l E _ G_54 kq_53) (rc_cnI hAm qw_99 qw_7 qw_101 qw_100 rfl rfl rfl hd_X2_init ⟨Nat.le_of_ble_eq_true rfl, Nat.le_of_ble_eq_true rfl⟩) (tg_preS hAm hA hw) rfl rfl hl.1 rfl (lv_room (Nat.le_of_ble_eq_true rfl)) dX6_init_64 ⟨Nat.le_of_ble_eq_true rfl, Nat.le_of_ble_eq_true rfl⟩) hA hw (fun G_57 H locs hp hw => ?_)
  obtain ⟨q18, q19, q20, q21, q22, q23, rr, rw9, k17, k18, k19, k20, k21, k22, k23, hrw9, hrow9, hoD⟩ := hp
  have h1 := (hoD 8 (by omega)).trans h1
  have kq_1 := (hoD 9 (by omega)).trans kq_1
  have kq_11 := (hoD 11 (by omega)).trans kq_11
  have kq_21 := (hoD 13 (by omega)).trans kq_21
  have kq_31 := (hoD 40 (by omega)).trans kq_31
  have kq_38 := (hoD 41 (by omega)).trans kq_38
  have kq_42 := (hoD 15 (by omega)).trans kq_42
  have kq_49 := (hoD 16 (by omega)).trans kq_49
  refine tg_putF hx hb hown hAm hw lyX6 tyX6 tyX6_ok nmX6 h1 rfl 5 (by decide) qw_230 (fun _ h9 => h9) rfl hin rfl rfl rfl (Nat.le_of_ble_eq_true rfl) dX6_init_67 (fun G_59 H locs g_60 o_61 hw => ?_)
  have kq_1 := (o_61 _ (by decide)).trans kq_1
  have kq_11 := (o_61 _ (by decide)).trans kq_11
  have kq_21 := (o_61 _ (by decide)).trans kq_21
  have kq_31 := (o_61 _ (by decide)).trans kq_31
  have kq_38 := (o_61 _ (by decide)).trans kq_38
  have kq_42 := (o_61 _ (by decide)).trans kq_42
  have kq_49 := (o_61 _ (by decide)).trans kq_49
  have k17 := (o_61 _ (by decide)).trans k17
  have k18 := (o_61 _ (by decide)).trans k18
  have k19 := (o_61 _ (by decide)).trans k19
  have k20 := (o_61 _ (by decide)).trans k20
  have k21 := (o_61 _ (by decide)).trans k21
  have k22 := (o_61 _ (by decide)).trans k22
  have k23 := (o_61 _ (by decide)).trans k23
  have h1 : G_59 8 = some (a, .inr (7, [.ref q_1, .ref q_11, .ref q_21, .ref q_31, .ref q_42, .ref q_53, .null, .int 0, .int 0, .int 0, .int 0, .int 0, .int 0])) := g_60
  refine lv_aload_n hx hb dX6_init_70 rfl (lv_at hl 0 rfl) ?_
  refine tg_new 31 (C := RX0) (ci := 1) hx hb hown hAm hA hw lyX0 tyX0 tyX0_ok rfl qw_144 qw_145 qw_8 [.int 0, .int 0, .int 0, .int 0] rfl (Nat.le_of_ble_eq_true rfl) (Nat.le_of_ble_eq_true rfl) dX6_init_71 (fun q_62 G_63 H g_64 o_65 hw => ?_)
  have h1 := (o_65 _ (by decide)).trans h1
  have kq_1 := (o_65 _ (by decide)).trans kq_1
  have kq_11 := (o_65 _ (by decide)).trans kq_11
  have kq_21 := (o_65 _ (by decide)).trans kq_21
  have kq_31 := (o_65 _ (by decide)).trans kq_31
  have kq_38 := (o_65 _ (by decide)).trans kq_38
  have kq_42 := (o_65 _ (by decide)).trans kq_42
  have kq_49 := (o_65 _ (by decide)).trans kq_49
  have k17 := (o_65 _ (by decide)).trans k17
  have k18 := (o_65 _ (by decide)).trans k18
  have k19 := (o_65 _ (by decide)).trans k19
  have k20 := (o_65 _ (by decide)).trans k20
  have k21 := (o_65 _ (by decide)).trans k21
  have k22 := (o_65 _ (by decide)).trans k22
  have k23 := (o_65 _ (by decide)).trans k23
  have kq_62 : G_63 31 = some (q_62, .inr (1, [.int 0, .int 0, .int 0, .int 0])) := g_64
  refine lv_dup hx hb dX6_init_74 rfl ?_
  refine tg_callv (va_runIN (As := []) (rest := [.ref q_62, .ref a]) (Ts := []) ⟨hx, hb, hml, hown, fun _ h9 => absurd h9 List.not_mem_nil⟩ (in_bis l E _ G_63 kq_62) (rc_cnI hAm qw_146 qw_8 qw_148 qw_147 rfl rfl rfl hd_X0_init ⟨Nat.le_of_ble_eq_true rfl, Nat.le_of_ble_eq_true rfl⟩) (tg_preS hAm hA hw) rfl rfl hl.1 rfl (lv_room (Nat.le_of_ble_eq_true rfl)) dX6_init_75 ⟨Nat.le_of_ble_eq_true rfl, Nat.le_of_ble_eq_true rfl⟩) hA hw (fun G_66 H locs hp hw => ?_)
  obtain ⟨kq_62, o_68⟩ := hp
  have h1 := (o_68 _ (by decide)).trans h1
  have kq_1 := (o_68 _ (by decide)).trans kq_1
  have kq_11 := (o_68 _ (by decide)).trans kq_11
  have kq_21 := (o_68 _ (by decide)).trans kq_21
  have kq_31 := (o_68 _ (by decide)).trans kq_31
  have kq_38 := (o_68 _ (by decide)).trans kq_38
  have kq_42 := (o_68 _ (by decide)).trans kq_42
  have kq_49 := (o_68 _ (by decide)).trans kq_49
  have k17 := (o_68 _ (by decide)).trans k17
  have k18 := (o_68 _ (by decide)).trans k18
  have k19 := (o_68 _ (by decide)).trans k19
  have k20 := (o_68 _ (by decide)).trans k20
  have k21 := (o_68 _ (by decide)).trans k21
  have k22 := (o_68 _ (by decide)).trans k22
  have k23 := (o_68 _ (by decide)).trans k23
  refine tg_putF hx hb hown hAm hw lyX6 tyX6 tyX6_ok nmX6 h1 rfl 6 (by decide) qw_231 (fun _ h9 => h9) rfl hin rfl rfl rfl (Nat.le_of_ble_eq_true rfl) dX6_init_78 (fun G_69 H locs g_70 o_71 hw => ?_)
  have kq_1 := (o_71 _ (by decide)).trans kq_1
  have kq_11 := (o_71 _ (by decide)).trans kq_11
  have kq_21 := (o_71 _ (by decide)).trans kq_21
  have kq_31 := (o_71 _ (by decide)).trans kq_31
  have kq_38 := (o_71 _ (by decide)).trans kq_38
  have kq_42 := (o_71 _ (by decide)).trans kq_42
  have kq_49 := (o_71 _ (by decide)).trans kq_49
  have k17 := (o_71 _ (by decide)).trans k17
  have k18 := (o_71 _ (by decide)).trans k18
  have k19 := (o_71 _ (by decide)).trans k19
  have k20 := (o_71 _ (by decide)).trans k20
  have k21 := (o_71 _ (by decide)).trans k21
  have k22 := (o_71 _ (by decide)).trans k22
  have k23 := (o_71 _ (by decide)).trans k23
  have kq_62 := (o_71 _ (by decide)).trans kq_62
  have h1 : G_69 8 = some (a, .inr (7, [.ref q_1, .ref q_11, .ref q_21, .ref q_31, .ref q_42, .ref q_53, .ref q_62, .int 0, .int 0, .int 0, .int 0, .int 0, .int 0])) := g_70
  refine lv_aload_n hx hb dX6_init_81 rfl (lv_at hl 0 rfl) ?_
  refine lv_iconst (v := 3) hx hb dX6_init_82 (by decide) ?_
  refine tg_put hx hb hown hAm hw lyX6 tyX6 tyX6_ok nmX6 h1 rfl 7 (by decide) qw_232 (fun _ h9 => h9) rfl rfl (by decide +kernel) (Nat.le_of_ble_eq_true rfl) dX6_init_83 (fun G_72 H locs g_73 o_74 hw => ?_)
  have kq_1 := (o_74 _ (by decide)).trans kq_1
  have kq_11 := (o_74 _ (by decide)).trans kq_11
  have kq_21 := (o_74 _ (by decide)).trans kq_21
  have kq_31 := (o_74 _ (by decide)).trans kq_31
  have kq_38 := (o_74 _ (by decide)).trans kq_38
  have kq_42 := (o_74 _ (by decide)).trans kq_42
  have kq_49 := (o_74 _ (by decide)).trans kq_49
  have k17 := (o_74 _ (by decide)).trans k17
  have k18 := (o_74 _ (by decide)).trans k18
  have k19 := (o_74 _ (by decide)).trans k19
  have k20 := (o_74 _ (by decide)).trans k20
  have k21 := (o_74 _ (by decide)).trans k21
  have k22 := (o_74 _ (by decide)).trans k22
  have k23 := (o_74 _ (by decide)).trans k23
  have kq_62 := (o_74 _ (by decide)).trans kq_62
  have h1 : G_72 8 = some (a, .inr (7, [.ref q_1, .ref q_11, .ref q_21, .ref q_31, .ref q_42, .ref q_53, .ref q_62, .int 3, .int 0, .int 0, .int 0, .int 0, .int 0])) := g_73
  refine lv_aload_n hx hb dX6_init_86 rfl (lv_at hl 0 rfl) ?_
  refine lv_bipush (v := 50) hx hb dX6_init_87 (by decide) ?_
  refine tg_put hx hb hown hAm hw lyX6 tyX6 tyX6_ok nmX6 h1 rfl 8 (by decide) qw_233 (fun _ h9 => h9) rfl rfl (by decide +kernel) (Nat.le_of_ble_eq_true rfl) dX6_init_89 (fun G_75 H locs g_76 o_77 hw => ?_)
  have kq_1 := (o_77 _ (by decide)).trans kq_1
  have kq_11 := (o_77 _ (by decide)).trans kq_11
  have kq_21 := (o_77 _ (by decide)).trans kq_21
  have kq_31 := (o_77 _ (by decide)).trans kq_31
  have kq_38 := (o_77 _ (by decide)).trans kq_38
  have kq_42 := (o_77 _ (by decide)).trans kq_42
  have kq_49 := (o_77 _ (by decide)).trans kq_49
  have k17 := (o_77 _ (by decide)).trans k17
  have k18 := (o_77 _ (by decide)).trans k18
  have k19 := (o_77 _ (by decide)).trans k19
  have k20 := (o_77 _ (by decide)).trans k20
  have k21 := (o_77 _ (by decide)).trans k21
  have k22 := (o_77 _ (by decide)).trans k22
  have k23 := (o_77 _ (by decide)).trans k23
  have kq_62 := (o_77 _ (by decide)).trans kq_62
  have h1 : G_75 8 = some (a, .inr (7, [.ref q_1, .ref q_11, .ref q_21, .ref q_31, .ref q_42, .ref q_53, .ref q_62, .int 3, .int 50, .int 0, .int 0, .int 0, .int 0])) := g_76
  refine lv_aload_n hx hb dX6_init_92 rfl (lv_at hl 0 rfl) ?_
  refine lv_sipush (v := 1000) hx hb dX6_init_93 (by decide) ?_
  refine tg_put hx hb hown hAm hw lyX6 tyX6 tyX6_ok nmX6 h1 rfl 9 (by decide) qw_234 (fun _ h9 => h9) rfl rfl (by decide +kernel) (Nat.le_of_ble_eq_true rfl) dX6_init_96 (fun G_78 H locs g_79 o_80 hw => ?_)
  have kq_1 := (o_80 _ (by decide)).trans kq_1
  have kq_11 := (o_80 _ (by decide)).trans kq_11
  have kq_21 := (o_80 _ (by decide)).trans kq_21
  have kq_31 := (o_80 _ (by decide)).trans kq_31
  have kq_38 := (o_80 _ (by decide)).trans kq_38
  have kq_42 := (o_80 _ (by decide)).trans kq_42
  have kq_49 := (o_80 _ (by decide)).trans kq_49
  have k17 := (o_80 _ (by decide)).trans k17
  have k18 := (o_80 _ (by decide)).trans k18
  have k19 := (o_80 _ (by decide)).trans k19
  have k20 := (o_80 _ (by decide)).trans k20
  have k21 := (o_80 _ (by decide)).trans k21
  have k22 := (o_80 _ (by decide)).trans k22
  have k23 := (o_80 _ (by decide)).trans k23
  have kq_62 := (o_80 _ (by decide)).trans kq_62
  have h1 : G_78 8 = some (a, .inr (7, [.ref q_1, .ref q_11, .ref q_21, .ref q_31, .ref q_42, .ref q_53, .ref q_62, .int 3, .int 50, .int 1000, .int 0, .int 0, .int 0])) := g_79
  refine lv_aload_n hx hb dX6_init_99 rfl (lv_at hl 0 rfl) ?_
  refine lv_bipush (v := 100) hx hb dX6_init_100 (by decide) ?_
  refine tg_put hx hb hown hAm hw lyX6 tyX6 tyX6_ok nmX6 h1 rfl 10 (by decide) qw_235 (fun _ h9 => h9) rfl rfl (by decide +kernel) (Nat.le_of_ble_eq_true rfl) dX6_init_102 (fun G_81 H locs g_82 o_83 hw => ?_)
  have kq_1 := (o_83 _ (by decide)).trans kq_1
  have kq_11 := (o_83 _ (by decide)).trans kq_11
  have kq_21 := (o_83 _ (by decide)).trans kq_21
  have kq_31 := (o_83 _ (by decide)).trans kq_31
  have kq_38 := (o_83 _ (by decide)).trans kq_38
  have kq_42 := (o_83 _ (by decide)).trans kq_42
  have kq_49 := (o_83 _ (by decide)).trans kq_49
  have k17 := (o_83 _ (by decide)).trans k17
  have k18 := (o_83 _ (by decide)).trans k18
  have k19 := (o_83 _ (by decide)).trans k19
  have k20 := (o_83 _ (by decide)).trans k20
  have k21 := (o_83 _ (by decide)).trans k21
  have k22 := (o_83 _ (by decide)).trans k22
  have k23 := (o_83 _ (by decide)).trans k23
  have kq_62 := (o_83 _ (by decide)).trans kq_62
  have h1 : G_81 8 = some (a, .inr (7, [.ref q_1, .ref q_11, .ref q_21, .ref q_31, .ref q_42, .ref q_53, .ref q_62, .int 3, .int 50, .int 1000, .int 100, .int 0, .int 0])) := g_82
  refine lv_aload_n hx hb dX6_init_105 rfl (lv_at hl 0 rfl) ?_
  refine lv_iconst (v := 0) hx hb dX6_init_106 (by decide) ?_
  refine tg_put hx hb hown hAm hw lyX6 tyX6 tyX6_ok nmX6 h1 rfl 11 (by decide) qw_236 (fun _ h9 => h9) rfl rfl (by decide +kernel) (Nat.le_of_ble_eq_true rfl) dX6_init_107 (fun G_84 H locs g_85 o_86 hw => ?_)
  have kq_1 := (o_86 _ (by decide)).trans kq_1
  have kq_11 := (o_86 _ (by decide)).trans kq_11
  have kq_21 := (o_86 _ (by decide)).trans kq_21
  have kq_31 := (o_86 _ (by decide)).trans kq_31
  have kq_38 := (o_86 _ (by decide)).trans kq_38
  have kq_42 := (o_86 _ (by decide)).trans kq_42
  have kq_49 := (o_86 _ (by decide)).trans kq_49
  have k17 := (o_86 _ (by decide)).trans k17
  have k18 := (o_86 _ (by decide)).trans k18
  have k19 := (o_86 _ (by decide)).trans k19
  have k20 := (o_86 _ (by decide)).trans k20
  have k21 := (o_86 _ (by decide)).trans k21
  have k22 := (o_86 _ (by decide)).trans k22
  have k23 := (o_86 _ (by decide)).trans k23
  have kq_62 := (o_86 _ (by decide)).trans kq_62
  have h1 : G_84 8 = some (a, .inr (7, [.ref q_1, .ref q_11, .ref q_21, .ref q_31, .ref q_42, .ref q_53, .ref q_62, .int 3, .int 50, .int 1000, .int 100, .int 0, .int 0])) := g_85
  refine lv_aload_n hx hb dX6_init_110 rfl (lv_at hl 0 rfl) ?_
  refine lv_iconst (v := (-1)) hx hb dX6_init_111 (by decide) ?_
  refine tg_put hx hb hown hAm hw lyX6 tyX6 tyX6_ok nmX6 h1 rfl 12 (by decide) qw_237 (fun _ h9 => h9) rfl rfl (by decide +kernel) (Nat.le_of_ble_eq_true rfl) dX6_init_112 (fun G_87 H locs g_88 o_89 hw => ?_)
  have kq_1 := (o_89 _ (by decide)).trans kq_1
  have kq_11 := (o_89 _ (by decide)).trans kq_11
  have kq_21 := (o_89 _ (by decide)).trans kq_21
  have kq_31 := (o_89 _ (by decide)).trans kq_31
  have kq_38 := (o_89 _ (by decide)).trans kq_38
  have kq_42 := (o_89 _ (by decide)).trans kq_42
  have kq_49 := (o_89 _ (by decide)).trans kq_49
  have k17 := (o_89 _ (by decide)).trans k17
  have k18 := (o_89 _ (by decide)).trans k18
  have k19 := (o_89 _ (by decide)).trans k19
  have k20 := (o_89 _ (by decide)).trans k20
  have k21 := (o_89 _ (by decide)).trans k21
  have k22 := (o_89 _ (by decide)).trans k22
  have k23 := (o_89 _ (by decide)).trans k23
  have kq_62 := (o_89 _ (by decide)).trans kq_62
  have h1 : G_87 8 = some (a, .inr (7, [.ref q_1, .ref q_11, .ref q_21, .ref q_31, .ref q_42, .ref q_53, .ref q_62, .int 3, .int 50, .int 1000, .int 100, .int 0, .int (-1)])) := g_88
  have hL11 : ltH E G_87 11 q_11 0 (fun _ => 0) := ⟨0, _, kq_11, Or.inl ⟨rfl, rfl⟩⟩
  have helm11 : ∀ i9, i9 < 0 → ∃ (te9 : Nat) (vs : List Value), te9 ≠ 63 ∧ te9 ≠ 11 ∧ G_87 te9 = some ((fun _ : Nat => 0) i9, .inr (2, vs)) := fun i9 h9 => absurd h9 (Nat.not_lt_zero i9)
  refine lv_aload_n hx hb dX6_init_115 rfl (lv_at hl 0 rfl) ?_
  refine tg_get (v := .ref q_11) hx hb hown hAm hw lyX6 h1 rfl 1 (by decide) qw_226 (fun _ h9 => h9) rfl dX6_init_116 ?_
  refine lv_aload_n hx hb dX6_init_119 rfl (lv_at hl 0 rfl) ?_
  refine tg_get (v := .ref q_31) hx hb hown hAm hw lyX6 h1 rfl 3 (by decide) qw_228 (fun _ h9 => h9) rfl dX6_init_120 ?_
  refine tg_calli (va_runV (As := [.ref q_31]) (rest := []) (Ts := []) ⟨hx, hb, hml, hown, fun _ h9 => absurd h9 List.not_mem_nil⟩ (li_addC l E _ G_87 (t := 11) (te := 40) hL11 helm11 (by omega) (by omega) kq_31 ⟨by omega, by omega, by omega⟩) (rc_cwV hAm qw_167 qw_4 qw_170 qw_168 qw_169 rfl rfl hd_Jx4a65c_add_9ea2d ⟨Nat.le_of_ble_eq_true rfl, Nat.le_of_ble_eq_true rfl⟩) (tg_preV hAm hA hw kq_11 (q := vwCl[0]) rfl) rfl rfl hl.1 rfl (lv_room (Nat.le_of_ble_eq_true rfl)) dX6_init_123 ⟨Nat.le_of_ble_eq_true rfl, Nat.le_of_ble_eq_true rfl⟩) hA hw (fun r_91 G_90 H locs hp hw => ?_)
  obtain ⟨hL11, hu11⟩ := hp
  have h1 := (hu11 8 (by omega) (by omega) (by omega)).trans h1
  have kq_1 := (hu11 9 (by omega) (by omega) (by omega)).trans kq_1
  have kq_21 := (hu11 13 (by omega) (by omega) (by omega)).trans kq_21
  have kq_31 := (hu11 40 (by omega) (by omega) (by omega)).trans kq_31
  have kq_38 := (hu11 41 (by omega) (by omega) (by omega)).trans kq_38
  have kq_42 := (hu11 15 (by omega) (by omega) (by omega)).trans kq_42
  have kq_49 := (hu11 16 (by omega) (by omega) (by omega)).trans kq_49
  have k17 := (hu11 17 (by omega) (by omega) (by omega)).trans k17
  have k18 := (hu11 18 (by omega) (by omega) (by omega)).trans k18
  have k19 := (hu11 19 (by omega) (by omega) (by omega)).trans k19
  have k20 := (hu11 20 (by omega) (by omega) (by omega)).trans k20
  have k21 := (hu11 21 (by omega) (by omega) (by omega)).trans k21
  have k22 := (hu11 22 (by omega) (by omega) (by omega)).trans k22
  have k23 := (hu11 23 (by omega) (by omega) (by omega)).trans k23
  have kq_62 := (hu11 31 (by omega) (by omega) (by omega)).trans kq_62
  refine lv_pop hx hb dX6_init_126 rfl ?_
  have hrow9 := fun (c9 : Nat) (h9 : c9 < 7) => ((hu11 (24 + c9) (by omega) (by omega) (by omega)).trans ((o_89 (24 + c9) (by omega)).trans ((o_86 (24 + c9) (by omega)).trans ((o_83 (24 + c9) (by omega)).trans ((o_80 (24 + c9) (by omega)).trans ((o_77 (24 + c9) (by omega)).trans ((o_74 (24 + c9) (by omega)).trans ((o_71 (24 + c9) (by omega)).trans ((o_68 (24 + c9) (by omega)).trans ((o_65 (24 + c9) (by omega)).trans ((o_61 (24 + c9) (by omega))))))))))))).trans (hrow9 c9 h9)
  have had9 : ∀ c9, c9 < 7 → (fun t => if t = 8 then a else if t = 9 then q_1 else if t = 11 then q_11 else if t = 13 then q_21 else if t = 40 then q_31 else if t = 41 then q_38 else if t = 15 then q_42 else if t = 16 then q_49 else if t = 17 then q_53 else if t = 18 then q18 else if t = 19 then q19 else if t = 20 then q20 else if t = 21 then q21 else if t = 22 then q22 else if t = 23 then q23 else if t = 31 then q_62 else rr (t - 24)) (24 + c9) = rr c9 := by intro c9 h9; rcases (show c9 = 0 ∨ c9 = 1 ∨ c9 = 2 ∨ c9 = 3 ∨ c9 = 4 ∨ c9 = 5 ∨ c9 = 6 by omega) with rfl | rfl | rfl | rfl | rfl | rfl | rfl <;> rfl
  exact tg_vret hx hb hr hlocks hw (⟨fun t => if t = 8 then a else if t = 9 then q_1 else if t = 11 then q_11 else if t = 13 then q_21 else if t = 40 then q_31 else if t = 41 then q_38 else if t = 15 then q_42 else if t = 16 then q_49 else if t = 17 then q_53 else if t = 18 then q18 else if t = 19 then q19 else if t = 20 then q20 else if t = 21 then q21 else if t = 22 then q22 else if t = 23 then q23 else if t = 31 then q_62 else rr (t - 24), rfl, fun pr => ⟨h1, ⟨⟨0, _, kq_1, Or.inl ⟨rfl, rfl⟩⟩, hL11.congr (fun i9 h9 => by obtain rfl : i9 = 0 := (by omega); rfl), ⟨0, _, kq_21, Or.inl ⟨rfl, rfl⟩⟩⟩, kq_62, fun j hj => absurd hj (Nat.not_lt_zero j), fun c hc => (by obtain rfl : c = 0 := (by omega); exact ⟨kq_31, ⟨0, _, kq_38, Or.inl ⟨rfl, rfl⟩⟩⟩), ⟨[], kq_42, ⟨_, kq_49, fun i9 h9 => absurd h9 (Nat.not_lt_zero i9)⟩, Nat.zero_le _, fun i9 => by simp⟩, ⟨[], k18, ⟨_, k19, fun i9 h9 => absurd h9 (Nat.not_lt_zero i9)⟩, Nat.zero_le _, fun i9 => by simp⟩, ⟨[], k20, ⟨_, k21, fun i9 h9 => absurd h9 (Nat.not_lt_zero i9)⟩, Nat.zero_le _, fun i9 => by simp⟩, ⟨_, _, _, _, _, _, k17⟩, ⟨_, k22⟩, ⟨rw9, k23, fun c9 h9 => by rw [had9 c9 h9]; exact hrw9 c9 h9⟩, fun c9 h9 => ⟨_, by rw [had9 c9 h9]; exact hrow9 c9 h9⟩⟩⟩) (Nat.le_of_ble_eq_true rfl) (Nat.le_of_ble_eq_true rfl) dX6_init_127
theorem hd_X3_init : yX3_init.cls ≠ "java/lang/invoke/MethodHandle" ∧ yX3_init.cls ≠ "java/lang/invoke/VarHandle" ∧ (parseMethodDescriptor yX3_init.desc).map (fun d => d.parameters.length) = some 3 := by decide +kernel
set_option maxHeartbeats 4000000 in
set_option maxRecDepth 100000 in
theorem pu_machine (l : Launch) (E : rc_E) (sz : Nat) (ad : Nat → Nat) (pr : Nat → Nat × Nat) (nm nc : Nat) (G : tg_G) (hsi : siH E ad pr nm nc G) (hnc1 : 1 ≤ nc) (hnc6 : nc ≤ 6) (hnm : nm < 2) (p0 x : Nat) (hp1 : 1 ≤ p0) (hp2 : p0 ≤ 60) (hx1 : 50 ≤ x) (hx2 : x ≤ 200) : tg_M l yX6_machine [Cond.code yX6_machine cX6_machine 3 (some FieldType.int)] { frames := 7, cells := 2, slots := 208, locals := 171 } E [.ref (ad 8), .int (nI p0), .int (nI x)] G sz (tg_Qi E (fun r u => ∃ ad' : Nat → Nat, ad' 8 = ad 8 ∧ siH E ad' (prU pr nm p0 x) (nm + 1) nc u)) 2 208 := by
  refine tg_in (cc := cX6_machine) (maxL := 3) (ret := (some FieldType.int)) (tg_Qi E (fun r u => ∃ ad' : Nat → Nat, ad' 8 = ad 8 ∧ siH E ad' (prU pr nm p0 x) (nm + 1) nc u)) (by decide) rfl (Nat.le_of_ble_eq_true rfl) ?_
  intro p e s m args below meth cd ls A hx hb hr hml hown hlocks hin hA hAm hw hl
  have hown : s.vm.findClass RX6 = some m.cls := hown
  have hl : lv_has ls 3 [(0, .ref (ad 8)), (1, .int (nI p0)), (2, .int (nI x))] := hl
  obtain ⟨hco, ⟨hL9, hL11, hL13⟩, h31, hma, hch, hsc⟩ := id hsi
  obtain ⟨mc9, la9, hl9, -⟩ := id hL9
  refine lv_iload_n hx hb dX6_machine_0 rfl (lv_at hl 1 rfl) ?_
  refine lv_iconst (v := 1) hx hb dX6_machine_1 (by decide) ?_
  refine lv_bipush (v := 60) hx hb dX6_machine_2 (by decide) ?_
  refine tg_callRi (va_runS (As := [.int (nI p0), .int 1, .int 60]) (rest := []) (Ts := []) ⟨hx, hb, hml, hown, fun _ h9 => absurd h9 List.not_mem_nil⟩ (lf_isOutside l E _ G (nI p0) 1 60 (fun z9 => absurd ((nI_ltI (a := p0) (b := 1) (by omega) (by omega)).mp z9) (by omega)) ((nI_leI (a := p0) (b := 60) (by omega) (by omega)).mpr (by omega))) (rc_cwS hAm qw_269 qw_1 qw_271 qw_270 rfl rfl hd_X6_isOutside ⟨Nat.le_of_ble_eq_true rfl, Nat.le_of_ble_eq_true rfl⟩) (tg_preS hAm hA hw) rfl rfl hl.1 rfl (lv_room (Nat.le_of_ble_eq_true rfl)) dX6_machine_4 ⟨Nat.le_of_ble_eq_true rfl, Nat.le_of_ble_eq_true rfl⟩) hA hw (fun H locs hw => ?_)
  refine lv_if_ne (tgt := 17) hx hb dX6_machine_7 (by decide) (fun c9 => absurd (by decide) c9) (fun _ => ?_)
  refine lv_iload_n hx hb dX6_machine_10 rfl (lv_at hl 2 rfl) ?_
  refine tg_callRi (va_runS (As := [.int (nI x)]) (rest := []) (Ts := []) ⟨hx, hb, hml, hown, fun _ h9 => absurd h9 List.not_mem_nil⟩ (lf_isNoMeasure l E _ G (nI x) (fun z9 => absurd ((nI_ltI (a := x) (b := 50) (by omega) (by omega)).mp z9) (by omega)) ((nI_leI (a := x) (b := 200) (by omega) (by omega)).mpr (by omega))) (rc_cwS hAm qw_272 qw_1 qw_274 qw_273 rfl rfl hd_X6_isNoMeasure ⟨Nat.le_of_ble_eq_true rfl, Nat.le_of_ble_eq_true rfl⟩) (tg_preS hAm hA hw) rfl rfl hl.1 rfl (lv_room (Nat.le_of_ble_eq_true rfl)) dX6_machine_11 ⟨Nat.le_of_ble_eq_true rfl, Nat.le_of_ble_eq_true rfl⟩) hA hw (fun H locs hw => ?_)
  refine lv_if_eq (tgt := 27) hx hb dX6_machine_14 (by decide) (fun _ => ?_) (fun c9 => absurd (by decide) c9)
  refine lv_aload_n hx hb dX6_machine_27 rfl (lv_at hl 0 rfl) ?_
  refine tg_get (v := .ref (ad 9)) hx hb hown hAm hw lyX6 hco rfl 0 (by decide) qw_225 (fun _ h9 => h9) rfl dX6_machine_28 ?_
  refine tg_callRi (va_runV (As := []) (rest := []) (Ts := []) ⟨hx, hb, hml, hown, fun _ h9 => absurd h9 List.not_mem_nil⟩ (lf_size l E _ G (n := nm) hl9) (rc_cwV hAm qw_343 qw_4 qw_346 qw_344 qw_345 rfl rfl hd_Jx4a65c_size_8abf5 ⟨Nat.le_of_ble_eq_true rfl, Nat.le_of_ble_eq_true rfl⟩) (tg_preV hAm hA hw hl9 (q := vwCl[0]) rfl) rfl rfl hl.1 rfl (lv_room (Nat.le_of_ble_eq_true rfl)) dX6_machine_31 ⟨Nat.le_of_ble_eq_true rfl, Nat.le_of_ble_eq_true rfl⟩) hA hw (fun H locs hw => ?_)
  refine lv_iconst (v := 4) hx hb dX6_machine_34 (by decide) ?_
  refine lv_icmp_lt (tgt := 48) hx hb dX6_machine_35 (by decide) (fun _ => ?_) (fun c9 => absurd ((nI_ltI (a := nm) (b := 4) (by omega) (by omega)).mpr (by omega)) c9)
  refine lv_aload_n hx hb dX6_machine_48 rfl (lv_at hl 0 rfl) ?_
  refine tg_get (v := .ref (ad 9)) hx hb hown hAm hw lyX6 hco rfl 0 (by decide) qw_225 (fun _ h9 => h9) rfl dX6_machine_49 ?_
  refine tg_new (32 + nm) (C := RX3) (ci := 4) hx hb hown hAm hA hw lyX3 tyX3 tyX3_ok rfl qw_363 qw_364 qw_18 [.int 0, .int 0, .int 0, .int 0, .int 0, .int 0, .int 0, .int 0] rfl (Nat.le_of_ble_eq_true rfl) (Nat.le_of_ble_eq_true rfl) dX6_machine_52 (fun q_1 G_2 H g_3 o_4 hw => ?_)
  have hco := (o_4 _ (by omega)).trans hco
  have hl9 := (o_4 _ (by omega)).trans hl9
  have kq_1 : G_2 (32 + nm) = some (q_1, .inr (4, [.int 0, .int 0, .int 0, .int 0, .int 0, .int 0, .int 0, .int 0])) := g_3
  refine lv_dup hx hb dX6_machine_55 rfl ?_
  refine lv_aload_n hx hb dX6_machine_56 rfl (lv_at hl 0 rfl) ?_
  refine tg_get (v := .ref (ad 9)) hx hb hown hAm hw lyX6 hco rfl 0 (by decide) qw_225 (fun _ h9 => h9) rfl dX6_machine_57 ?_
  refine tg_callRi (va_runV (As := []) (rest := [.ref q_1, .ref q_1, .ref (ad 9)]) (Ts := []) ⟨hx, hb, hml, hown, fun _ h9 => absurd h9 List.not_mem_nil⟩ (lf_size l E _ G_2 (n := nm) hl9) (rc_cwV hAm qw_343 qw_4 qw_346 qw_344 qw_345 rfl rfl hd_Jx4a65c_size_8abf5 ⟨Nat.le_of_ble_eq_true rfl, Nat.le_of_ble_eq_true rfl⟩) (tg_preV hAm hA hw hl9 (q := vwCl[0]) rfl) rfl rfl hl.1 rfl (lv_room (Nat.le_of_ble_eq_true rfl)) dX6_machine_60 ⟨Nat.le_of_ble_eq_true rfl, Nat.le_of_ble_eq_true rfl⟩) hA hw (fun H locs hw => ?_)
  refine lv_iload_n hx hb dX6_machine_63 rfl (lv_at hl 1 rfl) ?_
  refine lv_iload_n hx hb dX6_machine_64 rfl (lv_at hl 2 rfl) ?_
  refine tg_callv (va_runIN (As := [.int (nI nm), .int (nI p0), .int (nI x)]) (rest := [.ref q_1, .ref (ad 9)]) (Ts := []) ⟨hx, hb, hml, hown, fun _ h9 => absurd h9 List.not_mem_nil⟩ (in_mach l E _ G_2 nm p0 x kq_1) (rc_cnI hAm qw_365 qw_18 qw_367 qw_366 rfl rfl rfl hd_X3_init ⟨Nat.le_of_ble_eq_true rfl, Nat.le_of_ble_eq_true rfl⟩) (tg_preS hAm hA hw) rfl rfl hl.1 rfl (lv_room (Nat.le_of_ble_eq_true rfl)) dX6_machine_65 ⟨Nat.le_of_ble_eq_true rfl, Nat.le_of_ble_eq_true rfl⟩) hA hw (fun G_5 H locs hp hw => ?_)
  obtain ⟨kq_1, o_7⟩ := hp
  have hco := (o_7 _ (by omega)).trans hco
  have hl9 := (o_7 _ (by omega)).trans hl9
  have hL9 := hL9.of ((fun t9 (h9 : t9 = 9) => (o_7 t9 (by omega)).trans ((o_4 t9 (by omega)))) 9 rfl) ((fun t9 (h9 : t9 = 10) => (o_7 t9 (by omega)).trans ((o_4 t9 (by omega)))) (9 + 1) rfl)
  have helm9 : ∀ i9, i9 < nm → ∃ (te9 : Nat) (vs : List Value), te9 ≠ 63 ∧ te9 ≠ 9 ∧ G_5 te9 = some (ad (32 + i9), .inr (4, vs)) := fun i9 h9 => ⟨32 + i9, _, by omega, by omega, ((fun t9 (h8 : t9 < 32 + nm) => (o_7 t9 (by omega)).trans ((o_4 t9 (by omega)))) (32 + i9) (by omega)).trans (hma i9 h9)⟩
  refine tg_calli (va_runV (As := [.ref q_1]) (rest := []) (Ts := []) ⟨hx, hb, hml, hown, fun _ h9 => absurd h9 List.not_mem_nil⟩ (li_addM l E _ G_5 (t := 9) (te := 32 + nm) hL9 helm9 (by omega) (by omega) kq_1 ⟨by omega, by omega, by omega⟩) (rc_cwV hAm qw_167 qw_4 qw_170 qw_168 qw_169 rfl rfl hd_Jx4a65c_add_9ea2d ⟨Nat.le_of_ble_eq_true rfl, Nat.le_of_ble_eq_true rfl⟩) (tg_preV hAm hA hw hl9 (q := vwCl[0]) rfl) rfl rfl hl.1 rfl (lv_room (Nat.le_of_ble_eq_true rfl)) dX6_machine_68 ⟨Nat.le_of_ble_eq_true rfl, Nat.le_of_ble_eq_true rfl⟩) hA hw (fun r_9 G_8 H locs hp hw => ?_)
  obtain ⟨hL9, hu9⟩ := hp
  have hco := (hu9 8 (by omega) (by omega) (by omega)).trans hco
  have kq_1 := (hu9 (32 + nm) (by omega) (by omega) (by omega)).trans kq_1
  obtain ⟨mc8, la8, hl8, -⟩ := id hL9
  refine lv_pop hx hb dX6_machine_71 rfl ?_
  refine lv_aload_n hx hb dX6_machine_72 rfl (lv_at hl 0 rfl) ?_
  refine tg_get (v := .ref (ad 9)) hx hb hown hAm hw lyX6 hco rfl 0 (by decide) qw_225 (fun _ h9 => h9) rfl dX6_machine_73 ?_
  refine tg_callRi (va_runV (As := []) (rest := []) (Ts := []) ⟨hx, hb, hml, hown, fun _ h9 => absurd h9 List.not_mem_nil⟩ (lf_size l E _ G_8 (n := nm + 1) hl8) (rc_cwV hAm qw_343 qw_4 qw_346 qw_344 qw_345 rfl rfl hd_Jx4a65c_size_8abf5 ⟨Nat.le_of_ble_eq_true rfl, Nat.le_of_ble_eq_true rfl⟩) (tg_preV hAm hA hw hl8 (q := vwCl[0]) rfl) rfl rfl hl.1 rfl (lv_room (Nat.le_of_ble_eq_true rfl)) dX6_machine_76 ⟨Nat.le_of_ble_eq_true rfl, Nat.le_of_ble_eq_true rfl⟩) hA hw (fun H locs hw => ?_)
  refine lv_iconst (v := 1) hx hb dX6_machine_79 (by decide) ?_
  refine lv_isub hx hb dX6_machine_80 ?_
  refine rc_topi (nI nm) (nI_pred _) ?_
  exact tg_iret hx hb hr hlocks hw (hsi.mch hnc1 hnc6 hnm hL9 kq_1 (fun t9 h1 h2 h3 h4 => (hu9 t9 (by omega) (by omega) (by omega)).trans ((o_7 t9 (by omega)).trans ((o_4 t9 (by omega)))))) (Nat.le_of_ble_eq_true rfl) (Nat.le_of_ble_eq_true rfl) dX6_machine_81
set_option maxHeartbeats 16000000 in
set_option maxRecDepth 100000 in
theorem pu_changes (l : Launch) (E : rc_E) (sz : Nat) (ad : Nat → Nat) (pr : Nat → Nat × Nat) (nm : Nat) (G : tg_G) (hsi : siH E ad pr nm 1 G) (hnm : nm ≤ 2) : tg_M l yX6_changes [Cond.code yX6_changes cX6_changes 3 (some FieldType.int)] { frames := 7, cells := 15, slots := 1030, locals := 171 } E [.ref (ad 8), .int 5] G sz (tg_Qi E (fun r u => ∃ ad' : Nat → Nat, ad' 8 = ad 8 ∧ siH E ad' pr nm 6 u)) 15 1030 := by
  refine tg_in (cc := cX6_changes) (maxL := 3) (ret := (some FieldType.int)) (tg_Qi E (fun r u => ∃ ad' : Nat → Nat, ad' 8 = ad 8 ∧ siH E ad' pr nm 6 u)) (by decide) rfl (Nat.le_of_ble_eq_true rfl) ?_
  intro p e s m args below meth cd ls A hx hb hr hml hown hlocks hin hA hAm hw hl
  have hown : s.vm.findClass RX6 = some m.cls := hown
  have hl : lv_has ls 3 [(0, .ref (ad 8)), (1, .int 5)] := hl
  obtain ⟨hco, ⟨hL9, hL11, hL13⟩, h31, hma, hch, hsc⟩ := id hsi
  obtain ⟨mc9, la9, hl9, -⟩ := id hL11
  refine lv_iload_n hx hb dX6_changes_0 rfl (lv_at hl 1 rfl) ?_
  refine lv_iconst (v := 1) hx hb dX6_changes_1 (by decide) ?_
  refine lv_bipush (v := 39) hx hb dX6_changes_2 (by decide) ?_
  refine tg_callRi (va_runS (As := [.int 5, .int 1, .int 39]) (rest := []) (Ts := []) ⟨hx, hb, hml, hown, fun _ h9 => absurd h9 List.not_mem_nil⟩ (lf_isOutside l E _ G 5 1 39 (by decide) (by decide)) (rc_cwS hAm qw_269 qw_1 qw_271 qw_270 rfl rfl hd_X6_isOutside ⟨Nat.le_of_ble_eq_true rfl, Nat.le_of_ble_eq_true rfl⟩) (tg_preS hAm hA hw) rfl rfl hl.1 rfl (lv_room (Nat.le_of_ble_eq_true rfl)) dX6_changes_4 ⟨Nat.le_of_ble_eq_true rfl, Nat.le_of_ble_eq_true rfl⟩) hA hw (fun H locs hw => ?_)
  refine lv_if_eq (tgt := 20) hx hb dX6_changes_7 (by decide) (fun _ => ?_) (fun c9 => absurd (by decide) c9)
  refine lv_aload_n hx hb dX6_changes_20 rfl (lv_at hl 0 rfl) ?_
  refine tg_get (v := .ref (ad 11)) hx hb hown hAm hw lyX6 hco rfl 1 (by decide) qw_226 (fun _ h9 => h9) rfl dX6_changes_21 ?_
  refine tg_callRi (va_runV (As := []) (rest := []) (Ts := []) ⟨hx, hb, hml, hown, fun _ h9 => absurd h9 List.not_mem_nil⟩ (lf_size l E _ G (n := 1) hl9) (rc_cwV hAm qw_343 qw_4 qw_346 qw_344 qw_345 rfl rfl hd_Jx4a65c_size_8abf5 ⟨Nat.le_of_ble_eq_true rfl, Nat.le_of_ble_eq_true rfl⟩) (tg_preV hAm hA hw hl9 (q := vwCl[0]) rfl) rfl rfl hl.1 rfl (lv_room (Nat.le_of_ble_eq_true rfl)) dX6_changes_24 ⟨Nat.le_of_ble_eq_true rfl, Nat.le_of_ble_eq_true rfl⟩) hA hw (fun H locs hw => ?_)
  refine lv_iload_n hx hb dX6_changes_27 rfl (lv_at hl 1 rfl) ?_
  refine lv_iadd hx hb dX6_changes_28 ?_
  refine rc_topi (nI (1 + 5)) (nI_add 1 5) ?_
  refine lv_bipush (v := 40) hx hb dX6_changes_29 (by decide) ?_
  refine lv_icmp_le (tgt := 44) hx hb dX6_changes_31 (by decide) (fun _ => ?_) (fun c9 => absurd ((nI_leI (a := 1 + 5) (b := 40) (by omega) (by omega)).mpr (by omega)) c9)
  refine lv_iconst (v := 0) hx hb dX6_changes_44 (by decide) ?_
  refine lv_istore_n (lv' := [(2, .int 0), (0, .ref (ad 8)), (1, .int 5)]) hx hb dX6_changes_45 rfl hl (by decide) rfl (fun ls hl => ?_)
  refine lv_iload_n hx hb dX6_changes_46 rfl (lv_at hl 0 rfl) ?_
  refine lv_iload_n hx hb dX6_changes_47 rfl (lv_at hl 2 rfl) ?_
  refine lv_icmp_ge (tgt := 72) hx hb dX6_changes_48 (by decide) (fun c9 => absurd c9 (by decide)) (fun _ => ?_)
  refine lv_aload_n hx hb dX6_changes_51 rfl (lv_at hl 1 rfl) ?_
  refine tg_get (v := .ref (ad 11)) hx hb hown hAm hw lyX6 hco rfl 1 (by decide) qw_226 (fun _ h9 => h9) rfl dX6_changes_52 ?_
  refine tg_new 43 (C := RX1) (ci := 2) hx hb hown hAm hA hw lyX1 tyX1 tyX1_ok rfl qw_59 qw_60 qw_5 [.null, .int 0, .int 0] rfl (Nat.le_of_ble_eq_true rfl) (Nat.le_of_ble_eq_true rfl) dX6_changes_55 (fun q_1 G_2 H g_3 o_4 hw => ?_)
  have hco := (o_4 _ (by decide)).trans hco
  have hl9 := (o_4 _ (by decide)).trans hl9
  have kq_1 : G_2 43 = some (q_1, .inr (2, [.null, .int 0, .int 0])) := g_3
  refine lv_dup hx hb dX6_changes_58 rfl ?_
  refine tg_callv (va_runIN (As := []) (rest := [.ref q_1, .ref (ad 11)]) (Ts := []) ⟨hx, hb, hml, hown, fun _ h9 => absurd h9 List.not_mem_nil⟩ (in_change l E _ G_2 kq_1) (rc_cnI hAm qw_61 qw_5 qw_63 qw_62 rfl rfl rfl hd_X1_init ⟨Nat.le_of_ble_eq_true rfl, Nat.le_of_ble_eq_true rfl⟩) (tg_preS hAm hA hw) rfl rfl hl.1 rfl (lv_room (Nat.le_of_ble_eq_true rfl)) dX6_changes_59 ⟨Nat.le_of_ble_eq_true rfl, Nat.le_of_ble_eq_true rfl⟩) hA hw (fun G_5 H locs hp hw => ?_)
  obtain ⟨q_8, kq_1, kq_8, o_7⟩ := hp
  have hco := (o_7 _ (by decide) (by decide)).trans hco
  have hl9 := (o_7 _ (by decide) (by decide)).trans hl9
  have hL11 := hL11.of ((fun t9 (h9 : t9 = 11) => (o_7 t9 (by omega) (by omega)).trans ((o_4 t9 (by omega)))) 11 rfl) ((fun t9 (h9 : t9 = 12) => (o_7 t9 (by omega) (by omega)).trans ((o_4 t9 (by omega)))) (11 + 1) rfl)
  have helm11 : ∀ i9, i9 < 1 → ∃ (te9 : Nat) (vs : List Value), te9 ≠ 63 ∧ te9 ≠ 11 ∧ G_5 te9 = some (ad (40 + 3 * i9), .inr (2, vs)) := fun i9 h9 => ⟨40 + 3 * i9, _, by omega, by omega, ((fun t9 (h8 : 39 < t9) (h10 : t9 < 43) => (o_7 t9 (by omega) (by omega)).trans ((o_4 t9 (by omega)))) (40 + 3 * i9) (by omega) (by omega)).trans (hch i9 h9).1⟩
  refine tg_calli (va_runV (As := [.ref q_1]) (rest := []) (Ts := []) ⟨hx, hb, hml, hown, fun _ h9 => absurd h9 List.not_mem_nil⟩ (li_addC l E _ G_5 (t := 11) (te := 43) hL11 helm11 (by omega) (by omega) kq_1 ⟨by omega, by omega, by omega⟩) (rc_cwV hAm qw_167 qw_4 qw_170 qw_168 qw_169 rfl rfl hd_Jx4a65c_add_9ea2d ⟨Nat.le_of_ble_eq_true rfl, Nat.le_of_ble_eq_true rfl⟩) (tg_preV hAm hA hw hl9 (q := vwCl[0]) rfl) rfl rfl hl.1 rfl (lv_room (Nat.le_of_ble_eq_true rfl)) dX6_changes_62 ⟨Nat.le_of_ble_eq_true rfl, Nat.le_of_ble_eq_true rfl⟩) hA hw (fun r_10 G_9 H locs hp hw => ?_)
  obtain ⟨hL11, hu11⟩ := hp
  have hco := (hu11 8 (by omega) (by omega) (by omega)).trans hco
  have kq_1 := (hu11 43 (by omega) (by omega) (by omega)).trans kq_1
  have kq_8 := (hu11 44 (by omega) (by omega) (by omega)).trans kq_8
  refine lv_pop hx hb dX6_changes_65 rfl ?_
  obtain ⟨ad1, e8, hsi⟩ := hsi.chg (by omega) (by omega) hnm hL11 kq_1 kq_8 (fun t9 h1 h2 h3 h4 h5 => (hu11 t9 (by omega) (by omega) (by omega)).trans ((o_7 t9 (by omega) (by omega)).trans ((o_4 t9 (by omega)))))
  rw [← e8] at hl
  have e88 := e8
  obtain ⟨hco, ⟨hL9, hL11, hL13⟩, h31, hma, hch, hsc⟩ := id hsi
  obtain ⟨mc9, la9, hl9, -⟩ := id hL11
  refine lv_iinc (v := 1) (lv' := [(2, .int 1), (0, .ref (ad1 8)), (1, .int 5)]) hx hb dX6_changes_66 hl (k := 0) rfl (by decide) (by decide) rfl (fun ls hl => ?_)
  refine lv_goto (tgt := 46) hx hb dX6_changes_69 (by decide) ?_
  refine lv_iload_n hx hb dX6_changes_46 rfl (lv_at hl 0 rfl) ?_
  refine lv_iload_n hx hb dX6_changes_47 rfl (lv_at hl 2 rfl) ?_
  refine lv_icmp_ge (tgt := 72) hx hb dX6_changes_48 (by decide) (fun c9 => absurd c9 (by decide)) (fun _ => ?_)
  refine lv_aload_n hx hb dX6_changes_51 rfl (lv_at hl 1 rfl) ?_
  refine tg_get (v := .ref (ad1 11)) hx hb hown hAm hw lyX6 hco rfl 1 (by decide) qw_226 (fun _ h9 => h9) rfl dX6_changes_52 ?_
  refine tg_new 46 (C := RX1) (ci := 2) hx hb hown hAm hA hw lyX1 tyX1 tyX1_ok rfl qw_59 qw_60 qw_5 [.null, .int 0, .int 0] rfl (Nat.le_of_ble_eq_true rfl) (Nat.le_of_ble_eq_true rfl) dX6_changes_55 (fun q_11 G_12 H g_13 o_14 hw => ?_)
  have hco := (o_14 _ (by decide)).trans hco
  have hl9 := (o_14 _ (by decide)).trans hl9
  have kq_11 : G_12 46 = some (q_11, .inr (2, [.null, .int 0, .int 0])) := g_13
  refine lv_dup hx hb dX6_changes_58 rfl ?_
  refine tg_callv (va_runIN (As := []) (rest := [.ref q_11, .ref (ad1 11)]) (Ts := []) ⟨hx, hb, hml, hown, fun _ h9 => absurd h9 List.not_mem_nil⟩ (in_change l E _ G_12 kq_11) (rc_cnI hAm qw_61 qw_5 qw_63 qw_62 rfl rfl rfl hd_X1_init ⟨Nat.le_of_ble_eq_true rfl, Nat.le_of_ble_eq_true rfl⟩) (tg_preS hAm hA hw) rfl rfl hl.1 rfl (lv_room (Nat.le_of_ble_eq_true rfl)) dX6_changes_59 ⟨Nat.le_of_ble_eq_true rfl, Nat.le_of_ble_eq_true rfl⟩) hA hw (fun G_15 H locs hp hw => ?_)
  obtain ⟨q_18, kq_11, kq_18, o_17⟩ := hp
  have hco := (o_17 _ (by decide) (by decide)).trans hco
  have hl9 := (o_17 _ (by decide) (by decide)).trans hl9
  have hL11 := hL11.of ((fun t9 (h9 : t9 = 11) => (o_17 t9 (by omega) (by omega)).trans ((o_14 t9 (by omega)))) 11 rfl) ((fun t9 (h9 : t9 = 12) => (o_17 t9 (by omega) (by omega)).trans ((o_14 t9 (by omega)))) (11 + 1) rfl)
  have helm11 : ∀ i9, i9 < 2 → ∃ (te9 : Nat) (vs : List Value), te9 ≠ 63 ∧ te9 ≠ 11 ∧ G_15 te9 = some (ad1 (40 + 3 * i9), .inr (2, vs)) := fun i9 h9 => ⟨40 + 3 * i9, _, by omega, by omega, ((fun t9 (h8 : 39 < t9) (h10 : t9 < 46) => (o_17 t9 (by omega) (by omega)).trans ((o_14 t9 (by omega)))) (40 + 3 * i9) (by omega) (by omega)).trans (hch i9 h9).1⟩
  refine tg_calli (va_runV (As := [.ref q_11]) (rest := []) (Ts := []) ⟨hx, hb, hml, hown, fun _ h9 => absurd h9 List.not_mem_nil⟩ (li_addC l E _ G_15 (t := 11) (te := 46) hL11 helm11 (by omega) (by omega) kq_11 ⟨by omega, by omega, by omega⟩) (rc_cwV hAm qw_167 qw_4 qw_170 qw_168 qw_169 rfl rfl hd_Jx4a65c_add_9ea2d ⟨Nat.le_of_ble_eq_true rfl, Nat.le_of_ble_eq_true rfl⟩) (tg_preV hAm hA hw hl9 (q := vwCl[0]) rfl) rfl rfl hl.1 rfl (lv_room (Nat.le_of_ble_eq_true rfl)) dX6_changes_62 ⟨Nat.le_of_ble_eq_true rfl, Nat.le_of_ble_eq_true rfl⟩) hA hw (fun r_20 G_19 H locs hp hw => ?_)
  obtain ⟨hL11, hu11⟩ := hp
  have hco := (hu11 8 (by omega) (by omega) (by omega)).trans hco
  have kq_11 := (hu11 46 (by omega) (by omega) (by omega)).trans kq_11
  have kq_18 := (hu11 47 (by omega) (by omega) (by omega)).trans kq_18
  refine lv_pop hx hb dX6_changes_65 rfl ?_
  obtain ⟨ad2, e8, hsi⟩ := hsi.chg (by omega) (by omega) hnm hL11 kq_11 kq_18 (fun t9 h1 h2 h3 h4 h5 => (hu11 t9 (by omega) (by omega) (by omega)).trans ((o_17 t9 (by omega) (by omega)).trans ((o_14 t9 (by omega)))))
  rw [← e8] at hl
  have e88 := e8.trans e88
  obtain ⟨hco, ⟨hL9, hL11, hL13⟩, h31, hma, hch, hsc⟩ := id hsi
  obtain ⟨mc9, la9, hl9, -⟩ := id hL11
  refine lv_iinc (v := 2) (lv' := [(2, .int 2), (0, .ref (ad2 8)), (1, .int 5)]) hx hb dX6_changes_66 hl (k := 0) rfl (by decide) (by decide) rfl (fun ls hl => ?_)
  refine lv_goto (tgt := 46) hx hb dX6_changes_69 (by decide) ?_
  refine lv_iload_n hx hb dX6_changes_46 rfl (lv_at hl 0 rfl) ?_
  refine lv_iload_n hx hb dX6_changes_47 rfl (lv_at hl 2 rfl) ?_
  refine lv_icmp_ge (tgt := 72) hx hb dX6_changes_48 (by decide) (fun c9 => absurd c9 (by decide)) (fun _ => ?_)
  refine lv_aload_n hx hb dX6_changes_51 rfl (lv_at hl 1 rfl) ?_
  refine tg_get (v := .ref (ad2 11)) hx hb hown hAm hw lyX6 hco rfl 1 (by decide) qw_226 (fun _ h9 => h9) rfl dX6_changes_52 ?_
  refine tg_new 49 (C := RX1) (ci := 2) hx hb hown hAm hA hw lyX1 tyX1 tyX1_ok rfl qw_59 qw_60 qw_5 [.null, .int 0, .int 0] rfl (Nat.le_of_ble_eq_true rfl) (Nat.le_of_ble_eq_true rfl) dX6_changes_55 (fun q_21 G_22 H g_23 o_24 hw => ?_)
  have hco := (o_24 _ (by decide)).trans hco
  have hl9 := (o_24 _ (by decide)).trans hl9
  have kq_21 : G_22 49 = some (q_21, .inr (2, [.null, .int 0, .int 0])) := g_23
  refine lv_dup hx hb dX6_changes_58 rfl ?_
  refine tg_callv (va_runIN (As := []) (rest := [.ref q_21, .ref (ad2 11)]) (Ts := []) ⟨hx, hb, hml, hown, fun _ h9 => absurd h9 List.not_mem_nil⟩ (in_change l E _ G_22 kq_21) (rc_cnI hAm qw_61 qw_5 qw_63 qw_62 rfl rfl rfl hd_X1_init ⟨Nat.le_of_ble_eq_true rfl, Nat.le_of_ble_eq_true rfl⟩) (tg_preS hAm hA hw) rfl rfl hl.1 rfl (lv_room (Nat.le_of_ble_eq_true rfl)) dX6_changes_59 ⟨Nat.le_of_ble_eq_true rfl, Nat.le_of_ble_eq_true rfl⟩) hA hw (fun G_25 H locs hp hw => ?_)
  obtain ⟨q_28, kq_21, kq_28, o_27⟩ := hp
  have hco := (o_27 _ (by decide) (by decide)).trans hco
  have hl9 := (o_27 _ (by decide) (by decide)).trans hl9
  have hL11 := hL11.of ((fun t9 (h9 : t9 = 11) => (o_27 t9 (by omega) (by omega)).trans ((o_24 t9 (by omega)))) 11 rfl) ((fun t9 (h9 : t9 = 12) => (o_27 t9 (by omega) (by omega)).trans ((o_24 t9 (by omega)))) (11 + 1) rfl)
  have helm11 : ∀ i9, i9 < 3 → ∃ (te9 : Nat) (vs : List Value), te9 ≠ 63 ∧ te9 ≠ 11 ∧ G_25 te9 = some (ad2 (40 + 3 * i9), .inr (2, vs)) := fun i9 h9 => ⟨40 + 3 * i9, _, by omega, by omega, ((fun t9 (h8 : 39 < t9) (h10 : t9 < 49) => (o_27 t9 (by omega) (by omega)).trans ((o_24 t9 (by omega)))) (40 + 3 * i9) (by omega) (by omega)).trans (hch i9 h9).1⟩
  refine tg_calli (va_runV (As := [.ref q_21]) (rest := []) (Ts := []) ⟨hx, hb, hml, hown, fun _ h9 => absurd h9 List.not_mem_nil⟩ (li_addC l E _ G_25 (t := 11) (te := 49) hL11 helm11 (by omega) (by omega) kq_21 ⟨by omega, by omega, by omega⟩) (rc_cwV hAm qw_167 qw_4 qw_170 qw_168 qw_169 rfl rfl hd_Jx4a65c_add_9ea2d ⟨Nat.le_of_ble_eq_true rfl, Nat.le_of_ble_eq_true rfl⟩) (tg_preV hAm hA hw hl9 (q := vwCl[0]) rfl) rfl rfl hl.1 rfl (lv_room (Nat.le_of_ble_eq_true rfl)) dX6_changes_62 ⟨Nat.le_of_ble_eq_true rfl, Nat.le_of_ble_eq_true rfl⟩) hA hw (fun r_30 G_29 H locs hp hw => ?_)
  obtain ⟨hL11, hu11⟩ := hp
  have hco := (hu11 8 (by omega) (by omega) (by omega)).trans hco
  have kq_21 := (hu11 49 (by omega) (by omega) (by omega)).trans kq_21
  have kq_28 := (hu11 50 (by omega) (by omega) (by omega)).trans kq_28
  refine lv_pop hx hb dX6_changes_65 rfl ?_
  obtain ⟨ad3, e8, hsi⟩ := hsi.chg (by omega) (by omega) hnm hL11 kq_21 kq_28 (fun t9 h1 h2 h3 h4 h5 => (hu11 t9 (by omega) (by omega) (by omega)).trans ((o_27 t9 (by omega) (by omega)).trans ((o_24 t9 (by omega)))))
  rw [← e8] at hl
  have e88 := e8.trans e88
  obtain ⟨hco, ⟨hL9, hL11, hL13⟩, h31, hma, hch, hsc⟩ := id hsi
  obtain ⟨mc9, la9, hl9, -⟩ := id hL11
  refine lv_iinc (v := 3) (lv' := [(2, .int 3), (0, .ref (ad3 8)), (1, .int 5)]) hx hb dX6_changes_66 hl (k := 0) rfl (by decide) (by decide) rfl (fun ls hl => ?_)
  refine lv_goto (tgt := 46) hx hb dX6_changes_69 (by decide) ?_
  refine lv_iload_n hx hb dX6_changes_46 rfl (lv_at hl 0 rfl) ?_
  refine lv_iload_n hx hb dX6_changes_47 rfl (lv_at hl 2 rfl) ?_
  refine lv_icmp_ge (tgt := 72) hx hb dX6_changes_48 (by decide) (fun c9 => absurd c9 (by decide)) (fun _ => ?_)
  refine lv_aload_n hx hb dX6_changes_51 rfl (lv_at hl 1 rfl) ?_
  refine tg_get (v := .ref (ad3 11)) hx hb hown hAm hw lyX6 hco rfl 1 (by decide) qw_226 (fun _ h9 => h9) rfl dX6_changes_52 ?_
  refine tg_new 52 (C := RX1) (ci := 2) hx hb hown hAm hA hw lyX1 tyX1 tyX1_ok rfl qw_59 qw_60 qw_5 [.null, .int 0, .int 0] rfl (Nat.le_of_ble_eq_true rfl) (Nat.le_of_ble_eq_true rfl) dX6_changes_55 (fun q_31 G_32 H g_33 o_34 hw => ?_)
  have hco := (o_34 _ (by decide)).trans hco
  have hl9 := (o_34 _ (by decide)).trans hl9
  have kq_31 : G_32 52 = some (q_31, .inr (2, [.null, .int 0, .int 0])) := g_33
  refine lv_dup hx hb dX6_changes_58 rfl ?_
  refine tg_callv (va_runIN (As := []) (rest := [.ref q_31, .ref (ad3 11)]) (Ts := []) ⟨hx, hb, hml, hown, fun _ h9 => absurd h9 List.not_mem_nil⟩ (in_change l E _ G_32 kq_31) (rc_cnI hAm qw_61 qw_5 qw_63 qw_62 rfl rfl rfl hd_X1_init ⟨Nat.le_of_ble_eq_true rfl, Nat.le_of_ble_eq_true rfl⟩) (tg_preS hAm hA hw) rfl rfl hl.1 rfl (lv_room (Nat.le_of_ble_eq_true rfl)) dX6_changes_59 ⟨Nat.le_of_ble_eq_true rfl, Nat.le_of_ble_eq_true rfl⟩) hA hw (fun G_35 H locs hp hw => ?_)
  obtain ⟨q_38, kq_31, kq_38, o_37⟩ := hp
  have hco := (o_37 _ (by decide) (by decide)).trans hco
  have hl9 := (o_37 _ (by decide) (by decide)).trans hl9
  have hL11 := hL11.of ((fun t9 (h9 : t9 = 11) => (o_37 t9 (by omega) (by omega)).trans ((o_34 t9 (by omega)))) 11 rfl) ((fun t9 (h9 : t9 = 12) => (o_37 t9 (by omega) (by omega)).trans ((o_34 t9 (by omega)))) (11 + 1) rfl)
  have helm11 : ∀ i9, i9 < 4 → ∃ (te9 : Nat) (vs : List Value), te9 ≠ 63 ∧ te9 ≠ 11 ∧ G_35 te9 = some (ad3 (40 + 3 * i9), .inr (2, vs)) := fun i9 h9 => ⟨40 + 3 * i9, _, by omega, by omega, ((fun t9 (h8 : 39 < t9) (h10 : t9 < 52) => (o_37 t9 (by omega) (by omega)).trans ((o_34 t9 (by omega)))) (40 + 3 * i9) (by omega) (by omega)).trans (hch i9 h9).1⟩
  refine tg_calli (va_runV (As := [.ref q_31]) (rest := []) (Ts := []) ⟨hx, hb, hml, hown, fun _ h9 => absurd h9 List.not_mem_nil⟩ (li_addC l E _ G_35 (t := 11) (te := 52) hL11 helm11 (by omega) (by omega) kq_31 ⟨by omega, by omega, by omega⟩) (rc_cwV hAm qw_167 qw_4 qw_170 qw_168 qw_169 rfl rfl hd_Jx4a65c_add_9ea2d ⟨Nat.le_of_ble_eq_true rfl, Nat.le_of_ble_eq_true rfl⟩) (tg_preV hAm hA hw hl9 (q := vwCl[0]) rfl) rfl rfl hl.1 rfl (lv_room (Nat.le_of_ble_eq_true rfl)) dX6_changes_62 ⟨Nat.le_of_ble_eq_true rfl, Nat.le_of_ble_eq_true rfl⟩) hA hw (fun r_40 G_39 H locs hp hw => ?_)
  obtain ⟨hL11, hu11⟩ := hp
  have hco := (hu11 8 (by omega) (by omega) (by omega)).trans hco
  have kq_31 := (hu11 52 (by omega) (by omega) (by omega)).trans kq_31
  have kq_38 := (hu11 53 (by omega) (by omega) (by omega)).trans kq_38
  refine lv_pop hx hb dX6_changes_65 rfl ?_
  obtain ⟨ad4, e8, hsi⟩ := hsi.chg (by omega) (by omega) hnm hL11 kq_31 kq_38 (fun t9 h1 h2 h3 h4 h5 => (hu11 t9 (by omega) (by omega) (by omega)).trans ((o_37 t9 (by omega) (by omega)).trans ((o_34 t9 (by omega)))))
  rw [← e8] at hl
  have e88 := e8.trans e88
  obtain ⟨hco, ⟨hL9, hL11, hL13⟩, h31, hma, hch, hsc⟩ := id hsi
  obtain ⟨mc9, la9, hl9, -⟩ := id hL11
  refine lv_iinc (v := 4) (lv' := [(2, .int 4), (0, .ref (ad4 8)), (1, .int 5)]) hx hb dX6_changes_66 hl (k := 0) rfl (by decide) (by decide) rfl (fun ls hl => ?_)
  refine lv_goto (tgt := 46) hx hb dX6_changes_69 (by decide) ?_
  refine lv_iload_n hx hb dX6_changes_46 rfl (lv_at hl 0 rfl) ?_
  refine lv_iload_n hx hb dX6_changes_47 rfl (lv_at hl 2 rfl) ?_
  refine lv_icmp_ge (tgt := 72) hx hb dX6_changes_48 (by decide) (fun c9 => absurd c9 (by decide)) (fun _ => ?_)
  refine lv_aload_n hx hb dX6_changes_51 rfl (lv_at hl 1 rfl) ?_
  refine tg_get (v := .ref (ad4 11)) hx hb hown hAm hw lyX6 hco rfl 1 (by decide) qw_226 (fun _ h9 => h9) rfl dX6_changes_52 ?_
  refine tg_new 55 (C := RX1) (ci := 2) hx hb hown hAm hA hw lyX1 tyX1 tyX1_ok rfl qw_59 qw_60 qw_5 [.null, .int 0, .int 0] rfl (Nat.le_of_ble_eq_true rfl) (Nat.le_of_ble_eq_true rfl) dX6_changes_55 (fun q_41 G_42 H g_43 o_44 hw => ?_)
  have hco := (o_44 _ (by decide)).trans hco
  have hl9 := (o_44 _ (by decide)).trans hl9
  have kq_41 : G_42 55 = some (q_41, .inr (2, [.null, .int 0, .int 0])) := g_43
  refine lv_dup hx hb dX6_changes_58 rfl ?_
  refine tg_callv (va_runIN (As := []) (rest := [.ref q_41, .ref (ad4 11)]) (Ts := []) ⟨hx, hb, hml, hown, fun _ h9 => absurd h9 List.not_mem_nil⟩ (in_change l E _ G_42 kq_41) (rc_cnI hAm qw_61 qw_5 qw_63 qw_62 rfl rfl rfl hd_X1_init ⟨Nat.le_of_ble_eq_true rfl, Nat.le_of_ble_eq_true rfl⟩) (tg_preS hAm hA hw) rfl rfl hl.1 rfl (lv_room (Nat.le_of_ble_eq_true rfl)) dX6_changes_59 ⟨Nat.le_of_ble_eq_true rfl, Nat.le_of_ble_eq_true rfl⟩) hA hw (fun G_45 H locs hp hw => ?_)
  obtain ⟨q_48, kq_41, kq_48, o_47⟩ := hp
  have hco := (o_47 _ (by decide) (by decide)).trans hco
  have hl9 := (o_47 _ (by decide) (by decide)).trans hl9
  have hL11 := hL11.of ((fun t9 (h9 : t9 = 11) => (o_47 t9 (by omega) (by omega)).trans ((o_44 t9 (by omega)))) 11 rfl) ((fun t9 (h9 : t9 = 12) => (o_47 t9 (by omega) (by omega)).trans ((o_44 t9 (by omega)))) (11 + 1) rfl)
  have helm11 : ∀ i9, i9 < 5 → ∃ (te9 : Nat) (vs : List Value), te9 ≠ 63 ∧ te9 ≠ 11 ∧ G_45 te9 = some (ad4 (40 + 3 * i9), .inr (2, vs)) := fun i9 h9 => ⟨40 + 3 * i9, _, by omega, by omega, ((fun t9 (h8 : 39 < t9) (h10 : t9 < 55) => (o_47 t9 (by omega) (by omega)).trans ((o_44 t9 (by omega)))) (40 + 3 * i9) (by omega) (by omega)).trans (hch i9 h9).1⟩
  refine tg_calli (va_runV (As := [.ref q_41]) (rest := []) (Ts := []) ⟨hx, hb, hml, hown, fun _ h9 => absurd h9 List.not_mem_nil⟩ (li_addC l E _ G_45 (t := 11) (te := 55) hL11 helm11 (by omega) (by omega) kq_41 ⟨by omega, by omega, by omega⟩) (rc_cwV hAm qw_167 qw_4 qw_170 qw_168 qw_169 rfl rfl hd_Jx4a65c_add_9ea2d ⟨Nat.le_of_ble_eq_true rfl, Nat.le_of_ble_eq_true rfl⟩) (tg_preV hAm hA hw hl9 (q := vwCl[0]) rfl) rfl rfl hl.1 rfl (lv_room (Nat.le_of_ble_eq_true rfl)) dX6_changes_62 ⟨Nat.le_of_ble_eq_true rfl, Nat.le_of_ble_eq_true rfl⟩) hA hw (fun r_50 G_49 H locs hp hw => ?_)
  obtain ⟨hL11, hu11⟩ := hp
  have hco := (hu11 8 (by omega) (by omega) (by omega)).trans hco
  have kq_41 := (hu11 55 (by omega) (by omega) (by omega)).trans kq_41
  have kq_48 := (hu11 56 (by omega) (by omega) (by omega)).trans kq_48
  refine lv_pop hx hb dX6_changes_65 rfl ?_
  obtain ⟨ad5, e8, hsi⟩ := hsi.chg (by omega) (by omega) hnm hL11 kq_41 kq_48 (fun t9 h1 h2 h3 h4 h5 => (hu11 t9 (by omega) (by omega) (by omega)).trans ((o_47 t9 (by omega) (by omega)).trans ((o_44 t9 (by omega)))))
  rw [← e8] at hl
  have e88 := e8.trans e88
  obtain ⟨hco, ⟨hL9, hL11, hL13⟩, h31, hma, hch, hsc⟩ := id hsi
  obtain ⟨mc9, la9, hl9, -⟩ := id hL11
  refine lv_iinc (v := 5) (lv' := [(2, .int 5), (0, .ref (ad5 8)), (1, .int 5)]) hx hb dX6_changes_66 hl (k := 0) rfl (by decide) (by decide) rfl (fun ls hl => ?_)
  refine lv_goto (tgt := 46) hx hb dX6_changes_69 (by decide) ?_
  refine lv_iload_n hx hb dX6_changes_46 rfl (lv_at hl 0 rfl) ?_
  refine lv_iload_n hx hb dX6_changes_47 rfl (lv_at hl 2 rfl) ?_
  refine lv_icmp_ge (tgt := 72) hx hb dX6_changes_48 (by decide) (fun _ => ?_) (fun c9 => absurd (by decide) c9)
  refine lv_aload_n hx hb dX6_changes_72 rfl (lv_at hl 1 rfl) ?_
  refine tg_get (v := .ref (ad5 11)) hx hb hown hAm hw lyX6 hco rfl 1 (by decide) qw_226 (fun _ h9 => h9) rfl dX6_changes_73 ?_
  refine tg_callRi (va_runV (As := []) (rest := []) (Ts := []) ⟨hx, hb, hml, hown, fun _ h9 => absurd h9 List.not_mem_nil⟩ (lf_size l E _ G_49 (n := 6) hl9) (rc_cwV hAm qw_343 qw_4 qw_346 qw_344 qw_345 rfl rfl hd_Jx4a65c_size_8abf5 ⟨Nat.le_of_ble_eq_true rfl, Nat.le_of_ble_eq_true rfl⟩) (tg_preV hAm hA hw hl9 (q := vwCl[0]) rfl) rfl rfl hl.1 rfl (lv_room (Nat.le_of_ble_eq_true rfl)) dX6_changes_76 ⟨Nat.le_of_ble_eq_true rfl, Nat.le_of_ble_eq_true rfl⟩) hA hw (fun H locs hw => ?_)
  exact tg_iret hx hb hr hlocks hw (⟨ad5, e88, hsi⟩) (Nat.le_of_ble_eq_true rfl) (Nat.le_of_ble_eq_true rfl) dX6_changes_79
