set_option maxHeartbeats 4000000 in
set_option maxRecDepth 100000 in
theorem in_coll (l : Launch) (E : rc_E) (sz : Nat) (G : tg_G) {t a : Nat} (h1 : G t = some (a, .inr (0, [.int 0, .null, .int 0]))) : tg_M l yJxa1e45_init_da8c8 [Cond.code yJxa1e45_init_da8c8 cJxa1e45_init_da8c8 1 (none : Option FieldType)] { frames := 1, cells := 0, slots := 0, locals := 12 } E [.ref a] G sz (tg_Qv E (fun u => u = G)) 0 0 := by
  refine tg_in (cc := cJxa1e45_init_da8c8) (maxL := 1) (ret := (none : Option FieldType)) (tg_Qv E (fun u => u = G)) (by decide) rfl (Nat.le_of_ble_eq_true rfl) ?_
  intro p e s m args below meth cd ls A hx hb hr hml hown hlocks hin hA hAm hw hl
  have hown : s.vm.findClass RJxa1e45 = some m.cls := hown
  have hl : lv_has ls 1 [(0, .ref a)] := hl
  refine lv_aload_n hx hb dJxa1e45_init_da8c8_0 rfl (lv_at hl 0 rfl) ?_
  refine rc_obj hx hb hown hAm qw_44 qw_31 qw_32 (by rw [hml]; exact hl.1) (Nat.le_of_ble_eq_true rfl) (Nat.le_of_ble_eq_true rfl) dJxa1e45_init_da8c8_1 ?_
  exact tg_vret hx hb hr hlocks hw (rfl) (Nat.le_of_ble_eq_true rfl) (Nat.le_of_ble_eq_true rfl) dJxa1e45_init_da8c8_4
theorem hd_Jxa1e45_init_da8c8 : yJxa1e45_init_da8c8.cls ≠ "java/lang/invoke/MethodHandle" ∧ yJxa1e45_init_da8c8.cls ≠ "java/lang/invoke/VarHandle" ∧ (parseMethodDescriptor yJxa1e45_init_da8c8.desc).map (fun d => d.parameters.length) = some 0 := by decide +kernel
set_option maxHeartbeats 4000000 in
set_option maxRecDepth 100000 in
theorem in_alist (l : Launch) (E : rc_E) (sz : Nat) (G : tg_G) {t a : Nat} (h1 : G t = some (a, .inr (0, [.int 0, .null, .int 0]))) : tg_M l yJxc12de_init_da8c8 [Cond.code yJxc12de_init_da8c8 cJxc12de_init_da8c8 1 (none : Option FieldType)] { frames := 2, cells := 0, slots := 0, locals := 32 } E [.ref a] G sz (tg_Qv E (fun u => u t = some (a, .inr (0, [.int 0, .null, .int 0])) ∧ ∀ t9, t9 ≠ t → u t9 = G t9)) 0 0 := by
  refine tg_in (cc := cJxc12de_init_da8c8) (maxL := 1) (ret := (none : Option FieldType)) (tg_Qv E (fun u => u t = some (a, .inr (0, [.int 0, .null, .int 0])) ∧ ∀ t9, t9 ≠ t → u t9 = G t9)) (by decide) rfl (Nat.le_of_ble_eq_true rfl) ?_
  intro p e s m args below meth cd ls A hx hb hr hml hown hlocks hin hA hAm hw hl
  have hown : s.vm.findClass RJxc12de = some m.cls := hown
  have hl : lv_has ls 1 [(0, .ref a)] := hl
  refine lv_aload_n hx hb dJxc12de_init_da8c8_0 rfl (lv_at hl 0 rfl) ?_
  refine tg_callv (va_runI (As := []) (rest := []) (Ts := []) ⟨hx, hb, hml, hown, fun _ h9 => absurd h9 List.not_mem_nil⟩ (in_coll l E _ G h1) (rc_cwI hAm qw_41 qw_2 qw_43 qw_42 rfl rfl rfl hd_Jxa1e45_init_da8c8 ⟨Nat.le_of_ble_eq_true rfl, Nat.le_of_ble_eq_true rfl⟩) (tg_preS hAm hA hw) rfl rfl hl.1 rfl (lv_room (Nat.le_of_ble_eq_true rfl)) dJxc12de_init_da8c8_1 ⟨Nat.le_of_ble_eq_true rfl, Nat.le_of_ble_eq_true rfl⟩) hA hw (fun G_1 H locs hp hw => ?_)
  rw [hp] at hw
  refine lv_aload_n hx hb dJxc12de_init_da8c8_4 rfl (lv_at hl 0 rfl) ?_
  refine lv_iconst (v := 0) hx hb dJxc12de_init_da8c8_5 (by decide) ?_
  refine tg_put hx hb hown hAm hw lyJx4a65c tyJx4a65c tyJx4a65c_ok nmJx4a65c h1 rfl 0 (by decide) qw_49 (fun _ h9 => h9) rfl rfl (by decide +kernel) (Nat.le_of_ble_eq_true rfl) dJxc12de_init_da8c8_6 (fun G_3 H locs g_4 o_5 hw => ?_)
  have h1 : G_3 t = some (a, .inr (0, [.int 0, .null, .int 0])) := g_4
  exact tg_vret hx hb hr hlocks hw (⟨h1, (fun t9 h9 => (o_5 t9 (by omega)))⟩) (Nat.le_of_ble_eq_true rfl) (Nat.le_of_ble_eq_true rfl) dJxc12de_init_da8c8_9
theorem hd_Jxc12de_init_da8c8 : yJxc12de_init_da8c8.cls ≠ "java/lang/invoke/MethodHandle" ∧ yJxc12de_init_da8c8.cls ≠ "java/lang/invoke/VarHandle" ∧ (parseMethodDescriptor yJxc12de_init_da8c8.desc).map (fun d => d.parameters.length) = some 0 := by decide +kernel
set_option maxHeartbeats 4000000 in
set_option maxRecDepth 100000 in
theorem in_list (l : Launch) (E : rc_E) (sz : Nat) (G : tg_G) {t a : Nat} (h1 : G t = some (a, .inr (0, [.int 0, .null, .int 0]))) : tg_M l yJx4a65c_init_da8c8 [Cond.code yJx4a65c_init_da8c8 cJx4a65c_init_da8c8 1 (none : Option FieldType)] { frames := 3, cells := 0, slots := 0, locals := 52 } E [.ref a] G sz (tg_Qv E (fun u => u t = some (a, .inr (0, [.int 0, .ref (E.2.2 0), .int 0])) ∧ ∀ t9, t9 ≠ t → u t9 = G t9)) 0 0 := by
  refine tg_in (cc := cJx4a65c_init_da8c8) (maxL := 1) (ret := (none : Option FieldType)) (tg_Qv E (fun u => u t = some (a, .inr (0, [.int 0, .ref (E.2.2 0), .int 0])) ∧ ∀ t9, t9 ≠ t → u t9 = G t9)) (by decide) rfl (Nat.le_of_ble_eq_true rfl) ?_
  intro p e s m args below meth cd ls A hx hb hr hml hown hlocks hin hA hAm hw hl
  have hown : s.vm.findClass RJx4a65c = some m.cls := hown
  have hl : lv_has ls 1 [(0, .ref a)] := hl
  refine lv_aload_n hx hb dJx4a65c_init_da8c8_0 rfl (lv_at hl 0 rfl) ?_
  refine tg_callv (va_runI (As := []) (rest := []) (Ts := []) ⟨hx, hb, hml, hown, fun _ h9 => absurd h9 List.not_mem_nil⟩ (in_alist l E _ G h1) (rc_cwI hAm qw_38 qw_3 qw_40 qw_39 rfl rfl rfl hd_Jxc12de_init_da8c8 ⟨Nat.le_of_ble_eq_true rfl, Nat.le_of_ble_eq_true rfl⟩) (tg_preS hAm hA hw) rfl rfl hl.1 rfl (lv_room (Nat.le_of_ble_eq_true rfl)) dJx4a65c_init_da8c8_1 ⟨Nat.le_of_ble_eq_true rfl, Nat.le_of_ble_eq_true rfl⟩) hA hw (fun G_1 H locs hp hw => ?_)
  obtain ⟨h1, o_3⟩ := hp
  refine lv_aload_n hx hb dJx4a65c_init_da8c8_4 rfl (lv_at hl 0 rfl) ?_
  refine va_gets (v := .ref (E.2.2 0)) hx hb hAm.2.2.1.1 hw.2.2 hown (hAm.wd qw_45 rfl rfl) (fun _ h9 => h9) dJx4a65c_init_da8c8_5 ?_
  refine tg_put hx hb hown hAm hw lyJx4a65c tyJx4a65c tyJx4a65c_ok nmJx4a65c h1 rfl 1 (by decide) qw_47 (fun _ h9 => h9) rfl rfl rfl (Nat.le_of_ble_eq_true rfl) dJx4a65c_init_da8c8_8 (fun G_4 H locs g_5 o_6 hw => ?_)
  have h1 : G_4 t = some (a, .inr (0, [.int 0, .ref (E.2.2 0), .int 0])) := g_5
  exact tg_vret hx hb hr hlocks hw (⟨h1, (fun t9 h9 => (o_6 t9 (by omega)).trans ((o_3 t9 (by omega))))⟩) (Nat.le_of_ble_eq_true rfl) (Nat.le_of_ble_eq_true rfl) dJx4a65c_init_da8c8_11
theorem hd_Jx4a65c_init_da8c8 : yJx4a65c_init_da8c8.cls ≠ "java/lang/invoke/MethodHandle" ∧ yJx4a65c_init_da8c8.cls ≠ "java/lang/invoke/VarHandle" ∧ (parseMethodDescriptor yJx4a65c_init_da8c8.desc).map (fun d => d.parameters.length) = some 0 := by decide +kernel
set_option maxHeartbeats 4000000 in
set_option maxRecDepth 100000 in
theorem in_change (l : Launch) (E : rc_E) (sz : Nat) (G : tg_G) {t a : Nat} (h1 : G t = some (a, .inr (2, [.null, .int 0, .int 0]))) : tg_M l yX1_init [Cond.code yX1_init cX1_init 1 (none : Option FieldType)] { frames := 4, cells := 1, slots := 3, locals := 72 } E [.ref a] G sz (tg_Qv E (fun u => ∃ q9 : Nat, u t = some (a, .inr (2, [.ref q9, .int 0, .int 0])) ∧ u (t + 1) = some (q9, .inr (0, [.int 0, .ref (E.2.2 0), .int 0])) ∧ ∀ t9, t9 ≠ t → t9 ≠ t + 1 → u t9 = G t9)) 1 3 := by
  refine tg_in (cc := cX1_init) (maxL := 1) (ret := (none : Option FieldType)) (tg_Qv E (fun u => ∃ q9 : Nat, u t = some (a, .inr (2, [.ref q9, .int 0, .int 0])) ∧ u (t + 1) = some (q9, .inr (0, [.int 0, .ref (E.2.2 0), .int 0])) ∧ ∀ t9, t9 ≠ t → t9 ≠ t + 1 → u t9 = G t9)) (by decide) rfl (Nat.le_of_ble_eq_true rfl) ?_
  intro p e s m args below meth cd ls A hx hb hr hml hown hlocks hin hA hAm hw hl
  have hown : s.vm.findClass RX1 = some m.cls := hown
  have hl : lv_has ls 1 [(0, .ref a)] := hl
  refine lv_aload_n hx hb dX1_init_0 rfl (lv_at hl 0 rfl) ?_
  refine rc_obj hx hb hown hAm qw_64 qw_31 qw_32 (by rw [hml]; exact hl.1) (Nat.le_of_ble_eq_true rfl) (Nat.le_of_ble_eq_true rfl) dX1_init_1 ?_
  refine lv_aload_n hx hb dX1_init_4 rfl (lv_at hl 0 rfl) ?_
  refine tg_new (t + 1) (C := RJx4a65c) (ci := 0) hx hb hown hAm hA hw lyJx4a65c tyJx4a65c tyJx4a65c_ok rfl qw_65 qw_34 qw_4 [.int 0, .null, .int 0] rfl (Nat.le_of_ble_eq_true rfl) (Nat.le_of_ble_eq_true rfl) dX1_init_5 (fun q_1 G_2 H g_3 o_4 hw => ?_)
  have h1 := (o_4 _ (by omega)).trans h1
  have kq_1 : G_2 (t + 1) = some (q_1, .inr (0, [.int 0, .null, .int 0])) := g_3
  refine lv_dup hx hb dX1_init_8 rfl ?_
  refine tg_callv (va_runI (As := []) (rest := [.ref q_1, .ref a]) (Ts := []) ⟨hx, hb, hml, hown, fun _ h9 => absurd h9 List.not_mem_nil⟩ (in_list l E _ G_2 kq_1) (rc_cwI hAm qw_66 qw_4 qw_37 qw_36 rfl rfl rfl hd_Jx4a65c_init_da8c8 ⟨Nat.le_of_ble_eq_true rfl, Nat.le_of_ble_eq_true rfl⟩) (tg_preS hAm hA hw) rfl rfl hl.1 rfl (lv_room (Nat.le_of_ble_eq_true rfl)) dX1_init_9 ⟨Nat.le_of_ble_eq_true rfl, Nat.le_of_ble_eq_true rfl⟩) hA hw (fun G_5 H locs hp hw => ?_)
  obtain ⟨kq_1, o_7⟩ := hp
  have h1 := (o_7 _ (by omega)).trans h1
  refine tg_putF hx hb hown hAm hw lyX1 tyX1 tyX1_ok nmX1 h1 rfl 0 (by decide) qw_67 (fun _ h9 => h9) rfl hin rfl rfl rfl (Nat.le_of_ble_eq_true rfl) dX1_init_12 (fun G_8 H locs g_9 o_10 hw => ?_)
  have kq_1 := (o_10 _ (by omega)).trans kq_1
  have h1 : G_8 t = some (a, .inr (2, [.ref q_1, .int 0, .int 0])) := g_9
  refine lv_aload_n hx hb dX1_init_15 rfl (lv_at hl 0 rfl) ?_
  refine lv_iconst (v := 0) hx hb dX1_init_16 (by decide) ?_
  refine tg_put hx hb hown hAm hw lyX1 tyX1 tyX1_ok nmX1 h1 rfl 1 (by decide) qw_70 (fun _ h9 => h9) rfl (by decide +kernel) (by decide +kernel) (Nat.le_of_ble_eq_true rfl) dX1_init_17 (fun G_11 H locs g_12 o_13 hw => ?_)
  have kq_1 := (o_13 _ (by omega)).trans kq_1
  have h1 : G_11 t = some (a, .inr (2, [.ref q_1, .int 0, .int 0])) := g_12
  refine lv_aload_n hx hb dX1_init_20 rfl (lv_at hl 0 rfl) ?_
  refine lv_iconst (v := 0) hx hb dX1_init_21 (by decide) ?_
  refine tg_put hx hb hown hAm hw lyX1 tyX1 tyX1_ok nmX1 h1 rfl 2 (by decide) qw_72 (fun _ h9 => h9) rfl (by decide +kernel) (by decide +kernel) (Nat.le_of_ble_eq_true rfl) dX1_init_22 (fun G_14 H locs g_15 o_16 hw => ?_)
  have kq_1 := (o_16 _ (by omega)).trans kq_1
  have h1 : G_14 t = some (a, .inr (2, [.ref q_1, .int 0, .int 0])) := g_15
  exact tg_vret hx hb hr hlocks hw (⟨_, h1, kq_1, (fun t9 h8 h9 => (o_16 t9 (by omega)).trans ((o_13 t9 (by omega)).trans ((o_10 t9 (by omega)).trans ((o_7 t9 (by omega)).trans ((o_4 t9 (by omega)))))))⟩) (Nat.le_of_ble_eq_true rfl) (Nat.le_of_ble_eq_true rfl) dX1_init_25
set_option maxHeartbeats 4000000 in
set_option maxRecDepth 100000 in
theorem in_sample (l : Launch) (E : rc_E) (sz : Nat) (G : tg_G) {t a : Nat} (h1 : G t = some (a, .inr (6, [.null, .int 0]))) : tg_M l yX5_init [Cond.code yX5_init cX5_init 1 (none : Option FieldType)] { frames := 1, cells := 1, slots := 6, locals := 12 } E [.ref a] G sz (tg_Qv E (fun u => ∃ q9 : Nat, u t = some (a, .inr (6, [.ref q9, .int 0])) ∧ u (t + 1) = some (q9, .inl (E.2.1 0, 6, .inl (fun _ => 0))) ∧ ∀ t9, t9 ≠ t → t9 ≠ t + 1 → u t9 = G t9)) 1 6 := by
  refine tg_in (cc := cX5_init) (maxL := 1) (ret := (none : Option FieldType)) (tg_Qv E (fun u => ∃ q9 : Nat, u t = some (a, .inr (6, [.ref q9, .int 0])) ∧ u (t + 1) = some (q9, .inl (E.2.1 0, 6, .inl (fun _ => 0))) ∧ ∀ t9, t9 ≠ t → t9 ≠ t + 1 → u t9 = G t9)) (by decide) rfl (Nat.le_of_ble_eq_true rfl) ?_
  intro p e s m args below meth cd ls A hx hb hr hml hown hlocks hin hA hAm hw hl
  have hown : s.vm.findClass RX5 = some m.cls := hown
  have hl : lv_has ls 1 [(0, .ref a)] := hl
  refine lv_aload_n hx hb dX5_init_0 rfl (lv_at hl 0 rfl) ?_
  refine rc_obj hx hb hown hAm qw_86 qw_31 qw_32 (by rw [hml]; exact hl.1) (Nat.le_of_ble_eq_true rfl) (Nat.le_of_ble_eq_true rfl) dX5_init_1 ?_
  refine lv_aload_n hx hb dX5_init_4 rfl (lv_at hl 0 rfl) ?_
  refine lv_bipush (v := 6) hx hb dX5_init_5 (by decide) ?_
  refine tg_inew (t + 1) hx hb hAm hA hw qw_96 6 (by decide) (by decide) (Nat.le_of_ble_eq_true rfl) (Nat.le_of_ble_eq_true rfl) (Nat.le_of_ble_eq_true rfl) dX5_init_7 (fun q_1 G_2 H g_3 o_4 hw => ?_)
  have h1 := (o_4 _ (by omega)).trans h1
  have kq_1 : G_2 (t + 1) = some (q_1, .inl (E.2.1 0, 6, .inl (fun _ => 0))) := g_3
  refine tg_putF hx hb hown hAm hw lyX5 tyX5 tyX5_ok nmX5 h1 rfl 0 (by decide) qw_87 (fun _ h9 => h9) rfl hin rfl rfl rfl (Nat.le_of_ble_eq_true rfl) dX5_init_9 (fun G_5 H locs g_6 o_7 hw => ?_)
  have kq_1 := (o_7 _ (by omega)).trans kq_1
  have h1 : G_5 t = some (a, .inr (6, [.ref q_1, .int 0])) := g_6
  refine lv_aload_n hx hb dX5_init_12 rfl (lv_at hl 0 rfl) ?_
  refine lv_iconst (v := 0) hx hb dX5_init_13 (by decide) ?_
  refine tg_put hx hb hown hAm hw lyX5 tyX5 tyX5_ok nmX5 h1 rfl 1 (by decide) qw_88 (fun _ h9 => h9) rfl rfl (by decide +kernel) (Nat.le_of_ble_eq_true rfl) dX5_init_14 (fun G_8 H locs g_9 o_10 hw => ?_)
  have kq_1 := (o_10 _ (by omega)).trans kq_1
  have h1 : G_8 t = some (a, .inr (6, [.ref q_1, .int 0])) := g_9
  exact tg_vret hx hb hr hlocks hw (⟨_, h1, kq_1, (fun t9 h8 h9 => (o_10 t9 (by omega)).trans ((o_7 t9 (by omega)).trans ((o_4 t9 (by omega)))))⟩) (Nat.le_of_ble_eq_true rfl) (Nat.le_of_ble_eq_true rfl) dX5_init_17
set_option maxHeartbeats 4000000 in
set_option maxRecDepth 100000 in
theorem in_bis (l : Launch) (E : rc_E) (sz : Nat) (G : tg_G) {t a : Nat} (h1 : G t = some (a, .inr (1, [.int 0, .int 0, .int 0, .int 0]))) : tg_M l yX0_init [Cond.code yX0_init cX0_init 1 (none : Option FieldType)] { frames := 1, cells := 0, slots := 0, locals := 12 } E [.ref a] G sz (tg_Qv E (fun u => u t = some (a, .inr (1, [.int 0, .int (-1), .int (-1), .int (-1)])) ∧ ∀ t9, t9 ≠ t → u t9 = G t9)) 0 0 := by
  refine tg_in (cc := cX0_init) (maxL := 1) (ret := (none : Option FieldType)) (tg_Qv E (fun u => u t = some (a, .inr (1, [.int 0, .int (-1), .int (-1), .int (-1)])) ∧ ∀ t9, t9 ≠ t → u t9 = G t9)) (by decide) rfl (Nat.le_of_ble_eq_true rfl) ?_
  intro p e s m args below meth cd ls A hx hb hr hml hown hlocks hin hA hAm hw hl
  have hown : s.vm.findClass RX0 = some m.cls := hown
  have hl : lv_has ls 1 [(0, .ref a)] := hl
  refine lv_aload_n hx hb dX0_init_0 rfl (lv_at hl 0 rfl) ?_
  refine rc_obj hx hb hown hAm qw_149 qw_31 qw_32 (by rw [hml]; exact hl.1) (Nat.le_of_ble_eq_true rfl) (Nat.le_of_ble_eq_true rfl) dX0_init_1 ?_
  refine lv_aload_n hx hb dX0_init_4 rfl (lv_at hl 0 rfl) ?_
  refine lv_iconst (v := 0) hx hb dX0_init_5 (by decide) ?_
  refine tg_put hx hb hown hAm hw lyX0 tyX0 tyX0_ok nmX0 h1 rfl 0 (by decide) qw_150 (fun _ h9 => h9) rfl (by decide +kernel) (by decide +kernel) (Nat.le_of_ble_eq_true rfl) dX0_init_6 (fun G_1 H locs g_2 o_3 hw => ?_)
  have h1 : G_1 t = some (a, .inr (1, [.int 0, .int 0, .int 0, .int 0])) := g_2
  refine lv_aload_n hx hb dX0_init_9 rfl (lv_at hl 0 rfl) ?_
  refine lv_iconst (v := (-1)) hx hb dX0_init_10 (by decide) ?_
  refine tg_put hx hb hown hAm hw lyX0 tyX0 tyX0_ok nmX0 h1 rfl 1 (by decide) qw_152 (fun _ h9 => h9) rfl rfl (by decide +kernel) (Nat.le_of_ble_eq_true rfl) dX0_init_11 (fun G_4 H locs g_5 o_6 hw => ?_)
  have h1 : G_4 t = some (a, .inr (1, [.int 0, .int (-1), .int 0, .int 0])) := g_5
  refine lv_aload_n hx hb dX0_init_14 rfl (lv_at hl 0 rfl) ?_
  refine lv_iconst (v := (-1)) hx hb dX0_init_15 (by decide) ?_
  refine tg_put hx hb hown hAm hw lyX0 tyX0 tyX0_ok nmX0 h1 rfl 2 (by decide) qw_154 (fun _ h9 => h9) rfl rfl (by decide +kernel) (Nat.le_of_ble_eq_true rfl) dX0_init_16 (fun G_7 H locs g_8 o_9 hw => ?_)
  have h1 : G_7 t = some (a, .inr (1, [.int 0, .int (-1), .int (-1), .int 0])) := g_8
  refine lv_aload_n hx hb dX0_init_19 rfl (lv_at hl 0 rfl) ?_
  refine lv_iconst (v := (-1)) hx hb dX0_init_20 (by decide) ?_
  refine tg_put hx hb hown hAm hw lyX0 tyX0 tyX0_ok nmX0 h1 rfl 3 (by decide) qw_156 (fun _ h9 => h9) rfl rfl (by decide +kernel) (Nat.le_of_ble_eq_true rfl) dX0_init_21 (fun G_10 H locs g_11 o_12 hw => ?_)
  have h1 : G_10 t = some (a, .inr (1, [.int 0, .int (-1), .int (-1), .int (-1)])) := g_11
  exact tg_vret hx hb hr hlocks hw (⟨h1, (fun t9 h9 => (o_12 t9 (by omega)).trans ((o_9 t9 (by omega)).trans ((o_6 t9 (by omega)).trans ((o_3 t9 (by omega))))))⟩) (Nat.le_of_ble_eq_true rfl) (Nat.le_of_ble_eq_true rfl) dX0_init_24
set_option maxHeartbeats 4000000 in
set_option maxRecDepth 100000 in
theorem in_mach (l : Launch) (E : rc_E) (sz : Nat) (G : tg_G) {t a : Nat} (n p0 x : Nat) (h1 : G t = some (a, .inr (4, [.int 0, .int 0, .int 0, .int 0, .int 0, .int 0, .int 0, .int 0]))) : tg_M l yX3_init [Cond.code yX3_init cX3_init 4 (none : Option FieldType)] { frames := 1, cells := 0, slots := 0, locals := 12 } E [.ref a, .int (nI n), .int (nI p0), .int (nI x)] G sz (tg_Qv E (fun u => u t = some (a, .inr (4, [.int (nI n), .int (nI p0), .int (nI x), .int (nI x), .int (nI x), .int 1, .int 0, .int 0])) ∧ ∀ t9, t9 ≠ t → u t9 = G t9)) 0 0 := by
  refine tg_in (cc := cX3_init) (maxL := 4) (ret := (none : Option FieldType)) (tg_Qv E (fun u => u t = some (a, .inr (4, [.int (nI n), .int (nI p0), .int (nI x), .int (nI x), .int (nI x), .int 1, .int 0, .int 0])) ∧ ∀ t9, t9 ≠ t → u t9 = G t9)) (by decide) rfl (Nat.le_of_ble_eq_true rfl) ?_
  intro p e s m args below meth cd ls A hx hb hr hml hown hlocks hin hA hAm hw hl
  have hown : s.vm.findClass RX3 = some m.cls := hown
  have hl : lv_has ls 4 [(0, .ref a), (1, .int (nI n)), (2, .int (nI p0)), (3, .int (nI x))] := hl
  refine lv_aload_n hx hb dX3_init_0 rfl (lv_at hl 0 rfl) ?_
  refine rc_obj hx hb hown hAm qw_368 qw_31 qw_32 (by rw [hml]; exact hl.1) (Nat.le_of_ble_eq_true rfl) (Nat.le_of_ble_eq_true rfl) dX3_init_1 ?_
  refine lv_aload_n hx hb dX3_init_4 rfl (lv_at hl 0 rfl) ?_
  refine lv_iconst (v := 1) hx hb dX3_init_5 (by decide) ?_
  refine tg_put hx hb hown hAm hw lyX3 tyX3 tyX3_ok nmX3 h1 rfl 5 (by decide) qw_377 (fun _ h9 => h9) rfl rfl (by decide +kernel) (Nat.le_of_ble_eq_true rfl) dX3_init_6 (fun G_1 H locs g_2 o_3 hw => ?_)
  have h1 : G_1 t = some (a, .inr (4, [.int 0, .int 0, .int 0, .int 0, .int 0, .int 1, .int 0, .int 0])) := g_2
  refine lv_aload_n hx hb dX3_init_9 rfl (lv_at hl 0 rfl) ?_
  refine lv_iconst (v := 0) hx hb dX3_init_10 (by decide) ?_
  refine tg_put hx hb hown hAm hw lyX3 tyX3 tyX3_ok nmX3 h1 rfl 6 (by decide) qw_379 (fun _ h9 => h9) rfl rfl (by decide +kernel) (Nat.le_of_ble_eq_true rfl) dX3_init_11 (fun G_4 H locs g_5 o_6 hw => ?_)
  have h1 : G_4 t = some (a, .inr (4, [.int 0, .int 0, .int 0, .int 0, .int 0, .int 1, .int 0, .int 0])) := g_5
  refine lv_aload_n hx hb dX3_init_14 rfl (lv_at hl 0 rfl) ?_
  refine lv_iconst (v := 0) hx hb dX3_init_15 (by decide) ?_
  refine tg_put hx hb hown hAm hw lyX3 tyX3 tyX3_ok nmX3 h1 rfl 7 (by decide) qw_381 (fun _ h9 => h9) rfl (by decide +kernel) (by decide +kernel) (Nat.le_of_ble_eq_true rfl) dX3_init_16 (fun G_7 H locs g_8 o_9 hw => ?_)
  have h1 : G_7 t = some (a, .inr (4, [.int 0, .int 0, .int 0, .int 0, .int 0, .int 1, .int 0, .int 0])) := g_8
  refine lv_aload_n hx hb dX3_init_19 rfl (lv_at hl 0 rfl) ?_
  refine lv_iload_n hx hb dX3_init_20 rfl (lv_at hl 1 rfl) ?_
  refine tg_putF hx hb hown hAm hw lyX3 tyX3 tyX3_ok nmX3 h1 rfl 0 (by decide) qw_369 (fun _ h9 => h9) rfl hin rfl rfl rfl (Nat.le_of_ble_eq_true rfl) dX3_init_21 (fun G_10 H locs g_11 o_12 hw => ?_)
  have h1 : G_10 t = some (a, .inr (4, [.int (nI n), .int 0, .int 0, .int 0, .int 0, .int 1, .int 0, .int 0])) := g_11
  refine lv_aload_n hx hb dX3_init_24 rfl (lv_at hl 0 rfl) ?_
  refine lv_iload_n hx hb dX3_init_25 rfl (lv_at hl 2 rfl) ?_
  refine tg_putF hx hb hown hAm hw lyX3 tyX3 tyX3_ok nmX3 h1 rfl 1 (by decide) qw_371 (fun _ h9 => h9) rfl hin rfl rfl rfl (Nat.le_of_ble_eq_true rfl) dX3_init_26 (fun G_13 H locs g_14 o_15 hw => ?_)
  have h1 : G_13 t = some (a, .inr (4, [.int (nI n), .int (nI p0), .int 0, .int 0, .int 0, .int 1, .int 0, .int 0])) := g_14
  refine lv_aload_n hx hb dX3_init_29 rfl (lv_at hl 0 rfl) ?_
  refine lv_iload_n hx hb dX3_init_30 rfl (lv_at hl 3 rfl) ?_
  refine tg_put hx hb hown hAm hw lyX3 tyX3 tyX3_ok nmX3 h1 rfl 2 (by decide) qw_373 (fun _ h9 => h9) rfl rfl rfl (Nat.le_of_ble_eq_true rfl) dX3_init_31 (fun G_16 H locs g_17 o_18 hw => ?_)
  have h1 : G_16 t = some (a, .inr (4, [.int (nI n), .int (nI p0), .int (nI x), .int 0, .int 0, .int 1, .int 0, .int 0])) := g_17
  refine lv_aload_n hx hb dX3_init_34 rfl (lv_at hl 0 rfl) ?_
  refine lv_iload_n hx hb dX3_init_35 rfl (lv_at hl 3 rfl) ?_
  refine tg_put hx hb hown hAm hw lyX3 tyX3 tyX3_ok nmX3 h1 rfl 3 (by decide) qw_375 (fun _ h9 => h9) rfl rfl rfl (Nat.le_of_ble_eq_true rfl) dX3_init_36 (fun G_19 H locs g_20 o_21 hw => ?_)
  have h1 : G_19 t = some (a, .inr (4, [.int (nI n), .int (nI p0), .int (nI x), .int (nI x), .int 0, .int 1, .int 0, .int 0])) := g_20
  refine lv_aload_n hx hb dX3_init_39 rfl (lv_at hl 0 rfl) ?_
  refine lv_iload_n hx hb dX3_init_40 rfl (lv_at hl 3 rfl) ?_
  refine tg_put hx hb hown hAm hw lyX3 tyX3 tyX3_ok nmX3 h1 rfl 4 (by decide) qw_376 (fun _ h9 => h9) rfl rfl rfl (Nat.le_of_ble_eq_true rfl) dX3_init_41 (fun G_22 H locs g_23 o_24 hw => ?_)
  have h1 : G_22 t = some (a, .inr (4, [.int (nI n), .int (nI p0), .int (nI x), .int (nI x), .int (nI x), .int 1, .int 0, .int 0])) := g_23
  exact tg_vret hx hb hr hlocks hw (⟨h1, (fun t9 h9 => (o_24 t9 (by omega)).trans ((o_21 t9 (by omega)).trans ((o_18 t9 (by omega)).trans ((o_15 t9 (by omega)).trans ((o_12 t9 (by omega)).trans ((o_9 t9 (by omega)).trans ((o_6 t9 (by omega)).trans ((o_3 t9 (by omega))))))))))⟩) (Nat.le_of_ble_eq_true rfl) (Nat.le_of_ble_eq_true rfl) dX3_init_44
set_option maxHeartbeats 4000000 in
set_option maxRecDepth 100000 in
theorem li_add3M (l : Launch) (E : rc_E) (sz : Nat) (G : tg_G) {t te a aa ea n : Nat} {mc : Int32} {el : Nat → Nat} {f0 f1 f2 f3 f4 f5 f6 f7 : Int32} (hcase : (n = 0 ∧ aa = E.2.2 0) ∨ ∃ (cap : Nat) (f : Nat → Option Nat), G (t + 1) = some (aa, .inl (E.2.1 2, cap, .inr (.inr (.inr (.inr f))))) ∧ (n ≤ cap ∧ 0 < cap) ∧ cap ≤ 200 ∧ ∀ i9, i9 < n → f i9 = some (el i9)) (helm : ∀ i9, i9 < n → ∃ (te : Nat) (vs : List Value), te ≠ 63 ∧ G te = some (el i9, .inr (4, vs))) (hn : n < 60) (ht : t + 1 < 63) (h1 : G t = some (a, .inr (0, [.int mc, .ref aa, .int (nI n)]))) (he : G te = some (ea, .inr (4, [.int f0, .int f1, .int f2, .int f3, .int f4, .int f5, .int f6, .int f7]))) (hte : te ≠ t ∧ te ≠ t + 1 ∧ te ≠ 63) : tg_M l yJx4a65c_add_72be8 [Cond.code yJx4a65c_add_72be8 cJx4a65c_add_72be8 4 (none : Option FieldType)] { frames := 5, cells := 1, slots := 200, locals := 127 } E [.ref a, .ref ea, .ref aa, .int (nI n)] G sz (tg_Qv E (fun u => ltH E u t a (n + 1) (fun i9 => if i9 = n then ea else el i9) ∧ ∀ t9, t9 ≠ t → t9 ≠ t + 1 → t9 ≠ 63 → u t9 = G t9)) 1 200 := by
  refine tg_in (cc := cJx4a65c_add_72be8) (maxL := 4) (ret := (none : Option FieldType)) (tg_Qv E (fun u => ltH E u t a (n + 1) (fun i9 => if i9 = n then ea else el i9) ∧ ∀ t9, t9 ≠ t → t9 ≠ t + 1 → t9 ≠ 63 → u t9 = G t9)) (by decide) rfl (Nat.le_of_ble_eq_true rfl) ?_
  intro p e s m args below meth cd ls A hx hb hr hml hown hlocks hin hA hAm hw hl
  have hown : s.vm.findClass RJx4a65c = some m.cls := hown
  have hl : lv_has ls 4 [(0, .ref a), (1, .ref ea), (2, .ref aa), (3, .int (nI n))] := hl
  obtain ⟨hte1, hte2, hte3⟩ := hte
  rcases hcase with ⟨z0, z1⟩ | ⟨cap, f, h2, hcap, hcap2, hf⟩
  · subst z0
    subst z1
    refine lv_iload_n hx hb dJx4a65c_add_72be8_0 rfl (lv_at hl 3 rfl) ?_
    refine lv_aload_n hx hb dJx4a65c_add_72be8_1 rfl (lv_at hl 2 rfl) ?_
    refine va_tlen hx hb hAm.2.2.1.2 hw.2.2 (v := 0) rfl dJx4a65c_add_72be8_2 ?_
    refine lv_icmp_ne (tgt := 11) hx hb dJx4a65c_add_72be8_3 (by decide) (fun c9 => absurd ((nI_eq (a := 0) (b := 0) (by omega) (by omega)).mpr (by omega)) c9) (fun _ => ?_)
    refine lv_aload_n hx hb dJx4a65c_add_72be8_6 rfl (lv_at hl 0 rfl) ?_
    refine tg_callr (va_runV (As := []) (rest := []) (Ts := []) ⟨hx, hb, hml, hown, fun _ h9 => absurd h9 List.not_mem_nil⟩ (li_growE l E _ G h1) (rc_cwV hAm qw_175 qw_4 qw_178 qw_177 qs_1 rfl rfl hd_Jx4a65c_grow_d5877 ⟨Nat.le_of_ble_eq_true rfl, Nat.le_of_ble_eq_true rfl⟩) (tg_preV hAm hA hw h1 (q := vwCl[0]) rfl) rfl rfl hl.1 rfl (lv_room (Nat.le_of_ble_eq_true rfl)) dJx4a65c_add_72be8_7 ⟨Nat.le_of_ble_eq_true rfl, Nat.le_of_ble_eq_true rfl⟩) hA hw (fun G_1 r_2 H locs hp hw => ?_)
    obtain ⟨h1, h2, hu⟩ := hp
    have he := (hu _ (by omega) (by omega)).trans he
    refine lv_astore_n (lv' := [(2, .ref r_2), (0, .ref a), (1, .ref ea), (3, .int (nI 0))]) hx hb dJx4a65c_add_72be8_10 rfl hl (by decide) rfl (fun ls hl => ?_)
    refine lv_aload_n hx hb dJx4a65c_add_72be8_11 rfl (lv_at hl 0 rfl) ?_
    refine lv_iload_n hx hb dJx4a65c_add_72be8_12 rfl (lv_at hl 3 rfl) ?_
    refine lv_aload_n hx hb dJx4a65c_add_72be8_13 rfl (lv_at hl 2 rfl) ?_
    refine tg_qast (C := RX3) hx hb hAm hw h2 he rfl qw_806 (vp_in_nI (n := 0) (N := 10) (by omega) (by omega)) dJx4a65c_add_72be8_14 (fun G_3 H locs g_4 o_5 hw => ?_)
    rw [nI_clamp (by omega)] at g_4
    have h1 := (o_5 _ (by omega)).trans h1
    have he := (o_5 _ (by omega)).trans he
    have h2 : G_3 (t + 1) = some (r_2, .inl (E.2.1 2, 10, .inr (.inr (.inr (.inr (va_up (fun _ => none) 0 (some ea))))))) := g_4
    refine lv_aload_n hx hb dJx4a65c_add_72be8_15 rfl (lv_at hl 1 rfl) ?_
    refine lv_iload_n hx hb dJx4a65c_add_72be8_16 rfl (lv_at hl 3 rfl) ?_
    refine lv_iconst (v := 1) hx hb dJx4a65c_add_72be8_17 (by decide) ?_
    refine lv_iadd hx hb dJx4a65c_add_72be8_18 ?_
    refine rc_topi (nI (0 + 1)) (nI_add 0 1) ?_
    refine tg_put hx hb hown hAm hw lyJx4a65c tyJx4a65c tyJx4a65c_ok nmJx4a65c h1 rfl 2 (by decide) qw_48 (fun _ h9 => h9) rfl rfl rfl (Nat.le_of_ble_eq_true rfl) dJx4a65c_add_72be8_19 (fun G_6 H locs g_7 o_8 hw => ?_)
    have he := (o_8 _ (by omega)).trans he
    have h2 := (o_8 _ (by omega)).trans h2
    have h1 : G_6 t = some (a, .inr (0, [.int mc, .ref r_2, .int (nI (0 + 1))])) := g_7
    exact tg_vret hx hb hr hlocks hw (⟨⟨mc, _, h1, Or.inr ⟨10, _, h2, by omega, by omega, fun i9 h9 => by obtain rfl : i9 = 0 := (by omega); rfl⟩⟩, (fun t9 h7 h8 h9 => (o_8 t9 (by omega)).trans ((o_5 t9 (by omega)).trans ((hu t9 h7 h8))))⟩) (Nat.le_of_ble_eq_true rfl) (Nat.le_of_ble_eq_true rfl) dJx4a65c_add_72be8_22
  · by_cases hz : n = cap
    · subst hz
      refine lv_iload_n hx hb dJx4a65c_add_72be8_0 rfl (lv_at hl 3 rfl) ?_
      refine lv_aload_n hx hb dJx4a65c_add_72be8_1 rfl (lv_at hl 2 rfl) ?_
      refine tg_alen hx hb hAm hw 2 h2 rfl (nI n) rfl dJx4a65c_add_72be8_2 ?_
      refine lv_icmp_ne (tgt := 11) hx hb dJx4a65c_add_72be8_3 (by decide) (fun c9 => absurd ((nI_eq (a := n) (b := n) (by omega) (by omega)).mpr (by omega)) c9) (fun _ => ?_)
      refine lv_aload_n hx hb dJx4a65c_add_72be8_6 rfl (lv_at hl 0 rfl) ?_
      refine tg_callr (va_runV (As := []) (rest := []) (Ts := []) ⟨hx, hb, hml, hown, fun _ h9 => absurd h9 List.not_mem_nil⟩ (li_growF l E _ G (by omega) (by omega) ht (ci := 4) rfl qw_806 (fun i9 h9 y9 z9 => by obtain ⟨t8, vs, e0, e1⟩ := helm i9 h9; exact ⟨t8, vs, e0, by rw [← Option.some.inj ((hf i9 h9).symm.trans z9)]; exact e1⟩) h1 h2) (rc_cwV hAm qw_175 qw_4 qw_178 qw_177 qs_1 rfl rfl hd_Jx4a65c_grow_d5877 ⟨Nat.le_of_ble_eq_true rfl, Nat.le_of_ble_eq_true rfl⟩) (tg_preV hAm hA hw h1 (q := vwCl[0]) rfl) rfl rfl hl.1 rfl (lv_room (Nat.le_of_ble_eq_true rfl)) dJx4a65c_add_72be8_7 ⟨Nat.le_of_ble_eq_true rfl, Nat.le_of_ble_eq_true rfl⟩) hA hw (fun G_9 r_10 H locs hp hw => ?_)
      obtain ⟨h1, ⟨f2, hf2, hf3⟩, hu⟩ := hp
      have he := (hu _ (by omega) (by omega)).trans he
      have h2 := (hu _ (by omega) (by omega)).trans h2
      refine lv_astore_n (lv' := [(2, .ref r_10), (0, .ref a), (1, .ref ea), (3, .int (nI n))]) hx hb dJx4a65c_add_72be8_10 rfl hl (by decide) rfl (fun ls hl => ?_)
      obtain ⟨Gm, hw, hm1, hm2⟩ := tg_move hw (t1 := t + 1) (t2 := 63) (by omega) hf2
      have h1 := (hm2 _ (by omega) (by omega)).trans h1
      have he := (hm2 _ (by omega) (by omega)).trans he
      refine lv_aload_n hx hb dJx4a65c_add_72be8_11 rfl (lv_at hl 0 rfl) ?_
      refine lv_iload_n hx hb dJx4a65c_add_72be8_12 rfl (lv_at hl 3 rfl) ?_
      refine lv_aload_n hx hb dJx4a65c_add_72be8_13 rfl (lv_at hl 2 rfl) ?_
      refine tg_qast (C := RX3) hx hb hAm hw hm1 he rfl qw_806 (vp_in_nI (n := n) (N := n + max (n + 1 - n) (n / 2)) (by omega) (by omega)) dJx4a65c_add_72be8_14 (fun G_11 H locs g_12 o_13 hw => ?_)
      rw [nI_clamp (by omega)] at g_12
      have h1 := (o_13 _ (by omega)).trans h1
      have he := (o_13 _ (by omega)).trans he
      have hm1 : G_11 (t + 1) = some (r_10, .inl (E.2.1 2, n + max (n + 1 - n) (n / 2), .inr (.inr (.inr (.inr (va_up f2 n (some ea))))))) := g_12
      refine lv_aload_n hx hb dJx4a65c_add_72be8_15 rfl (lv_at hl 1 rfl) ?_
      refine lv_iload_n hx hb dJx4a65c_add_72be8_16 rfl (lv_at hl 3 rfl) ?_
      refine lv_iconst (v := 1) hx hb dJx4a65c_add_72be8_17 (by decide) ?_
      refine lv_iadd hx hb dJx4a65c_add_72be8_18 ?_
      refine rc_topi (nI (n + 1)) (nI_add n 1) ?_
      refine tg_put hx hb hown hAm hw lyJx4a65c tyJx4a65c tyJx4a65c_ok nmJx4a65c h1 rfl 2 (by decide) qw_48 (fun _ h9 => h9) rfl rfl rfl (Nat.le_of_ble_eq_true rfl) dJx4a65c_add_72be8_19 (fun G_14 H locs g_15 o_16 hw => ?_)
      have he := (o_16 _ (by omega)).trans he
      have hm1 := (o_16 _ (by omega)).trans hm1
      have h1 : G_14 t = some (a, .inr (0, [.int mc, .ref r_10, .int (nI (n + 1))])) := g_15
      exact tg_vret hx hb hr hlocks hw (⟨⟨mc, _, h1, Or.inr ⟨_, _, hm1, by omega, by omega, fun i9 h9 => (by by_cases e9 : i9 = n; (rw [e9, va_up_self]; exact (congrArg some (if_pos rfl)).symm); (rw [va_up_ne _ _ e9]; exact ((hf3 i9 (by omega)).trans (hf i9 (by omega))).trans (congrArg some (if_neg e9).symm)))⟩⟩, (fun t9 h7 h8 h9 => (o_16 t9 (by omega)).trans ((o_13 t9 (by omega)).trans ((hm2 t9 h8 h9).trans ((hu t9 h7 h9)))))⟩) (Nat.le_of_ble_eq_true rfl) (Nat.le_of_ble_eq_true rfl) dJx4a65c_add_72be8_22
    · have hz2 : n < cap := by omega
      refine lv_iload_n hx hb dJx4a65c_add_72be8_0 rfl (lv_at hl 3 rfl) ?_
      refine lv_aload_n hx hb dJx4a65c_add_72be8_1 rfl (lv_at hl 2 rfl) ?_
      refine tg_alen hx hb hAm hw 2 h2 rfl (nI cap) rfl dJx4a65c_add_72be8_2 ?_
      refine lv_icmp_ne (tgt := 11) hx hb dJx4a65c_add_72be8_3 (by decide) (fun _ => ?_) (fun c9 => absurd c9 (fun z9 => absurd ((nI_eq (a := n) (b := cap) (by omega) (by omega)).mp z9) (by omega)))
      refine lv_aload_n hx hb dJx4a65c_add_72be8_11 rfl (lv_at hl 2 rfl) ?_
      refine lv_iload_n hx hb dJx4a65c_add_72be8_12 rfl (lv_at hl 3 rfl) ?_
      refine lv_aload_n hx hb dJx4a65c_add_72be8_13 rfl (lv_at hl 1 rfl) ?_
      refine tg_qast (C := RX3) hx hb hAm hw h2 he rfl qw_806 (vp_in_nI (n := n) (N := cap) (by omega) (by omega)) dJx4a65c_add_72be8_14 (fun G_17 H locs g_18 o_19 hw => ?_)
      rw [nI_clamp (by omega)] at g_18
      have h1 := (o_19 _ (by omega)).trans h1
      have he := (o_19 _ (by omega)).trans he
      have h2 : G_17 (t + 1) = some (aa, .inl (E.2.1 2, cap, .inr (.inr (.inr (.inr (va_up f n (some ea))))))) := g_18
      refine lv_aload_n hx hb dJx4a65c_add_72be8_15 rfl (lv_at hl 0 rfl) ?_
      refine lv_iload_n hx hb dJx4a65c_add_72be8_16 rfl (lv_at hl 3 rfl) ?_
      refine lv_iconst (v := 1) hx hb dJx4a65c_add_72be8_17 (by decide) ?_
      refine lv_iadd hx hb dJx4a65c_add_72be8_18 ?_
      refine rc_topi (nI (n + 1)) (nI_add n 1) ?_
      refine tg_put hx hb hown hAm hw lyJx4a65c tyJx4a65c tyJx4a65c_ok nmJx4a65c h1 rfl 2 (by decide) qw_48 (fun _ h9 => h9) rfl rfl rfl (Nat.le_of_ble_eq_true rfl) dJx4a65c_add_72be8_19 (fun G_20 H locs g_21 o_22 hw => ?_)
      have he := (o_22 _ (by omega)).trans he
      have h2 := (o_22 _ (by omega)).trans h2
      have h1 : G_20 t = some (a, .inr (0, [.int mc, .ref aa, .int (nI (n + 1))])) := g_21
      exact tg_vret hx hb hr hlocks hw (⟨⟨mc, _, h1, Or.inr ⟨_, _, h2, by omega, by omega, fun i9 h9 => (by by_cases e9 : i9 = n; (rw [e9, va_up_self]; exact (congrArg some (if_pos rfl)).symm); (rw [va_up_ne _ _ e9]; exact (hf i9 (by omega)).trans (congrArg some (if_neg e9).symm)))⟩⟩, (fun t9 h7 h8 h9 => (o_22 t9 (by omega)).trans ((o_19 t9 (by omega))))⟩) (Nat.le_of_ble_eq_true rfl) (Nat.le_of_ble_eq_true rfl) dJx4a65c_add_72be8_22
set_option maxHeartbeats 4000000 in
set_option maxRecDepth 100000 in
theorem li_addM (l : Launch) (E : rc_E) (sz : Nat) (G : tg_G) {t te a ea n : Nat} {el : Nat → Nat} {f0 f1 f2 f3 f4 f5 f6 f7 : Int32} (hL : ltH E G t a n el) (helm : ∀ i9, i9 < n → ∃ (te9 : Nat) (vs : List Value), te9 ≠ 63 ∧ te9 ≠ t ∧ G te9 = some (el i9, .inr (4, vs))) (hn : n < 60) (ht : t + 1 < 63) (he : G te = some (ea, .inr (4, [.int f0, .int f1, .int f2, .int f3, .int f4, .int f5, .int f6, .int f7]))) (hte : te ≠ t ∧ te ≠ t + 1 ∧ te ≠ 63) : tg_M l yJx4a65c_add_9ea2d [Cond.code yJx4a65c_add_9ea2d cJx4a65c_add_9ea2d 2 (some FieldType.boolean)] { frames := 6, cells := 1, slots := 200, locals := 150 } E [.ref a, .ref ea] G sz (tg_Qi E (fun r u => ltH E u t a (n + 1) (fun i9 => if i9 = n then ea else el i9) ∧ ∀ t9, t9 ≠ t → t9 ≠ t + 1 → t9 ≠ 63 → u t9 = G t9)) 1 200 := by
  refine tg_in (cc := cJx4a65c_add_9ea2d) (maxL := 2) (ret := (some FieldType.boolean)) (tg_Qi E (fun r u => ltH E u t a (n + 1) (fun i9 => if i9 = n then ea else el i9) ∧ ∀ t9, t9 ≠ t → t9 ≠ t + 1 → t9 ≠ 63 → u t9 = G t9)) (by decide) rfl (Nat.le_of_ble_eq_true rfl) ?_
  intro p e s m args below meth cd ls A hx hb hr hml hown hlocks hin hA hAm hw hl
  have hown : s.vm.findClass RJx4a65c = some m.cls := hown
  have hl : lv_has ls 2 [(0, .ref a), (1, .ref ea)] := hl
  obtain ⟨mc, aa, h1, hcase⟩ := hL
  obtain ⟨hte1, hte2, hte3⟩ := id hte
  refine lv_aload_n hx hb dJx4a65c_add_9ea2d_0 rfl (lv_at hl 0 rfl) ?_
  refine lv_dup hx hb dJx4a65c_add_9ea2d_1 rfl ?_
  refine tg_get (v := .int mc) hx hb hown hAm hw lyJx4a65c h1 rfl 0 (by decide) qw_50 (fun x9 h9 => u_same (hAm.wd (a := args) qw_51 rfl rfl) x9 h9) rfl dJx4a65c_add_9ea2d_2 ?_
  refine lv_iconst (v := 1) hx hb dJx4a65c_add_9ea2d_5 (by decide) ?_
  refine lv_iadd hx hb dJx4a65c_add_9ea2d_6 ?_
  refine tg_put hx hb hown hAm hw lyJx4a65c tyJx4a65c tyJx4a65c_ok nmJx4a65c h1 rfl 0 (by decide) qw_50 (fun x9 h9 => u_same (hAm.wd (a := args) qw_51 rfl rfl) x9 h9) rfl rfl rfl (Nat.le_of_ble_eq_true rfl) dJx4a65c_add_9ea2d_7 (fun G_1 H locs g_2 o_3 hw => ?_)
  have he := (o_3 _ (by omega)).trans he
  have h1 : G_1 t = some (a, .inr (0, [.int (mc + 1), .ref aa, .int (nI n)])) := g_2
  have hcase : (n = 0 ∧ aa = E.2.2 0) ∨ ∃ (cap : Nat) (f : Nat → Option Nat), G_1 (t + 1) = some (aa, .inl (E.2.1 2, cap, .inr (.inr (.inr (.inr f))))) ∧ (n ≤ cap ∧ 0 < cap) ∧ cap ≤ 200 ∧ ∀ i9, i9 < n → f i9 = some (el i9) := hcase.imp id (fun ⟨cap, f, k1, k2⟩ => ⟨cap, f, (o_3 _ (by omega)).trans k1, k2⟩)
  have helm : ∀ i9, i9 < n → ∃ (te : Nat) (vs : List Value), te ≠ 63 ∧ G_1 te = some (el i9, .inr (4, vs)) := fun i9 h9 => by obtain ⟨te9, vs, k1, k2, k3⟩ := helm i9 h9; exact ⟨te9, vs, k1, (o_3 te9 k2).trans k3⟩
  refine lv_aload_n hx hb dJx4a65c_add_9ea2d_10 rfl (lv_at hl 0 rfl) ?_
  refine lv_aload_n hx hb dJx4a65c_add_9ea2d_11 rfl (lv_at hl 1 rfl) ?_
  refine lv_aload_n hx hb dJx4a65c_add_9ea2d_12 rfl (lv_at hl 0 rfl) ?_
  refine tg_get (v := .ref aa) hx hb hown hAm hw lyJx4a65c h1 rfl 1 (by decide) qw_47 (fun _ h9 => h9) rfl dJx4a65c_add_9ea2d_13 ?_
  refine lv_aload_n hx hb dJx4a65c_add_9ea2d_16 rfl (lv_at hl 0 rfl) ?_
  refine tg_get (v := .int (nI n)) hx hb hown hAm hw lyJx4a65c h1 rfl 2 (by decide) qw_48 (fun _ h9 => h9) rfl dJx4a65c_add_9ea2d_17 ?_
  refine tg_callv (va_runV (As := [.ref ea, .ref aa, .int (nI n)]) (rest := []) (Ts := []) ⟨hx, hb, hml, hown, fun _ h9 => absurd h9 List.not_mem_nil⟩ (li_add3M l E _ G_1 hcase helm hn ht h1 he ⟨hte1, hte2, hte3⟩) (rc_cwV hAm qw_171 qw_4 qw_174 qw_173 qs_0 rfl rfl hd_Jx4a65c_add_72be8 ⟨Nat.le_of_ble_eq_true rfl, Nat.le_of_ble_eq_true rfl⟩) (tg_preV hAm hA hw h1 (q := vwCl[0]) rfl) rfl rfl hl.1 rfl (lv_room (Nat.le_of_ble_eq_true rfl)) dJx4a65c_add_9ea2d_20 ⟨Nat.le_of_ble_eq_true rfl, Nat.le_of_ble_eq_true rfl⟩) hA hw (fun G_4 H locs hp hw => ?_)
  obtain ⟨hL2, hu⟩ := hp
  refine lv_iconst (v := 1) hx hb dJx4a65c_add_9ea2d_23 (by decide) ?_
  exact tg_zret hx hb hr hlocks hw rfl (⟨hL2, fun t9 h7 h8 h9 => (hu t9 h7 h8 h9).trans (o_3 t9 h7)⟩) (Nat.le_of_ble_eq_true rfl) (Nat.le_of_ble_eq_true rfl) dJx4a65c_add_9ea2d_24
set_option maxHeartbeats 4000000 in
set_option maxRecDepth 100000 in
theorem li_add3C (l : Launch) (E : rc_E) (sz : Nat) (G : tg_G) {t te a aa ea n : Nat} {mc : Int32} {el : Nat → Nat} {e0 : Nat} {f1 f2 : Int32} (hcase : (n = 0 ∧ aa = E.2.2 0) ∨ ∃ (cap : Nat) (f : Nat → Option Nat), G (t + 1) = some (aa, .inl (E.2.1 2, cap, .inr (.inr (.inr (.inr f))))) ∧ (n ≤ cap ∧ 0 < cap) ∧ cap ≤ 200 ∧ ∀ i9, i9 < n → f i9 = some (el i9)) (helm : ∀ i9, i9 < n → ∃ (te : Nat) (vs : List Value), te ≠ 63 ∧ G te = some (el i9, .inr (2, vs))) (hn : n < 60) (ht : t + 1 < 63) (h1 : G t = some (a, .inr (0, [.int mc, .ref aa, .int (nI n)]))) (he : G te = some (ea, .inr (2, [.ref e0, .int f1, .int f2]))) (hte : te ≠ t ∧ te ≠ t + 1 ∧ te ≠ 63) : tg_M l yJx4a65c_add_72be8 [Cond.code yJx4a65c_add_72be8 cJx4a65c_add_72be8 4 (none : Option FieldType)] { frames := 5, cells := 1, slots := 200, locals := 127 } E [.ref a, .ref ea, .ref aa, .int (nI n)] G sz (tg_Qv E (fun u => ltH E u t a (n + 1) (fun i9 => if i9 = n then ea else el i9) ∧ ∀ t9, t9 ≠ t → t9 ≠ t + 1 → t9 ≠ 63 → u t9 = G t9)) 1 200 := by
  refine tg_in (cc := cJx4a65c_add_72be8) (maxL := 4) (ret := (none : Option FieldType)) (tg_Qv E (fun u => ltH E u t a (n + 1) (fun i9 => if i9 = n then ea else el i9) ∧ ∀ t9, t9 ≠ t → t9 ≠ t + 1 → t9 ≠ 63 → u t9 = G t9)) (by decide) rfl (Nat.le_of_ble_eq_true rfl) ?_
  intro p e s m args below meth cd ls A hx hb hr hml hown hlocks hin hA hAm hw hl
  have hown : s.vm.findClass RJx4a65c = some m.cls := hown
  have hl : lv_has ls 4 [(0, .ref a), (1, .ref ea), (2, .ref aa), (3, .int (nI n))] := hl
  obtain ⟨hte1, hte2, hte3⟩ := hte
  rcases hcase with ⟨z0, z1⟩ | ⟨cap, f, h2, hcap, hcap2, hf⟩
  · subst z0
    subst z1
    refine lv_iload_n hx hb dJx4a65c_add_72be8_0 rfl (lv_at hl 3 rfl) ?_
    refine lv_aload_n hx hb dJx4a65c_add_72be8_1 rfl (lv_at hl 2 rfl) ?_
    refine va_tlen hx hb hAm.2.2.1.2 hw.2.2 (v := 0) rfl dJx4a65c_add_72be8_2 ?_
    refine lv_icmp_ne (tgt := 11) hx hb dJx4a65c_add_72be8_3 (by decide) (fun c9 => absurd ((nI_eq (a := 0) (b := 0) (by omega) (by omega)).mpr (by omega)) c9) (fun _ => ?_)
    refine lv_aload_n hx hb dJx4a65c_add_72be8_6 rfl (lv_at hl 0 rfl) ?_
    refine tg_callr (va_runV (As := []) (rest := []) (Ts := []) ⟨hx, hb, hml, hown, fun _ h9 => absurd h9 List.not_mem_nil⟩ (li_growE l E _ G h1) (rc_cwV hAm qw_175 qw_4 qw_178 qw_177 qs_1 rfl rfl hd_Jx4a65c_grow_d5877 ⟨Nat.le_of_ble_eq_true rfl, Nat.le_of_ble_eq_true rfl⟩) (tg_preV hAm hA hw h1 (q := vwCl[0]) rfl) rfl rfl hl.1 rfl (lv_room (Nat.le_of_ble_eq_true rfl)) dJx4a65c_add_72be8_7 ⟨Nat.le_of_ble_eq_true rfl, Nat.le_of_ble_eq_true rfl⟩) hA hw (fun G_1 r_2 H locs hp hw => ?_)
    obtain ⟨h1, h2, hu⟩ := hp
    have he := (hu _ (by omega) (by omega)).trans he
    refine lv_astore_n (lv' := [(2, .ref r_2), (0, .ref a), (1, .ref ea), (3, .int (nI 0))]) hx hb dJx4a65c_add_72be8_10 rfl hl (by decide) rfl (fun ls hl => ?_)
    refine lv_aload_n hx hb dJx4a65c_add_72be8_11 rfl (lv_at hl 0 rfl) ?_
    refine lv_iload_n hx hb dJx4a65c_add_72be8_12 rfl (lv_at hl 3 rfl) ?_
    refine lv_aload_n hx hb dJx4a65c_add_72be8_13 rfl (lv_at hl 2 rfl) ?_
    refine tg_qast (C := RX1) hx hb hAm hw h2 he rfl qw_800 (vp_in_nI (n := 0) (N := 10) (by omega) (by omega)) dJx4a65c_add_72be8_14 (fun G_3 H locs g_4 o_5 hw => ?_)
    rw [nI_clamp (by omega)] at g_4
    have h1 := (o_5 _ (by omega)).trans h1
    have he := (o_5 _ (by omega)).trans he
    have h2 : G_3 (t + 1) = some (r_2, .inl (E.2.1 2, 10, .inr (.inr (.inr (.inr (va_up (fun _ => none) 0 (some ea))))))) := g_4
    refine lv_aload_n hx hb dJx4a65c_add_72be8_15 rfl (lv_at hl 1 rfl) ?_
    refine lv_iload_n hx hb dJx4a65c_add_72be8_16 rfl (lv_at hl 3 rfl) ?_
    refine lv_iconst (v := 1) hx hb dJx4a65c_add_72be8_17 (by decide) ?_
    refine lv_iadd hx hb dJx4a65c_add_72be8_18 ?_
    refine rc_topi (nI (0 + 1)) (nI_add 0 1) ?_
    refine tg_put hx hb hown hAm hw lyJx4a65c tyJx4a65c tyJx4a65c_ok nmJx4a65c h1 rfl 2 (by decide) qw_48 (fun _ h9 => h9) rfl rfl rfl (Nat.le_of_ble_eq_true rfl) dJx4a65c_add_72be8_19 (fun G_6 H locs g_7 o_8 hw => ?_)
    have he := (o_8 _ (by omega)).trans he
    have h2 := (o_8 _ (by omega)).trans h2
    have h1 : G_6 t = some (a, .inr (0, [.int mc, .ref r_2, .int (nI (0 + 1))])) := g_7
    exact tg_vret hx hb hr hlocks hw (⟨⟨mc, _, h1, Or.inr ⟨10, _, h2, by omega, by omega, fun i9 h9 => by obtain rfl : i9 = 0 := (by omega); rfl⟩⟩, (fun t9 h7 h8 h9 => (o_8 t9 (by omega)).trans ((o_5 t9 (by omega)).trans ((hu t9 h7 h8))))⟩) (Nat.le_of_ble_eq_true rfl) (Nat.le_of_ble_eq_true rfl) dJx4a65c_add_72be8_22
  · by_cases hz : n = cap
    · subst hz
      refine lv_iload_n hx hb dJx4a65c_add_72be8_0 rfl (lv_at hl 3 rfl) ?_
      refine lv_aload_n hx hb dJx4a65c_add_72be8_1 rfl (lv_at hl 2 rfl) ?_
      refine tg_alen hx hb hAm hw 2 h2 rfl (nI n) rfl dJx4a65c_add_72be8_2 ?_
      refine lv_icmp_ne (tgt := 11) hx hb dJx4a65c_add_72be8_3 (by decide) (fun c9 => absurd ((nI_eq (a := n) (b := n) (by omega) (by omega)).mpr (by omega)) c9) (fun _ => ?_)
      refine lv_aload_n hx hb dJx4a65c_add_72be8_6 rfl (lv_at hl 0 rfl) ?_
      refine tg_callr (va_runV (As := []) (rest := []) (Ts := []) ⟨hx, hb, hml, hown, fun _ h9 => absurd h9 List.not_mem_nil⟩ (li_growF l E _ G (by omega) (by omega) ht (ci := 2) rfl qw_800 (fun i9 h9 y9 z9 => by obtain ⟨t8, vs, e0, e1⟩ := helm i9 h9; exact ⟨t8, vs, e0, by rw [← Option.some.inj ((hf i9 h9).symm.trans z9)]; exact e1⟩) h1 h2) (rc_cwV hAm qw_175 qw_4 qw_178 qw_177 qs_1 rfl rfl hd_Jx4a65c_grow_d5877 ⟨Nat.le_of_ble_eq_true rfl, Nat.le_of_ble_eq_true rfl⟩) (tg_preV hAm hA hw h1 (q := vwCl[0]) rfl) rfl rfl hl.1 rfl (lv_room (Nat.le_of_ble_eq_true rfl)) dJx4a65c_add_72be8_7 ⟨Nat.le_of_ble_eq_true rfl, Nat.le_of_ble_eq_true rfl⟩) hA hw (fun G_9 r_10 H locs hp hw => ?_)
      obtain ⟨h1, ⟨f2, hf2, hf3⟩, hu⟩ := hp
      have he := (hu _ (by omega) (by omega)).trans he
      have h2 := (hu _ (by omega) (by omega)).trans h2
      refine lv_astore_n (lv' := [(2, .ref r_10), (0, .ref a), (1, .ref ea), (3, .int (nI n))]) hx hb dJx4a65c_add_72be8_10 rfl hl (by decide) rfl (fun ls hl => ?_)
      obtain ⟨Gm, hw, hm1, hm2⟩ := tg_move hw (t1 := t + 1) (t2 := 63) (by omega) hf2
      have h1 := (hm2 _ (by omega) (by omega)).trans h1
      have he := (hm2 _ (by omega) (by omega)).trans he
      refine lv_aload_n hx hb dJx4a65c_add_72be8_11 rfl (lv_at hl 0 rfl) ?_
      refine lv_iload_n hx hb dJx4a65c_add_72be8_12 rfl (lv_at hl 3 rfl) ?_
      refine lv_aload_n hx hb dJx4a65c_add_72be8_13 rfl (lv_at hl 2 rfl) ?_
      refine tg_qast (C := RX1) hx hb hAm hw hm1 he rfl qw_800 (vp_in_nI (n := n) (N := n + max (n + 1 - n) (n / 2)) (by omega) (by omega)) dJx4a65c_add_72be8_14 (fun G_11 H locs g_12 o_13 hw => ?_)
      rw [nI_clamp (by omega)] at g_12
      have h1 := (o_13 _ (by omega)).trans h1
      have he := (o_13 _ (by omega)).trans he
      have hm1 : G_11 (t + 1) = some (r_10, .inl (E.2.1 2, n + max (n + 1 - n) (n / 2), .inr (.inr (.inr (.inr (va_up f2 n (some ea))))))) := g_12
      refine lv_aload_n hx hb dJx4a65c_add_72be8_15 rfl (lv_at hl 1 rfl) ?_
      refine lv_iload_n hx hb dJx4a65c_add_72be8_16 rfl (lv_at hl 3 rfl) ?_
      refine lv_iconst (v := 1) hx hb dJx4a65c_add_72be8_17 (by decide) ?_
      refine lv_iadd hx hb dJx4a65c_add_72be8_18 ?_
      refine rc_topi (nI (n + 1)) (nI_add n 1) ?_
      refine tg_put hx hb hown hAm hw lyJx4a65c tyJx4a65c tyJx4a65c_ok nmJx4a65c h1 rfl 2 (by decide) qw_48 (fun _ h9 => h9) rfl rfl rfl (Nat.le_of_ble_eq_true rfl) dJx4a65c_add_72be8_19 (fun G_14 H locs g_15 o_16 hw => ?_)
      have he := (o_16 _ (by omega)).trans he
      have hm1 := (o_16 _ (by omega)).trans hm1
      have h1 : G_14 t = some (a, .inr (0, [.int mc, .ref r_10, .int (nI (n + 1))])) := g_15
      exact tg_vret hx hb hr hlocks hw (⟨⟨mc, _, h1, Or.inr ⟨_, _, hm1, by omega, by omega, fun i9 h9 => (by by_cases e9 : i9 = n; (rw [e9, va_up_self]; exact (congrArg some (if_pos rfl)).symm); (rw [va_up_ne _ _ e9]; exact ((hf3 i9 (by omega)).trans (hf i9 (by omega))).trans (congrArg some (if_neg e9).symm)))⟩⟩, (fun t9 h7 h8 h9 => (o_16 t9 (by omega)).trans ((o_13 t9 (by omega)).trans ((hm2 t9 h8 h9).trans ((hu t9 h7 h9)))))⟩) (Nat.le_of_ble_eq_true rfl) (Nat.le_of_ble_eq_true rfl) dJx4a65c_add_72be8_22
    · have hz2 : n < cap := by omega
      refine lv_iload_n hx hb dJx4a65c_add_72be8_0 rfl (lv_at hl 3 rfl) ?_
      refine lv_aload_n hx hb dJx4a65c_add_72be8_1 rfl (lv_at hl 2 rfl) ?_
      refine tg_alen hx hb hAm hw 2 h2 rfl (nI cap) rfl dJx4a65c_add_72be8_2 ?_
      refine lv_icmp_ne (tgt := 11) hx hb dJx4a65c_add_72be8_3 (by decide) (fun _ => ?_) (fun c9 => absurd c9 (fun z9 => absurd ((nI_eq (a := n) (b := cap) (by omega) (by omega)).mp z9) (by omega)))
      refine lv_aload_n hx hb dJx4a65c_add_72be8_11 rfl (lv_at hl 2 rfl) ?_
      refine lv_iload_n hx hb dJx4a65c_add_72be8_12 rfl (lv_at hl 3 rfl) ?_
      refine lv_aload_n hx hb dJx4a65c_add_72be8_13 rfl (lv_at hl 1 rfl) ?_
      refine tg_qast (C := RX1) hx hb hAm hw h2 he rfl qw_800 (vp_in_nI (n := n) (N := cap) (by omega) (by omega)) dJx4a65c_add_72be8_14 (fun G_17 H locs g_18 o_19 hw => ?_)
      rw [nI_clamp (by omega)] at g_18
      have h1 := (o_19 _ (by omega)).trans h1
      have he := (o_19 _ (by omega)).trans he
      have h2 : G_17 (t + 1) = some (aa, .inl (E.2.1 2, cap, .inr (.inr (.inr (.inr (va_up f n (some ea))))))) := g_18
      refine lv_aload_n hx hb dJx4a65c_add_72be8_15 rfl (lv_at hl 0 rfl) ?_
      refine lv_iload_n hx hb dJx4a65c_add_72be8_16 rfl (lv_at hl 3 rfl) ?_
      refine lv_iconst (v := 1) hx hb dJx4a65c_add_72be8_17 (by decide) ?_
      refine lv_iadd hx hb dJx4a65c_add_72be8_18 ?_
      refine rc_topi (nI (n + 1)) (nI_add n 1) ?_
      refine tg_put hx hb hown hAm hw lyJx4a65c tyJx4a65c tyJx4a65c_ok nmJx4a65c h1 rfl 2 (by decide) qw_48 (fun _ h9 => h9) rfl rfl rfl (Nat.le_of_ble_eq_true rfl) dJx4a65c_add_72be8_19 (fun G_20 H locs g_21 o_22 hw => ?_)
      have he := (o_22 _ (by omega)).trans he
      have h2 := (o_22 _ (by omega)).trans h2
      have h1 : G_20 t = some (a, .inr (0, [.int mc, .ref aa, .int (nI (n + 1))])) := g_21
      exact tg_vret hx hb hr hlocks hw (⟨⟨mc, _, h1, Or.inr ⟨_, _, h2, by omega, by omega, fun i9 h9 => (by by_cases e9 : i9 = n; (rw [e9, va_up_self]; exact (congrArg some (if_pos rfl)).symm); (rw [va_up_ne _ _ e9]; exact (hf i9 (by omega)).trans (congrArg some (if_neg e9).symm)))⟩⟩, (fun t9 h7 h8 h9 => (o_22 t9 (by omega)).trans ((o_19 t9 (by omega))))⟩) (Nat.le_of_ble_eq_true rfl) (Nat.le_of_ble_eq_true rfl) dJx4a65c_add_72be8_22
set_option maxHeartbeats 4000000 in
set_option maxRecDepth 100000 in
theorem li_addC (l : Launch) (E : rc_E) (sz : Nat) (G : tg_G) {t te a ea n : Nat} {el : Nat → Nat} {e0 : Nat} {f1 f2 : Int32} (hL : ltH E G t a n el) (helm : ∀ i9, i9 < n → ∃ (te9 : Nat) (vs : List Value), te9 ≠ 63 ∧ te9 ≠ t ∧ G te9 = some (el i9, .inr (2, vs))) (hn : n < 60) (ht : t + 1 < 63) (he : G te = some (ea, .inr (2, [.ref e0, .int f1, .int f2]))) (hte : te ≠ t ∧ te ≠ t + 1 ∧ te ≠ 63) : tg_M l yJx4a65c_add_9ea2d [Cond.code yJx4a65c_add_9ea2d cJx4a65c_add_9ea2d 2 (some FieldType.boolean)] { frames := 6, cells := 1, slots := 200, locals := 150 } E [.ref a, .ref ea] G sz (tg_Qi E (fun r u => ltH E u t a (n + 1) (fun i9 => if i9 = n then ea else el i9) ∧ ∀ t9, t9 ≠ t → t9 ≠ t + 1 → t9 ≠ 63 → u t9 = G t9)) 1 200 := by
  refine tg_in (cc := cJx4a65c_add_9ea2d) (maxL := 2) (ret := (some FieldType.boolean)) (tg_Qi E (fun r u => ltH E u t a (n + 1) (fun i9 => if i9 = n then ea else el i9) ∧ ∀ t9, t9 ≠ t → t9 ≠ t + 1 → t9 ≠ 63 → u t9 = G t9)) (by decide) rfl (Nat.le_of_ble_eq_true rfl) ?_
  intro p e s m args below meth cd ls A hx hb hr hml hown hlocks hin hA hAm hw hl
  have hown : s.vm.findClass RJx4a65c = some m.cls := hown
  have hl : lv_has ls 2 [(0, .ref a), (1, .ref ea)] := hl
  obtain ⟨mc, aa, h1, hcase⟩ := hL
  obtain ⟨hte1, hte2, hte3⟩ := id hte
  refine lv_aload_n hx hb dJx4a65c_add_9ea2d_0 rfl (lv_at hl 0 rfl) ?_
  refine lv_dup hx hb dJx4a65c_add_9ea2d_1 rfl ?_
  refine tg_get (v := .int mc) hx hb hown hAm hw lyJx4a65c h1 rfl 0 (by decide) qw_50 (fun x9 h9 => u_same (hAm.wd (a := args) qw_51 rfl rfl) x9 h9) rfl dJx4a65c_add_9ea2d_2 ?_
  refine lv_iconst (v := 1) hx hb dJx4a65c_add_9ea2d_5 (by decide) ?_
  refine lv_iadd hx hb dJx4a65c_add_9ea2d_6 ?_
  refine tg_put hx hb hown hAm hw lyJx4a65c tyJx4a65c tyJx4a65c_ok nmJx4a65c h1 rfl 0 (by decide) qw_50 (fun x9 h9 => u_same (hAm.wd (a := args) qw_51 rfl rfl) x9 h9) rfl rfl rfl (Nat.le_of_ble_eq_true rfl) dJx4a65c_add_9ea2d_7 (fun G_1 H locs g_2 o_3 hw => ?_)
  have he := (o_3 _ (by omega)).trans he
  have h1 : G_1 t = some (a, .inr (0, [.int (mc + 1), .ref aa, .int (nI n)])) := g_2
  have hcase : (n = 0 ∧ aa = E.2.2 0) ∨ ∃ (cap : Nat) (f : Nat → Option Nat), G_1 (t + 1) = some (aa, .inl (E.2.1 2, cap, .inr (.inr (.inr (.inr f))))) ∧ (n ≤ cap ∧ 0 < cap) ∧ cap ≤ 200 ∧ ∀ i9, i9 < n → f i9 = some (el i9) := hcase.imp id (fun ⟨cap, f, k1, k2⟩ => ⟨cap, f, (o_3 _ (by omega)).trans k1, k2⟩)
  have helm : ∀ i9, i9 < n → ∃ (te : Nat) (vs : List Value), te ≠ 63 ∧ G_1 te = some (el i9, .inr (2, vs)) := fun i9 h9 => by obtain ⟨te9, vs, k1, k2, k3⟩ := helm i9 h9; exact ⟨te9, vs, k1, (o_3 te9 k2).trans k3⟩
  refine lv_aload_n hx hb dJx4a65c_add_9ea2d_10 rfl (lv_at hl 0 rfl) ?_
  refine lv_aload_n hx hb dJx4a65c_add_9ea2d_11 rfl (lv_at hl 1 rfl) ?_
  refine lv_aload_n hx hb dJx4a65c_add_9ea2d_12 rfl (lv_at hl 0 rfl) ?_
  refine tg_get (v := .ref aa) hx hb hown hAm hw lyJx4a65c h1 rfl 1 (by decide) qw_47 (fun _ h9 => h9) rfl dJx4a65c_add_9ea2d_13 ?_
  refine lv_aload_n hx hb dJx4a65c_add_9ea2d_16 rfl (lv_at hl 0 rfl) ?_
  refine tg_get (v := .int (nI n)) hx hb hown hAm hw lyJx4a65c h1 rfl 2 (by decide) qw_48 (fun _ h9 => h9) rfl dJx4a65c_add_9ea2d_17 ?_
  refine tg_callv (va_runV (As := [.ref ea, .ref aa, .int (nI n)]) (rest := []) (Ts := []) ⟨hx, hb, hml, hown, fun _ h9 => absurd h9 List.not_mem_nil⟩ (li_add3C l E _ G_1 hcase helm hn ht h1 he ⟨hte1, hte2, hte3⟩) (rc_cwV hAm qw_171 qw_4 qw_174 qw_173 qs_0 rfl rfl hd_Jx4a65c_add_72be8 ⟨Nat.le_of_ble_eq_true rfl, Nat.le_of_ble_eq_true rfl⟩) (tg_preV hAm hA hw h1 (q := vwCl[0]) rfl) rfl rfl hl.1 rfl (lv_room (Nat.le_of_ble_eq_true rfl)) dJx4a65c_add_9ea2d_20 ⟨Nat.le_of_ble_eq_true rfl, Nat.le_of_ble_eq_true rfl⟩) hA hw (fun G_4 H locs hp hw => ?_)
  obtain ⟨hL2, hu⟩ := hp
  refine lv_iconst (v := 1) hx hb dJx4a65c_add_9ea2d_23 (by decide) ?_
  exact tg_zret hx hb hr hlocks hw rfl (⟨hL2, fun t9 h7 h8 h9 => (hu t9 h7 h8 h9).trans (o_3 t9 h7)⟩) (Nat.le_of_ble_eq_true rfl) (Nat.le_of_ble_eq_true rfl) dJx4a65c_add_9ea2d_24
