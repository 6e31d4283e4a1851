set_option maxHeartbeats 4000000 in
set_option maxRecDepth 100000 in
theorem bi_probe (l : Launch) (E : rc_E) (sz : Nat) (G : tg_G) {t a g b : Nat} {b0 b3 : Int32} (hg : g < 2 ^ 29) (hb9 : b < 2 ^ 29) (h1 : G t = some (a, .inr (1, [.int b0, .int (nI g), .int (nI b), .int b3]))) : tg_M l yX0_probe [Cond.code yX0_probe cX0_probe 1 (some FieldType.int)] { frames := 0, cells := 0, slots := 0, locals := 0 } E [.ref a] G sz (tg_Qi E (fun r u => r = nI (prN g b) ∧ u = G)) 0 0 := by
  refine tg_in (cc := cX0_probe) (maxL := 1) (ret := (some FieldType.int)) (tg_Qi E (fun r u => r = nI (prN g b) ∧ u = G)) (by decide) rfl (Nat.le_of_ble_eq_true rfl) ?_
  intro p e s m args below meth cd ls A hx hb hr hml hown hlocks hin hA hAm hw hl
  have hown : s.vm.findClass RX0 = some m.cls := hown
  have hl : lv_has ls 1 [(0, .ref a)] := hl
  refine lv_aload_n hx hb dX0_probe_0 rfl (lv_at hl 0 rfl) ?_
  refine tg_get (v := .int (nI b)) hx hb hown hAm hw lyX0 h1 rfl 2 (by decide) qw_154 (fun _ h9 => h9) rfl dX0_probe_1 ?_
  refine lv_aload_n hx hb dX0_probe_4 rfl (lv_at hl 0 rfl) ?_
  refine tg_get (v := .int (nI g)) hx hb hown hAm hw lyX0 h1 rfl 1 (by decide) qw_152 (fun _ h9 => h9) rfl dX0_probe_5 ?_
  refine lv_iconst (v := 1) hx hb dX0_probe_8 (by decide) ?_
  refine lv_iadd hx hb dX0_probe_9 ?_
  refine rc_topi (nI (g + 1)) (nI_add g 1) ?_
  refine lv_icmp_ne (tgt := 20) hx hb dX0_probe_10 (by decide) (fun c_1 => ?_) (fun c_1 => ?_)
  · have c_1 := mt (nI_eq (a := b) (b := g + 1) (by omega) (by omega)).mpr c_1
    refine lv_aload_n hx hb dX0_probe_20 rfl (lv_at hl 0 rfl) ?_
    refine tg_get (v := .int (nI g)) hx hb hown hAm hw lyX0 h1 rfl 1 (by decide) qw_152 (fun _ h9 => h9) rfl dX0_probe_21 ?_
    refine lv_aload_n hx hb dX0_probe_24 rfl (lv_at hl 0 rfl) ?_
    refine tg_get (v := .int (nI b)) hx hb hown hAm hw lyX0 h1 rfl 2 (by decide) qw_154 (fun _ h9 => h9) rfl dX0_probe_25 ?_
    refine lv_iadd hx hb dX0_probe_28 ?_
    refine rc_topi (nI (g + b)) (nI_add g b) ?_
    refine lv_iconst (v := 2) hx hb dX0_probe_29 (by decide) ?_
    refine lv_idiv hx hb dX0_probe_30 (by decide) ?_
    refine rc_topi (nI ((g + b) / 2)) (pk_div (a := g + b) (d := 2) (by omega) (by omega) (by omega)) ?_
    exact tg_iret hx hb hr hlocks hw (⟨congrArg nI (if_neg (by omega)).symm, rfl⟩) (Nat.le_of_ble_eq_true rfl) (Nat.le_of_ble_eq_true rfl) dX0_probe_31
  · have c_1 := (nI_eq (a := b) (b := g + 1) (by omega) (by omega)).mp c_1
    refine lv_aload_n hx hb dX0_probe_13 rfl (lv_at hl 0 rfl) ?_
    refine tg_get (v := .int (nI b)) hx hb hown hAm hw lyX0 h1 rfl 2 (by decide) qw_154 (fun _ h9 => h9) rfl dX0_probe_14 ?_
    refine lv_goto (tgt := 31) hx hb dX0_probe_17 (by decide) ?_
    exact tg_iret hx hb hr hlocks hw (⟨congrArg nI (if_pos (by omega)).symm, rfl⟩) (Nat.le_of_ble_eq_true rfl) (Nat.le_of_ble_eq_true rfl) dX0_probe_31
set_option maxHeartbeats 4000000 in
set_option maxRecDepth 100000 in
theorem bi_narrow1 (l : Launch) (E : rc_E) (sz : Nat) (G : tg_G) {t a : Nat} {b0 b1 b2 b3 : Int32} (x : Int32) (h1 : G t = some (a, .inr (1, [.int b0, .int b1, .int b2, .int b3]))) : tg_M l yX0_narrow [Cond.code yX0_narrow cX0_narrow 3 (none : Option FieldType)] { frames := 0, cells := 0, slots := 0, locals := 0 } E [.ref a, .int x, .int 1] G sz (tg_Qv E (fun u => u t = some (a, .inr (1, [.int b0, .int b1, .int x, .int b3])) ∧ ∀ t9, t9 ≠ t → u t9 = G t9)) 0 0 := by
  refine tg_in (cc := cX0_narrow) (maxL := 3) (ret := (none : Option FieldType)) (tg_Qv E (fun u => u t = some (a, .inr (1, [.int b0, .int b1, .int x, .int b3])) ∧ ∀ t9, t9 ≠ t → u t9 = G t9)) (by decide) rfl (Nat.le_of_ble_eq_true rfl) ?_
  intro p e s m args below meth cd ls A hx hb hr hml hown hlocks hin hA hAm hw hl
  have hown : s.vm.findClass RX0 = some m.cls := hown
  have hl : lv_has ls 3 [(0, .ref a), (1, .int x), (2, .int 1)] := hl
  refine lv_iload_n hx hb dX0_narrow_0 rfl (lv_at hl 2 rfl) ?_
  refine lv_if_eq (tgt := 12) hx hb dX0_narrow_1 (by decide) (fun c9 => absurd c9 (by decide)) (fun _ => ?_)
  refine lv_aload_n hx hb dX0_narrow_4 rfl (lv_at hl 0 rfl) ?_
  refine lv_iload_n hx hb dX0_narrow_5 rfl (lv_at hl 1 rfl) ?_
  refine tg_put hx hb hown hAm hw lyX0 tyX0 tyX0_ok nmX0 h1 rfl 2 (by decide) qw_154 (fun _ h9 => h9) rfl rfl rfl (Nat.le_of_ble_eq_true rfl) dX0_narrow_6 (fun G_1 H locs g_2 o_3 hw => ?_)
  have h1 : G_1 t = some (a, .inr (1, [.int b0, .int b1, .int x, .int b3])) := g_2
  refine lv_goto (tgt := 17) hx hb dX0_narrow_9 (by decide) ?_
  exact tg_vret hx hb hr hlocks hw (⟨h1, (fun t9 h9 => (o_3 t9 (by omega)))⟩) (Nat.le_of_ble_eq_true rfl) (Nat.le_of_ble_eq_true rfl) dX0_narrow_17
set_option maxHeartbeats 4000000 in
set_option maxRecDepth 100000 in
theorem bi_narrow0 (l : Launch) (E : rc_E) (sz : Nat) (G : tg_G) {t a : Nat} {b0 b1 b2 b3 : Int32} (x : Int32) (h1 : G t = some (a, .inr (1, [.int b0, .int b1, .int b2, .int b3]))) : tg_M l yX0_narrow [Cond.code yX0_narrow cX0_narrow 3 (none : Option FieldType)] { frames := 0, cells := 0, slots := 0, locals := 0 } E [.ref a, .int x, .int 0] G sz (tg_Qv E (fun u => u t = some (a, .inr (1, [.int b0, .int x, .int b2, .int b3])) ∧ ∀ t9, t9 ≠ t → u t9 = G t9)) 0 0 := by
  refine tg_in (cc := cX0_narrow) (maxL := 3) (ret := (none : Option FieldType)) (tg_Qv E (fun u => u t = some (a, .inr (1, [.int b0, .int x, .int b2, .int b3])) ∧ ∀ t9, t9 ≠ t → u t9 = G t9)) (by decide) rfl (Nat.le_of_ble_eq_true rfl) ?_
  intro p e s m args below meth cd ls A hx hb hr hml hown hlocks hin hA hAm hw hl
  have hown : s.vm.findClass RX0 = some m.cls := hown
  have hl : lv_has ls 3 [(0, .ref a), (1, .int x), (2, .int 0)] := hl
  refine lv_iload_n hx hb dX0_narrow_0 rfl (lv_at hl 2 rfl) ?_
  refine lv_if_eq (tgt := 12) hx hb dX0_narrow_1 (by decide) (fun _ => ?_) (fun c9 => absurd (by decide) c9)
  refine lv_aload_n hx hb dX0_narrow_12 rfl (lv_at hl 0 rfl) ?_
  refine lv_iload_n hx hb dX0_narrow_13 rfl (lv_at hl 1 rfl) ?_
  refine tg_put hx hb hown hAm hw lyX0 tyX0 tyX0_ok nmX0 h1 rfl 1 (by decide) qw_152 (fun _ h9 => h9) rfl rfl rfl (Nat.le_of_ble_eq_true rfl) dX0_narrow_14 (fun G_1 H locs g_2 o_3 hw => ?_)
  have h1 : G_1 t = some (a, .inr (1, [.int b0, .int x, .int b2, .int b3])) := g_2
  exact tg_vret hx hb hr hlocks hw (⟨h1, (fun t9 h9 => (o_3 t9 (by omega)))⟩) (Nat.le_of_ble_eq_true rfl) (Nat.le_of_ble_eq_true rfl) dX0_narrow_17
