set_option maxHeartbeats 4000000 in
set_option maxRecDepth 100000 in
theorem cw_X7_add (l : Launch) (E : rc_E) (sz : Nat) (h0 : Nat) (h1 : Nat) (h2 : Nat) (h3 : Nat) (h4 : Nat) (h5 : Nat) : rc_Mv l yX7_add [Cond.code yX7_add cX7_add 2 (none : Option FieldType)] { frames := 0, cells := 0, slots := 0, locals := 0 } E [.ref h0, .int 0] [(h0, .inr (12, [.int 0, .ref h1, .ref h2, .ref h3, .ref h4, .ref h5, .int 1, .int 3, .int 50, .int (-1), .int (-1), .int (-1), .int (-1), .int 0, .int 100, .int 1000, .long 5750]))] sz (S := va_W) (fun (u : va_W) => (u = [(h0, .inr (12, [.int 0, .ref h1, .ref h2, .ref h3, .ref h4, .ref h5, .int 1, .int 3, .int 50, .int (-1), .int (-1), .int (-1), .int (-1), .int 0, .int 100, .int 1000, .long 178250]))])) (fun u => u) 0 0 := by
  refine rc_inv (cc := cX7_add) (maxL := 2) (ret := (none : Option FieldType)) (by decide) rfl (Nat.le_of_ble_eq_true rfl) ?_
  intro p e s m args below meth c ls A hx hb hr hml _ hown hlocks hin hA hAm hw hl
  have hown : s.vm.findClass RX7 = some m.cls := hown
  have hl : lv_has ls 2 [(0, .ref h0), (1, .int 0)] := hl
  refine lv_aload_n hx hb dX7_add_0 rfl (lv_at hl 0 rfl) ?_
  refine lv_aload_n hx hb dX7_add_1 rfl (lv_at hl 0 rfl) ?_
  refine rc_get (v := .long 5750) hx hb hown hAm hw lyX7 0 rfl rfl 16 (by decide) qw_876 (fun _ h9 => h9) rfl dX7_add_2 ?_
  refine lv_ldc2 (v := 31) hx hb hown (hAm.wd qw_1470 rfl rfl) dX7_add_5 ?_
  refine lv_lmul hx hb dX7_add_8 ?_
  refine rc_topl 178250 (by decide) ?_
  refine lv_iload_n hx hb dX7_add_9 rfl (lv_at hl 1 rfl) ?_
  refine lv_i2l (v := 0) hx hb dX7_add_10 (by decide) ?_
  refine lv_ladd hx hb dX7_add_11 ?_
  refine rc_topl 178250 (by decide) ?_
  refine rc_put hx hb hown hAm hw lyX7 tyX7 tyX7_ok nmX7 0 rfl rfl 16 (by decide) qw_876 (fun _ h9 => h9) rfl rfl (by decide +kernel) (Nat.le_of_ble_eq_true rfl) [(h0, .inr (12, [.int 0, .ref h1, .ref h2, .ref h3, .ref h4, .ref h5, .int 1, .int 3, .int 50, .int (-1), .int (-1), .int (-1), .int (-1), .int 0, .int 100, .int 1000, .long 178250]))] rfl dX7_add_12 (fun H locs hw => ?_)
  exact rc_vret hx hb hr hlocks hw [(h0, .inr (12, [.int 0, .ref h1, .ref h2, .ref h3, .ref h4, .ref h5, .int 1, .int 3, .int 50, .int (-1), .int (-1), .int (-1), .int (-1), .int 0, .int 100, .int 1000, .long 178250]))] (rfl) [0] rfl (by decide) (Nat.le_of_ble_eq_true rfl) (Nat.le_of_ble_eq_true rfl) dX7_add_15
theorem hd_X7_add : yX7_add.cls ≠ "java/lang/invoke/MethodHandle" ∧ yX7_add.cls ≠ "java/lang/invoke/VarHandle" ∧ (parseMethodDescriptor yX7_add.desc).map (fun d => d.parameters.length) = some 1 := by decide +kernel
set_option maxHeartbeats 4000000 in
set_option maxRecDepth 100000 in
theorem cw_X7_manyNow_3 (l : Launch) (E : rc_E) (sz : Nat) (h0 : Nat) (h1 : Nat) (h2 : Nat) (h3 : Nat) (h4 : Nat) (h5 : Nat) : rc_Mi l yX7_manyNow [Cond.code yX7_manyNow cX7_manyNow 7 (some FieldType.int)] { frames := 0, cells := 0, slots := 0, locals := 0 } E [.ref h0, .int 1] [(h0, .inr (12, [.int 0, .ref h1, .ref h2, .ref h3, .ref h4, .ref h5, .int 1, .int 3, .int 50, .int (-1), .int (-1), .int (-1), .int (-1), .int 0, .int 100, .int 1000, .long 178250]))] sz (S := va_W) (fun (r : Int32) (u : va_W) => (1 = r ∧ u = [(h0, .inr (12, [.int 0, .ref h1, .ref h2, .ref h3, .ref h4, .ref h5, .int 1, .int 3, .int 50, .int (-1), .int (-1), .int (-1), .int (-1), .int 0, .int 100, .int 1000, .long 178250]))])) (fun u => u) 0 0 := by
  refine rc_ini (cc := cX7_manyNow) (maxL := 7) (ret := (some FieldType.int)) (by decide) rfl (Nat.le_of_ble_eq_true rfl) ?_
  intro p e s m args below meth c ls A hx hb hr hml _ hown hlocks hin hA hAm hw hl
  have hown : s.vm.findClass RX7 = some m.cls := hown
  have hl : lv_has ls 7 [(0, .ref h0), (1, .int 1)] := hl
  refine lv_iconst (v := 0) hx hb dX7_manyNow_0 (by decide) ?_
  refine lv_istore_n (lv' := [(2, .int 0), (0, .ref h0), (1, .int 1)]) hx hb dX7_manyNow_1 rfl hl (by decide) rfl (fun ls hl => ?_)
  refine lv_iload_n hx hb dX7_manyNow_2 rfl (lv_at hl 2 rfl) ?_
  refine lv_tableIn (tgt := 56) hx hb dX7_manyNow_3 (by decide) (by decide) rfl (by decide) ?_
  refine lv_aload_n hx hb dX7_manyNow_56 rfl (lv_at hl 1 rfl) ?_
  refine rc_get (v := .int 1) hx hb hown hAm hw lyX7 0 rfl rfl 6 (by decide) qw_866 (fun _ h9 => h9) rfl dX7_manyNow_57 ?_
  exact rc_iret (v := 1) hx hb hr hlocks hw [(h0, .inr (12, [.int 0, .ref h1, .ref h2, .ref h3, .ref h4, .ref h5, .int 1, .int 3, .int 50, .int (-1), .int (-1), .int (-1), .int (-1), .int 0, .int 100, .int 1000, .long 178250]))] (⟨rfl, rfl⟩) [0] rfl (by decide) (Nat.le_of_ble_eq_true rfl) (Nat.le_of_ble_eq_true rfl) dX7_manyNow_60
set_option maxHeartbeats 4000000 in
set_option maxRecDepth 100000 in
theorem cw_X7_add_2 (l : Launch) (E : rc_E) (sz : Nat) (h0 : Nat) (h1 : Nat) (h2 : Nat) (h3 : Nat) (h4 : Nat) (h5 : Nat) : rc_Mv l yX7_add [Cond.code yX7_add cX7_add 2 (none : Option FieldType)] { frames := 0, cells := 0, slots := 0, locals := 0 } E [.ref h0, .int 1] [(h0, .inr (12, [.int 0, .ref h1, .ref h2, .ref h3, .ref h4, .ref h5, .int 1, .int 3, .int 50, .int (-1), .int (-1), .int (-1), .int (-1), .int 0, .int 100, .int 1000, .long 178250]))] sz (S := va_W) (fun (u : va_W) => (u = [(h0, .inr (12, [.int 0, .ref h1, .ref h2, .ref h3, .ref h4, .ref h5, .int 1, .int 3, .int 50, .int (-1), .int (-1), .int (-1), .int (-1), .int 0, .int 100, .int 1000, .long 5525751]))])) (fun u => u) 0 0 := by
  refine rc_inv (cc := cX7_add) (maxL := 2) (ret := (none : Option FieldType)) (by decide) rfl (Nat.le_of_ble_eq_true rfl) ?_
  intro p e s m args below meth c ls A hx hb hr hml _ hown hlocks hin hA hAm hw hl
  have hown : s.vm.findClass RX7 = some m.cls := hown
  have hl : lv_has ls 2 [(0, .ref h0), (1, .int 1)] := hl
  refine lv_aload_n hx hb dX7_add_0 rfl (lv_at hl 0 rfl) ?_
  refine lv_aload_n hx hb dX7_add_1 rfl (lv_at hl 0 rfl) ?_
  refine rc_get (v := .long 178250) hx hb hown hAm hw lyX7 0 rfl rfl 16 (by decide) qw_876 (fun _ h9 => h9) rfl dX7_add_2 ?_
  refine lv_ldc2 (v := 31) hx hb hown (hAm.wd qw_1470 rfl rfl) dX7_add_5 ?_
  refine lv_lmul hx hb dX7_add_8 ?_
  refine rc_topl 5525750 (by decide) ?_
  refine lv_iload_n hx hb dX7_add_9 rfl (lv_at hl 1 rfl) ?_
  refine lv_i2l (v := 1) hx hb dX7_add_10 (by decide) ?_
  refine lv_ladd hx hb dX7_add_11 ?_
  refine rc_topl 5525751 (by decide) ?_
  refine rc_put hx hb hown hAm hw lyX7 tyX7 tyX7_ok nmX7 0 rfl rfl 16 (by decide) qw_876 (fun _ h9 => h9) rfl rfl (by decide +kernel) (Nat.le_of_ble_eq_true rfl) [(h0, .inr (12, [.int 0, .ref h1, .ref h2, .ref h3, .ref h4, .ref h5, .int 1, .int 3, .int 50, .int (-1), .int (-1), .int (-1), .int (-1), .int 0, .int 100, .int 1000, .long 5525751]))] rfl dX7_add_12 (fun H locs hw => ?_)
  exact rc_vret hx hb hr hlocks hw [(h0, .inr (12, [.int 0, .ref h1, .ref h2, .ref h3, .ref h4, .ref h5, .int 1, .int 3, .int 50, .int (-1), .int (-1), .int (-1), .int (-1), .int 0, .int 100, .int 1000, .long 5525751]))] (rfl) [0] rfl (by decide) (Nat.le_of_ble_eq_true rfl) (Nat.le_of_ble_eq_true rfl) dX7_add_15
set_option maxHeartbeats 4000000 in
set_option maxRecDepth 100000 in
theorem cw_X7_manyNow_4 (l : Launch) (E : rc_E) (sz : Nat) (h0 : Nat) (h1 : Nat) (h2 : Nat) (h3 : Nat) (h4 : Nat) (h5 : Nat) : rc_Mi l yX7_manyNow [Cond.code yX7_manyNow cX7_manyNow 7 (some FieldType.int)] { frames := 1, cells := 0, slots := 0, locals := 20 } E [.ref h0, .int 2] [(h0, .inr (12, [.int 0, .ref h1, .ref h2, .ref h3, .ref h4, .ref h5, .int 1, .int 3, .int 50, .int (-1), .int (-1), .int (-1), .int (-1), .int 0, .int 100, .int 1000, .long 5525751])), (h3, .inr (4, [.int 0, .ref (E.2.2 0), .int 0]))] sz (S := va_W) (fun (r : Int32) (u : va_W) => (0 = r ∧ u = [(h0, .inr (12, [.int 0, .ref h1, .ref h2, .ref h3, .ref h4, .ref h5, .int 1, .int 3, .int 50, .int (-1), .int (-1), .int (-1), .int (-1), .int 0, .int 100, .int 1000, .long 5525751])), (h3, .inr (4, [.int 0, .ref (E.2.2 0), .int 0]))])) (fun u => u) 0 0 := by
  refine rc_ini (cc := cX7_manyNow) (maxL := 7) (ret := (some FieldType.int)) (by decide) rfl (Nat.le_of_ble_eq_true rfl) ?_
  intro p e s m args below meth c ls A hx hb hr hml _ hown hlocks hin hA hAm hw hl
  have hown : s.vm.findClass RX7 = some m.cls := hown
  have hl : lv_has ls 7 [(0, .ref h0), (1, .int 2)] := hl
  refine lv_iconst (v := 0) hx hb dX7_manyNow_0 (by decide) ?_
  refine lv_istore_n (lv' := [(2, .int 0), (0, .ref h0), (1, .int 2)]) hx hb dX7_manyNow_1 rfl hl (by decide) rfl (fun ls hl => ?_)
  refine lv_iload_n hx hb dX7_manyNow_2 rfl (lv_at hl 2 rfl) ?_
  refine lv_tableIn (tgt := 61) hx hb dX7_manyNow_3 (by decide) (by decide) rfl (by decide) ?_
  refine lv_aload_n hx hb dX7_manyNow_61 rfl (lv_at hl 1 rfl) ?_
  refine rc_get (v := .ref h3) hx hb hown hAm hw lyX7 0 rfl rfl 3 (by decide) qw_863 (fun _ h9 => h9) rfl dX7_manyNow_62 ?_
  refine rc_calli (wr := [(h0, .inr (12, [.int 0, .ref h1, .ref h2, .ref h3, .ref h4, .ref h5, .int 1, .int 3, .int 50, .int (-1), .int (-1), .int (-1), .int (-1), .int 0, .int 100, .int 1000, .long 5525751]))]) (va_runV (As := []) (rest := []) (Ts := []) ⟨hx, hb, hml, hown, fun _ h9 => absurd h9 List.not_mem_nil⟩ (cw_Jx4a65c_size_8abf5 l E _ h3) (rc_cwV hAm qw_928 qw_4 qw_289 qw_287 qw_288 rfl rfl hd_Jx4a65c_size_8abf5 ⟨Nat.le_of_ble_eq_true rfl, Nat.le_of_ble_eq_true rfl⟩) (rc_preV hAm hA hw [1] rfl rfl 1 rfl (q := vwCl[4]) rfl) rfl rfl hl.1 rfl (lv_room (Nat.le_of_ble_eq_true rfl)) dX7_manyNow_65 ⟨Nat.le_of_ble_eq_true rfl, Nat.le_of_ble_eq_true rfl⟩) hA hw [1] [0] rfl rfl rfl (by decide) (fun r_1 u_2 H locs hp hw => ?_)
  obtain ⟨rfl, rfl⟩ := hp
  have hw : rc_W E A s [(h0, .inr (12, [.int 0, .ref h1, .ref h2, .ref h3, .ref h4, .ref h5, .int 1, .int 3, .int 50, .int (-1), .int (-1), .int (-1), .int (-1), .int 0, .int 100, .int 1000, .long 5525751])), (h3, .inr (4, [.int 0, .ref (E.2.2 0), .int 0]))] H locs := hw
  exact rc_iret (v := 0) hx hb hr hlocks hw [(h0, .inr (12, [.int 0, .ref h1, .ref h2, .ref h3, .ref h4, .ref h5, .int 1, .int 3, .int 50, .int (-1), .int (-1), .int (-1), .int (-1), .int 0, .int 100, .int 1000, .long 5525751])), (h3, .inr (4, [.int 0, .ref (E.2.2 0), .int 0]))] (⟨rfl, rfl⟩) [0, 1] rfl (by decide) (Nat.le_of_ble_eq_true rfl) (Nat.le_of_ble_eq_true rfl) dX7_manyNow_68
set_option maxHeartbeats 4000000 in
set_option maxRecDepth 100000 in
theorem cw_X7_add_3 (l : Launch) (E : rc_E) (sz : Nat) (h0 : Nat) (h1 : Nat) (h2 : Nat) (h3 : Nat) (h4 : Nat) (h5 : Nat) : rc_Mv l yX7_add [Cond.code yX7_add cX7_add 2 (none : Option FieldType)] { frames := 0, cells := 0, slots := 0, locals := 0 } E [.ref h0, .int 0] [(h0, .inr (12, [.int 0, .ref h1, .ref h2, .ref h3, .ref h4, .ref h5, .int 1, .int 3, .int 50, .int (-1), .int (-1), .int (-1), .int (-1), .int 0, .int 100, .int 1000, .long 5525751]))] sz (S := va_W) (fun (u : va_W) => (u = [(h0, .inr (12, [.int 0, .ref h1, .ref h2, .ref h3, .ref h4, .ref h5, .int 1, .int 3, .int 50, .int (-1), .int (-1), .int (-1), .int (-1), .int 0, .int 100, .int 1000, .long 171298281]))])) (fun u => u) 0 0 := by
  refine rc_inv (cc := cX7_add) (maxL := 2) (ret := (none : Option FieldType)) (by decide) rfl (Nat.le_of_ble_eq_true rfl) ?_
  intro p e s m args below meth c ls A hx hb hr hml _ hown hlocks hin hA hAm hw hl
  have hown : s.vm.findClass RX7 = some m.cls := hown
  have hl : lv_has ls 2 [(0, .ref h0), (1, .int 0)] := hl
  refine lv_aload_n hx hb dX7_add_0 rfl (lv_at hl 0 rfl) ?_
  refine lv_aload_n hx hb dX7_add_1 rfl (lv_at hl 0 rfl) ?_
  refine rc_get (v := .long 5525751) hx hb hown hAm hw lyX7 0 rfl rfl 16 (by decide) qw_876 (fun _ h9 => h9) rfl dX7_add_2 ?_
  refine lv_ldc2 (v := 31) hx hb hown (hAm.wd qw_1470 rfl rfl) dX7_add_5 ?_
  refine lv_lmul hx hb dX7_add_8 ?_
  refine rc_topl 171298281 (by decide) ?_
  refine lv_iload_n hx hb dX7_add_9 rfl (lv_at hl 1 rfl) ?_
  refine lv_i2l (v := 0) hx hb dX7_add_10 (by decide) ?_
  refine lv_ladd hx hb dX7_add_11 ?_
  refine rc_topl 171298281 (by decide) ?_
  refine rc_put hx hb hown hAm hw lyX7 tyX7 tyX7_ok nmX7 0 rfl rfl 16 (by decide) qw_876 (fun _ h9 => h9) rfl rfl (by decide +kernel) (Nat.le_of_ble_eq_true rfl) [(h0, .inr (12, [.int 0, .ref h1, .ref h2, .ref h3, .ref h4, .ref h5, .int 1, .int 3, .int 50, .int (-1), .int (-1), .int (-1), .int (-1), .int 0, .int 100, .int 1000, .long 171298281]))] rfl dX7_add_12 (fun H locs hw => ?_)
  exact rc_vret hx hb hr hlocks hw [(h0, .inr (12, [.int 0, .ref h1, .ref h2, .ref h3, .ref h4, .ref h5, .int 1, .int 3, .int 50, .int (-1), .int (-1), .int (-1), .int (-1), .int 0, .int 100, .int 1000, .long 171298281]))] (rfl) [0] rfl (by decide) (Nat.le_of_ble_eq_true rfl) (Nat.le_of_ble_eq_true rfl) dX7_add_15
set_option maxHeartbeats 4000000 in
set_option maxRecDepth 100000 in
theorem cw_X7_manyNow_5 (l : Launch) (E : rc_E) (sz : Nat) (h0 : Nat) (h1 : Nat) (h2 : Nat) (h3 : Nat) (h4 : Nat) (h5 : Nat) : rc_Mi l yX7_manyNow [Cond.code yX7_manyNow cX7_manyNow 7 (some FieldType.int)] { frames := 3, cells := 1, slots := 4, locals := 53 } E [.ref h0, .int 3] [(h0, .inr (12, [.int 0, .ref h1, .ref h2, .ref h3, .ref h4, .ref h5, .int 1, .int 3, .int 50, .int (-1), .int (-1), .int (-1), .int (-1), .int 0, .int 100, .int 1000, .long 171298281])), (h3, .inr (4, [.int 0, .ref (E.2.2 0), .int 0]))] sz (S := va_W) (fun (r : Int32) (u : va_W) => (0 = r ∧ u = [(h0, .inr (12, [.int 0, .ref h1, .ref h2, .ref h3, .ref h4, .ref h5, .int 1, .int 3, .int 50, .int (-1), .int (-1), .int (-1), .int (-1), .int 0, .int 100, .int 1000, .long 171298281])), (h3, .inr (4, [.int 0, .ref (E.2.2 0), .int 0]))])) (fun u => u) 1 4 := by
  refine rc_ini (cc := cX7_manyNow) (maxL := 7) (ret := (some FieldType.int)) (by decide) rfl (Nat.le_of_ble_eq_true rfl) ?_
  intro p e s m args below meth c ls A hx hb hr hml _ hown hlocks hin hA hAm hw hl
  have hown : s.vm.findClass RX7 = some m.cls := hown
  have hl : lv_has ls 7 [(0, .ref h0), (1, .int 3)] := hl
  refine lv_iconst (v := 0) hx hb dX7_manyNow_0 (by decide) ?_
  refine lv_istore_n (lv' := [(2, .int 0), (0, .ref h0), (1, .int 3)]) hx hb dX7_manyNow_1 rfl hl (by decide) rfl (fun ls hl => ?_)
  refine lv_iload_n hx hb dX7_manyNow_2 rfl (lv_at hl 2 rfl) ?_
  refine lv_tableIn (tgt := 69) hx hb dX7_manyNow_3 (by decide) (by decide) rfl (by decide) ?_
  refine lv_aload_n hx hb dX7_manyNow_69 rfl (lv_at hl 1 rfl) ?_
  refine rc_get (v := .ref h3) hx hb hown hAm hw lyX7 0 rfl rfl 3 (by decide) qw_863 (fun _ h9 => h9) rfl dX7_manyNow_70 ?_
  refine rc_callr (wr := [(h0, .inr (12, [.int 0, .ref h1, .ref h2, .ref h3, .ref h4, .ref h5, .int 1, .int 3, .int 50, .int (-1), .int (-1), .int (-1), .int (-1), .int 0, .int 100, .int 1000, .long 171298281]))]) (va_runV (As := []) (rest := []) (Ts := []) ⟨hx, hb, hml, hown, fun _ h9 => absurd h9 List.not_mem_nil⟩ (cw_Jx4a65c_iterator_32c93 l E _ h3) (rc_cwV hAm qw_1295 qw_4 qw_1298 qw_1296 qw_1297 rfl rfl hd_Jx4a65c_iterator_32c93 ⟨Nat.le_of_ble_eq_true rfl, Nat.le_of_ble_eq_true rfl⟩) (rc_preV hAm hA hw [1] rfl rfl 1 rfl (q := vwCl[4]) rfl) rfl rfl hl.1 rfl (lv_room (Nat.le_of_ble_eq_true rfl)) dX7_manyNow_73 ⟨Nat.le_of_ble_eq_true rfl, Nat.le_of_ble_eq_true rfl⟩) hA hw [1] [0] rfl rfl rfl (by decide) (fun u_2 r_1 H locs hp hw => ?_)
  obtain ⟨q1, rfl, rfl⟩ := hp
  have hw : rc_W E A s [(h0, .inr (12, [.int 0, .ref h1, .ref h2, .ref h3, .ref h4, .ref h5, .int 1, .int 3, .int 50, .int (-1), .int (-1), .int (-1), .int (-1), .int 0, .int 100, .int 1000, .long 171298281])), (h3, .inr (4, [.int 0, .ref (E.2.2 0), .int 0])), (q1, .inr (3, [.int 0, .int (-1), .int 0, .ref h3]))] H locs := hw
  refine lv_astore_n (lv' := [(3, .ref q1), (2, .int 0), (0, .ref h0), (1, .int 3)]) hx hb dX7_manyNow_76 rfl hl (by decide) rfl (fun ls hl => ?_)
  refine lv_aload_n hx hb dX7_manyNow_77 rfl (lv_at hl 0 rfl) ?_
  refine rc_callFi (wr := [(h0, .inr (12, [.int 0, .ref h1, .ref h2, .ref h3, .ref h4, .ref h5, .int 1, .int 3, .int 50, .int (-1), .int (-1), .int (-1), .int (-1), .int 0, .int 100, .int 1000, .long 171298281]))]) (va_runF (As := []) (rest := []) (Ts := []) ((hAm.K.1 3 _ rfl).2) ⟨hx, hb, hml, hown, fun _ h9 => absurd h9 List.not_mem_nil⟩ (cw_Jx35411_hasNext_aae02 l E _ q1 h3) (rc_cwF (C := "java/util/ArrayList$Itr") (n := 0) hAm qw_1319 qw_32 qw_1327 qw_1325 qw_1323 qw_1321 qw_1320 (by decide +kernel) qw_1326 qw_1324 qw_1322 rfl rfl (by decide +kernel) ⟨Nat.le_of_ble_eq_true rfl, Nat.le_of_ble_eq_true rfl⟩) (rc_preV hAm hA hw [2, 1] rfl rfl 2 rfl (q := vwCl[3]) rfl) rfl rfl hl.1 rfl (lv_room (Nat.le_of_ble_eq_true rfl)) dX7_manyNow_78 ⟨Nat.le_of_ble_eq_true rfl, Nat.le_of_ble_eq_true rfl⟩) hA hw [2, 1] [0] rfl rfl rfl (by decide) (fun r_3 u_4 H locs hp hw => ?_)
  obtain ⟨rfl, rfl⟩ := hp
  have hw : rc_W E A s [(h0, .inr (12, [.int 0, .ref h1, .ref h2, .ref h3, .ref h4, .ref h5, .int 1, .int 3, .int 50, .int (-1), .int (-1), .int (-1), .int (-1), .int 0, .int 100, .int 1000, .long 171298281])), (q1, .inr (3, [.int 0, .int (-1), .int 0, .ref h3])), (h3, .inr (4, [.int 0, .ref (E.2.2 0), .int 0]))] H locs := hw
  refine lv_if_eq (tgt := 118) hx hb dX7_manyNow_83 (by decide) (fun _ => ?_) (fun c9 => absurd (by decide) c9)
  refine lv_iload_n hx hb dX7_manyNow_118 rfl (lv_at hl 1 rfl) ?_
  exact rc_iret (v := 0) hx hb hr hlocks hw [(h0, .inr (12, [.int 0, .ref h1, .ref h2, .ref h3, .ref h4, .ref h5, .int 1, .int 3, .int 50, .int (-1), .int (-1), .int (-1), .int (-1), .int 0, .int 100, .int 1000, .long 171298281])), (h3, .inr (4, [.int 0, .ref (E.2.2 0), .int 0]))] (⟨rfl, rfl⟩) [0, 2] rfl (by decide) (Nat.le_of_ble_eq_true rfl) (Nat.le_of_ble_eq_true rfl) dX7_manyNow_119
set_option maxHeartbeats 4000000 in
set_option maxRecDepth 100000 in
theorem cw_X7_add_4 (l : Launch) (E : rc_E) (sz : Nat) (h0 : Nat) (h1 : Nat) (h2 : Nat) (h3 : Nat) (h4 : Nat) (h5 : Nat) : rc_Mv l yX7_add [Cond.code yX7_add cX7_add 2 (none : Option FieldType)] { frames := 0, cells := 0, slots := 0, locals := 0 } E [.ref h0, .int 0] [(h0, .inr (12, [.int 0, .ref h1, .ref h2, .ref h3, .ref h4, .ref h5, .int 1, .int 3, .int 50, .int (-1), .int (-1), .int (-1), .int (-1), .int 0, .int 100, .int 1000, .long 171298281]))] sz (S := va_W) (fun (u : va_W) => (u = [(h0, .inr (12, [.int 0, .ref h1, .ref h2, .ref h3, .ref h4, .ref h5, .int 1, .int 3, .int 50, .int (-1), .int (-1), .int (-1), .int (-1), .int 0, .int 100, .int 1000, .long 5310246711]))])) (fun u => u) 0 0 := by
  refine rc_inv (cc := cX7_add) (maxL := 2) (ret := (none : Option FieldType)) (by decide) rfl (Nat.le_of_ble_eq_true rfl) ?_
  intro p e s m args below meth c ls A hx hb hr hml _ hown hlocks hin hA hAm hw hl
  have hown : s.vm.findClass RX7 = some m.cls := hown
  have hl : lv_has ls 2 [(0, .ref h0), (1, .int 0)] := hl
  refine lv_aload_n hx hb dX7_add_0 rfl (lv_at hl 0 rfl) ?_
  refine lv_aload_n hx hb dX7_add_1 rfl (lv_at hl 0 rfl) ?_
  refine rc_get (v := .long 171298281) hx hb hown hAm hw lyX7 0 rfl rfl 16 (by decide) qw_876 (fun _ h9 => h9) rfl dX7_add_2 ?_
  refine lv_ldc2 (v := 31) hx hb hown (hAm.wd qw_1470 rfl rfl) dX7_add_5 ?_
  refine lv_lmul hx hb dX7_add_8 ?_
  refine rc_topl 5310246711 (by decide) ?_
  refine lv_iload_n hx hb dX7_add_9 rfl (lv_at hl 1 rfl) ?_
  refine lv_i2l (v := 0) hx hb dX7_add_10 (by decide) ?_
  refine lv_ladd hx hb dX7_add_11 ?_
  refine rc_topl 5310246711 (by decide) ?_
  refine rc_put hx hb hown hAm hw lyX7 tyX7 tyX7_ok nmX7 0 rfl rfl 16 (by decide) qw_876 (fun _ h9 => h9) rfl rfl (by decide +kernel) (Nat.le_of_ble_eq_true rfl) [(h0, .inr (12, [.int 0, .ref h1, .ref h2, .ref h3, .ref h4, .ref h5, .int 1, .int 3, .int 50, .int (-1), .int (-1), .int (-1), .int (-1), .int 0, .int 100, .int 1000, .long 5310246711]))] rfl dX7_add_12 (fun H locs hw => ?_)
  exact rc_vret hx hb hr hlocks hw [(h0, .inr (12, [.int 0, .ref h1, .ref h2, .ref h3, .ref h4, .ref h5, .int 1, .int 3, .int 50, .int (-1), .int (-1), .int (-1), .int (-1), .int 0, .int 100, .int 1000, .long 5310246711]))] (rfl) [0] rfl (by decide) (Nat.le_of_ble_eq_true rfl) (Nat.le_of_ble_eq_true rfl) dX7_add_15
set_option maxHeartbeats 4000000 in
set_option maxRecDepth 100000 in
theorem cw_X7_manyNow_6 (l : Launch) (E : rc_E) (sz : Nat) (h0 : Nat) (h1 : Nat) (h2 : Nat) (h3 : Nat) (h4 : Nat) (h5 : Nat) : rc_Mi l yX7_manyNow [Cond.code yX7_manyNow cX7_manyNow 7 (some FieldType.int)] { frames := 0, cells := 0, slots := 0, locals := 0 } E [.ref h0, .int 4] [(h0, .inr (12, [.int 0, .ref h1, .ref h2, .ref h3, .ref h4, .ref h5, .int 1, .int 3, .int 50, .int (-1), .int (-1), .int (-1), .int (-1), .int 0, .int 100, .int 1000, .long 5310246711]))] sz (S := va_W) (fun (r : Int32) (u : va_W) => (1000 = r ∧ u = [(h0, .inr (12, [.int 0, .ref h1, .ref h2, .ref h3, .ref h4, .ref h5, .int 1, .int 3, .int 50, .int (-1), .int (-1), .int (-1), .int (-1), .int 0, .int 100, .int 1000, .long 5310246711]))])) (fun u => u) 0 0 := by
  refine rc_ini (cc := cX7_manyNow) (maxL := 7) (ret := (some FieldType.int)) (by decide) rfl (Nat.le_of_ble_eq_true rfl) ?_
  intro p e s m args below meth c ls A hx hb hr hml _ hown hlocks hin hA hAm hw hl
  have hown : s.vm.findClass RX7 = some m.cls := hown
  have hl : lv_has ls 7 [(0, .ref h0), (1, .int 4)] := hl
  refine lv_iconst (v := 0) hx hb dX7_manyNow_0 (by decide) ?_
  refine lv_istore_n (lv' := [(2, .int 0), (0, .ref h0), (1, .int 4)]) hx hb dX7_manyNow_1 rfl hl (by decide) rfl (fun ls hl => ?_)
  refine lv_iload_n hx hb dX7_manyNow_2 rfl (lv_at hl 2 rfl) ?_
  refine lv_tableIn (tgt := 120) hx hb dX7_manyNow_3 (by decide) (by decide) rfl (by decide) ?_
  refine lv_aload_n hx hb dX7_manyNow_120 rfl (lv_at hl 1 rfl) ?_
  refine rc_get (v := .int 1000) hx hb hown hAm hw lyX7 0 rfl rfl 15 (by decide) qw_875 (fun _ h9 => h9) rfl dX7_manyNow_121 ?_
  exact rc_iret (v := 1000) hx hb hr hlocks hw [(h0, .inr (12, [.int 0, .ref h1, .ref h2, .ref h3, .ref h4, .ref h5, .int 1, .int 3, .int 50, .int (-1), .int (-1), .int (-1), .int (-1), .int 0, .int 100, .int 1000, .long 5310246711]))] (⟨rfl, rfl⟩) [0] rfl (by decide) (Nat.le_of_ble_eq_true rfl) (Nat.le_of_ble_eq_true rfl) dX7_manyNow_124
set_option maxHeartbeats 4000000 in
set_option maxRecDepth 100000 in
theorem cw_X7_add_5 (l : Launch) (E : rc_E) (sz : Nat) (h0 : Nat) (h1 : Nat) (h2 : Nat) (h3 : Nat) (h4 : Nat) (h5 : Nat) : rc_Mv l yX7_add [Cond.code yX7_add cX7_add 2 (none : Option FieldType)] { frames := 0, cells := 0, slots := 0, locals := 0 } E [.ref h0, .int 1000] [(h0, .inr (12, [.int 0, .ref h1, .ref h2, .ref h3, .ref h4, .ref h5, .int 1, .int 3, .int 50, .int (-1), .int (-1), .int (-1), .int (-1), .int 0, .int 100, .int 1000, .long 5310246711]))] sz (S := va_W) (fun (u : va_W) => (u = [(h0, .inr (12, [.int 0, .ref h1, .ref h2, .ref h3, .ref h4, .ref h5, .int 1, .int 3, .int 50, .int (-1), .int (-1), .int (-1), .int (-1), .int 0, .int 100, .int 1000, .long 164617649041]))])) (fun u => u) 0 0 := by
  refine rc_inv (cc := cX7_add) (maxL := 2) (ret := (none : Option FieldType)) (by decide) rfl (Nat.le_of_ble_eq_true rfl) ?_
  intro p e s m args below meth c ls A hx hb hr hml _ hown hlocks hin hA hAm hw hl
  have hown : s.vm.findClass RX7 = some m.cls := hown
  have hl : lv_has ls 2 [(0, .ref h0), (1, .int 1000)] := hl
  refine lv_aload_n hx hb dX7_add_0 rfl (lv_at hl 0 rfl) ?_
  refine lv_aload_n hx hb dX7_add_1 rfl (lv_at hl 0 rfl) ?_
  refine rc_get (v := .long 5310246711) hx hb hown hAm hw lyX7 0 rfl rfl 16 (by decide) qw_876 (fun _ h9 => h9) rfl dX7_add_2 ?_
  refine lv_ldc2 (v := 31) hx hb hown (hAm.wd qw_1470 rfl rfl) dX7_add_5 ?_
  refine lv_lmul hx hb dX7_add_8 ?_
  refine rc_topl 164617648041 (by decide) ?_
  refine lv_iload_n hx hb dX7_add_9 rfl (lv_at hl 1 rfl) ?_
  refine lv_i2l (v := 1000) hx hb dX7_add_10 (by decide) ?_
  refine lv_ladd hx hb dX7_add_11 ?_
  refine rc_topl 164617649041 (by decide) ?_
  refine rc_put hx hb hown hAm hw lyX7 tyX7 tyX7_ok nmX7 0 rfl rfl 16 (by decide) qw_876 (fun _ h9 => h9) rfl rfl (by decide +kernel) (Nat.le_of_ble_eq_true rfl) [(h0, .inr (12, [.int 0, .ref h1, .ref h2, .ref h3, .ref h4, .ref h5, .int 1, .int 3, .int 50, .int (-1), .int (-1), .int (-1), .int (-1), .int 0, .int 100, .int 1000, .long 164617649041]))] rfl dX7_add_12 (fun H locs hw => ?_)
  exact rc_vret hx hb hr hlocks hw [(h0, .inr (12, [.int 0, .ref h1, .ref h2, .ref h3, .ref h4, .ref h5, .int 1, .int 3, .int 50, .int (-1), .int (-1), .int (-1), .int (-1), .int 0, .int 100, .int 1000, .long 164617649041]))] (rfl) [0] rfl (by decide) (Nat.le_of_ble_eq_true rfl) (Nat.le_of_ble_eq_true rfl) dX7_add_15
set_option maxHeartbeats 4000000 in
set_option maxRecDepth 100000 in
theorem cw_X7_manyNow_7 (l : Launch) (E : rc_E) (sz : Nat) (h0 : Nat) (h1 : Nat) (h2 : Nat) (h3 : Nat) (h4 : Nat) (h5 : Nat) : rc_Mi l yX7_manyNow [Cond.code yX7_manyNow cX7_manyNow 7 (some FieldType.int)] { frames := 0, cells := 0, slots := 0, locals := 0 } E [.ref h0, .int 5] [(h0, .inr (12, [.int 0, .ref h1, .ref h2, .ref h3, .ref h4, .ref h5, .int 1, .int 3, .int 50, .int (-1), .int (-1), .int (-1), .int (-1), .int 0, .int 100, .int 1000, .long 164617649041]))] sz (S := va_W) (fun (r : Int32) (u : va_W) => (100 = r ∧ u = [(h0, .inr (12, [.int 0, .ref h1, .ref h2, .ref h3, .ref h4, .ref h5, .int 1, .int 3, .int 50, .int (-1), .int (-1), .int (-1), .int (-1), .int 0, .int 100, .int 1000, .long 164617649041]))])) (fun u => u) 0 0 := by
  refine rc_ini (cc := cX7_manyNow) (maxL := 7) (ret := (some FieldType.int)) (by decide) rfl (Nat.le_of_ble_eq_true rfl) ?_
  intro p e s m args below meth c ls A hx hb hr hml _ hown hlocks hin hA hAm hw hl
  have hown : s.vm.findClass RX7 = some m.cls := hown
  have hl : lv_has ls 7 [(0, .ref h0), (1, .int 5)] := hl
  refine lv_iconst (v := 0) hx hb dX7_manyNow_0 (by decide) ?_
  refine lv_istore_n (lv' := [(2, .int 0), (0, .ref h0), (1, .int 5)]) hx hb dX7_manyNow_1 rfl hl (by decide) rfl (fun ls hl => ?_)
  refine lv_iload_n hx hb dX7_manyNow_2 rfl (lv_at hl 2 rfl) ?_
  refine lv_tableIn (tgt := 125) hx hb dX7_manyNow_3 (by decide) (by decide) rfl (by decide) ?_
  refine lv_aload_n hx hb dX7_manyNow_125 rfl (lv_at hl 1 rfl) ?_
  refine rc_get (v := .int 100) hx hb hown hAm hw lyX7 0 rfl rfl 14 (by decide) qw_874 (fun _ h9 => h9) rfl dX7_manyNow_126 ?_
  exact rc_iret (v := 100) hx hb hr hlocks hw [(h0, .inr (12, [.int 0, .ref h1, .ref h2, .ref h3, .ref h4, .ref h5, .int 1, .int 3, .int 50, .int (-1), .int (-1), .int (-1), .int (-1), .int 0, .int 100, .int 1000, .long 164617649041]))] (⟨rfl, rfl⟩) [0] rfl (by decide) (Nat.le_of_ble_eq_true rfl) (Nat.le_of_ble_eq_true rfl) dX7_manyNow_129
set_option maxHeartbeats 4000000 in
set_option maxRecDepth 100000 in
theorem cw_X7_add_6 (l : Launch) (E : rc_E) (sz : Nat) (h0 : Nat) (h1 : Nat) (h2 : Nat) (h3 : Nat) (h4 : Nat) (h5 : Nat) : rc_Mv l yX7_add [Cond.code yX7_add cX7_add 2 (none : Option FieldType)] { frames := 0, cells := 0, slots := 0, locals := 0 } E [.ref h0, .int 100] [(h0, .inr (12, [.int 0, .ref h1, .ref h2, .ref h3, .ref h4, .ref h5, .int 1, .int 3, .int 50, .int (-1), .int (-1), .int (-1), .int (-1), .int 0, .int 100, .int 1000, .long 164617649041]))] sz (S := va_W) (fun (u : va_W) => (u = [(h0, .inr (12, [.int 0, .ref h1, .ref h2, .ref h3, .ref h4, .ref h5, .int 1, .int 3, .int 50, .int (-1), .int (-1), .int (-1), .int (-1), .int 0, .int 100, .int 1000, .long 5103147120371]))])) (fun u => u) 0 0 := by
  refine rc_inv (cc := cX7_add) (maxL := 2) (ret := (none : Option FieldType)) (by decide) rfl (Nat.le_of_ble_eq_true rfl) ?_
  intro p e s m args below meth c ls A hx hb hr hml _ hown hlocks hin hA hAm hw hl
  have hown : s.vm.findClass RX7 = some m.cls := hown
  have hl : lv_has ls 2 [(0, .ref h0), (1, .int 100)] := hl
  refine lv_aload_n hx hb dX7_add_0 rfl (lv_at hl 0 rfl) ?_
  refine lv_aload_n hx hb dX7_add_1 rfl (lv_at hl 0 rfl) ?_
  refine rc_get (v := .long 164617649041) hx hb hown hAm hw lyX7 0 rfl rfl 16 (by decide) qw_876 (fun _ h9 => h9) rfl dX7_add_2 ?_
  refine lv_ldc2 (v := 31) hx hb hown (hAm.wd qw_1470 rfl rfl) dX7_add_5 ?_
  refine lv_lmul hx hb dX7_add_8 ?_
  refine rc_topl 5103147120271 (by decide) ?_
  refine lv_iload_n hx hb dX7_add_9 rfl (lv_at hl 1 rfl) ?_
  refine lv_i2l (v := 100) hx hb dX7_add_10 (by decide) ?_
  refine lv_ladd hx hb dX7_add_11 ?_
  refine rc_topl 5103147120371 (by decide) ?_
  refine rc_put hx hb hown hAm hw lyX7 tyX7 tyX7_ok nmX7 0 rfl rfl 16 (by decide) qw_876 (fun _ h9 => h9) rfl rfl (by decide +kernel) (Nat.le_of_ble_eq_true rfl) [(h0, .inr (12, [.int 0, .ref h1, .ref h2, .ref h3, .ref h4, .ref h5, .int 1, .int 3, .int 50, .int (-1), .int (-1), .int (-1), .int (-1), .int 0, .int 100, .int 1000, .long 5103147120371]))] rfl dX7_add_12 (fun H locs hw => ?_)
  exact rc_vret hx hb hr hlocks hw [(h0, .inr (12, [.int 0, .ref h1, .ref h2, .ref h3, .ref h4, .ref h5, .int 1, .int 3, .int 50, .int (-1), .int (-1), .int (-1), .int (-1), .int 0, .int 100, .int 1000, .long 5103147120371]))] (rfl) [0] rfl (by decide) (Nat.le_of_ble_eq_true rfl) (Nat.le_of_ble_eq_true rfl) dX7_add_15
set_option maxHeartbeats 4000000 in
set_option maxRecDepth 100000 in
theorem cw_X7_manyNow_8 (l : Launch) (E : rc_E) (sz : Nat) (h0 : Nat) (h1 : Nat) (h2 : Nat) (h3 : Nat) (h4 : Nat) (h5 : Nat) : rc_Mi l yX7_manyNow [Cond.code yX7_manyNow cX7_manyNow 7 (some FieldType.int)] { frames := 0, cells := 0, slots := 0, locals := 0 } E [.ref h0, .int 6] [(h0, .inr (12, [.int 0, .ref h1, .ref h2, .ref h3, .ref h4, .ref h5, .int 1, .int 3, .int 50, .int (-1), .int (-1), .int (-1), .int (-1), .int 0, .int 100, .int 1000, .long 5103147120371]))] sz (S := va_W) (fun (r : Int32) (u : va_W) => (0 = r ∧ u = [(h0, .inr (12, [.int 0, .ref h1, .ref h2, .ref h3, .ref h4, .ref h5, .int 1, .int 3, .int 50, .int (-1), .int (-1), .int (-1), .int (-1), .int 0, .int 100, .int 1000, .long 5103147120371]))])) (fun u => u) 0 0 := by
  refine rc_ini (cc := cX7_manyNow) (maxL := 7) (ret := (some FieldType.int)) (by decide) rfl (Nat.le_of_ble_eq_true rfl) ?_
  intro p e s m args below meth c ls A hx hb hr hml _ hown hlocks hin hA hAm hw hl
  have hown : s.vm.findClass RX7 = some m.cls := hown
  have hl : lv_has ls 7 [(0, .ref h0), (1, .int 6)] := hl
  refine lv_iconst (v := 0) hx hb dX7_manyNow_0 (by decide) ?_
  refine lv_istore_n (lv' := [(2, .int 0), (0, .ref h0), (1, .int 6)]) hx hb dX7_manyNow_1 rfl hl (by decide) rfl (fun ls hl => ?_)
  refine lv_iload_n hx hb dX7_manyNow_2 rfl (lv_at hl 2 rfl) ?_
  refine lv_tableIn (tgt := 130) hx hb dX7_manyNow_3 (by decide) (by decide) rfl (by decide) ?_
  refine lv_aload_n hx hb dX7_manyNow_130 rfl (lv_at hl 1 rfl) ?_
  refine rc_get (v := .int 0) hx hb hown hAm hw lyX7 0 rfl rfl 13 (by decide) qw_873 (fun _ h9 => h9) rfl dX7_manyNow_131 ?_
  exact rc_iret (v := 0) hx hb hr hlocks hw [(h0, .inr (12, [.int 0, .ref h1, .ref h2, .ref h3, .ref h4, .ref h5, .int 1, .int 3, .int 50, .int (-1), .int (-1), .int (-1), .int (-1), .int 0, .int 100, .int 1000, .long 5103147120371]))] (⟨rfl, rfl⟩) [0] rfl (by decide) (Nat.le_of_ble_eq_true rfl) (Nat.le_of_ble_eq_true rfl) dX7_manyNow_134
set_option maxHeartbeats 4000000 in
set_option maxRecDepth 100000 in
theorem cw_X7_add_7 (l : Launch) (E : rc_E) (sz : Nat) (h0 : Nat) (h1 : Nat) (h2 : Nat) (h3 : Nat) (h4 : Nat) (h5 : Nat) : rc_Mv l yX7_add [Cond.code yX7_add cX7_add 2 (none : Option FieldType)] { frames := 0, cells := 0, slots := 0, locals := 0 } E [.ref h0, .int 0] [(h0, .inr (12, [.int 0, .ref h1, .ref h2, .ref h3, .ref h4, .ref h5, .int 1, .int 3, .int 50, .int (-1), .int (-1), .int (-1), .int (-1), .int 0, .int 100, .int 1000, .long 5103147120371]))] sz (S := va_W) (fun (u : va_W) => (u = [(h0, .inr (12, [.int 0, .ref h1, .ref h2, .ref h3, .ref h4, .ref h5, .int 1, .int 3, .int 50, .int (-1), .int (-1), .int (-1), .int (-1), .int 0, .int 100, .int 1000, .long 158197560731501]))])) (fun u => u) 0 0 := by
  refine rc_inv (cc := cX7_add) (maxL := 2) (ret := (none : Option FieldType)) (by decide) rfl (Nat.le_of_ble_eq_true rfl) ?_
  intro p e s m args below meth c ls A hx hb hr hml _ hown hlocks hin hA hAm hw hl
  have hown : s.vm.findClass RX7 = some m.cls := hown
  have hl : lv_has ls 2 [(0, .ref h0), (1, .int 0)] := hl
  refine lv_aload_n hx hb dX7_add_0 rfl (lv_at hl 0 rfl) ?_
  refine lv_aload_n hx hb dX7_add_1 rfl (lv_at hl 0 rfl) ?_
  refine rc_get (v := .long 5103147120371) hx hb hown hAm hw lyX7 0 rfl rfl 16 (by decide) qw_876 (fun _ h9 => h9) rfl dX7_add_2 ?_
  refine lv_ldc2 (v := 31) hx hb hown (hAm.wd qw_1470 rfl rfl) dX7_add_5 ?_
  refine lv_lmul hx hb dX7_add_8 ?_
  refine rc_topl 158197560731501 (by decide) ?_
  refine lv_iload_n hx hb dX7_add_9 rfl (lv_at hl 1 rfl) ?_
  refine lv_i2l (v := 0) hx hb dX7_add_10 (by decide) ?_
  refine lv_ladd hx hb dX7_add_11 ?_
  refine rc_topl 158197560731501 (by decide) ?_
  refine rc_put hx hb hown hAm hw lyX7 tyX7 tyX7_ok nmX7 0 rfl rfl 16 (by decide) qw_876 (fun _ h9 => h9) rfl rfl (by decide +kernel) (Nat.le_of_ble_eq_true rfl) [(h0, .inr (12, [.int 0, .ref h1, .ref h2, .ref h3, .ref h4, .ref h5, .int 1, .int 3, .int 50, .int (-1), .int (-1), .int (-1), .int (-1), .int 0, .int 100, .int 1000, .long 158197560731501]))] rfl dX7_add_12 (fun H locs hw => ?_)
  exact rc_vret hx hb hr hlocks hw [(h0, .inr (12, [.int 0, .ref h1, .ref h2, .ref h3, .ref h4, .ref h5, .int 1, .int 3, .int 50, .int (-1), .int (-1), .int (-1), .int (-1), .int 0, .int 100, .int 1000, .long 158197560731501]))] (rfl) [0] rfl (by decide) (Nat.le_of_ble_eq_true rfl) (Nat.le_of_ble_eq_true rfl) dX7_add_15
set_option maxHeartbeats 4000000 in
set_option maxRecDepth 100000 in
theorem cw_X7_manyNow_9 (l : Launch) (E : rc_E) (sz : Nat) (h0 : Nat) (h1 : Nat) (h2 : Nat) (h3 : Nat) (h4 : Nat) (h5 : Nat) : rc_Mi l yX7_manyNow [Cond.code yX7_manyNow cX7_manyNow 7 (some FieldType.int)] { frames := 0, cells := 0, slots := 0, locals := 0 } E [.ref h0, .int 7] [(h0, .inr (12, [.int 0, .ref h1, .ref h2, .ref h3, .ref h4, .ref h5, .int 1, .int 3, .int 50, .int (-1), .int (-1), .int (-1), .int (-1), .int 0, .int 100, .int 1000, .long 158197560731501])), (h4, .inl (E.2.1 3, 40, .inl (fun _ => 0)))] sz (S := va_W) (fun (r : Int32) (u : va_W) => (0 = r ∧ u = [(h0, .inr (12, [.int 0, .ref h1, .ref h2, .ref h3, .ref h4, .ref h5, .int 1, .int 3, .int 50, .int (-1), .int (-1), .int (-1), .int (-1), .int 0, .int 100, .int 1000, .long 158197560731501])), (h4, .inl (E.2.1 3, 40, .inl (fun _ => 0)))])) (fun u => u) 0 0 := by
  refine rc_ini (cc := cX7_manyNow) (maxL := 7) (ret := (some FieldType.int)) (by decide) rfl (Nat.le_of_ble_eq_true rfl) ?_
  intro p e s m args below meth c ls A hx hb hr hml _ hown hlocks hin hA hAm hw hl
  have hown : s.vm.findClass RX7 = some m.cls := hown
  have hl : lv_has ls 7 [(0, .ref h0), (1, .int 7)] := hl
  refine lv_iconst (v := 0) hx hb dX7_manyNow_0 (by decide) ?_
  refine lv_istore_n (lv' := [(2, .int 0), (0, .ref h0), (1, .int 7)]) hx hb dX7_manyNow_1 rfl hl (by decide) rfl (fun ls hl => ?_)
  refine lv_iload_n hx hb dX7_manyNow_2 rfl (lv_at hl 2 rfl) ?_
  refine lv_tableIn (tgt := 135) hx hb dX7_manyNow_3 (by decide) (by decide) rfl (by decide) ?_
  refine lv_aload_n hx hb dX7_manyNow_135 rfl (lv_at hl 1 rfl) ?_
  refine rc_get (v := .ref h4) hx hb hown hAm hw lyX7 0 rfl rfl 4 (by decide) qw_864 (fun _ h9 => h9) rfl dX7_manyNow_136 ?_
  refine lv_astore_n (lv' := [(3, .ref h4), (2, .int 0), (0, .ref h0), (1, .int 7)]) hx hb dX7_manyNow_139 rfl hl (by decide) rfl (fun ls hl => ?_)
  refine lv_aload_n hx hb dX7_manyNow_140 rfl (lv_at hl 0 rfl) ?_
  refine rc_alen hx hb hAm hw 1 3 rfl rfl 40 rfl dX7_manyNow_141 ?_
  refine lv_istore (lv' := [(4, .int 40), (3, .ref h4), (2, .int 0), (0, .ref h0), (1, .int 7)]) hx hb dX7_manyNow_142 hl (by decide) rfl (fun ls hl => ?_)
  refine lv_iconst (v := 0) hx hb dX7_manyNow_144 (by decide) ?_
  refine lv_istore (lv' := [(5, .int 0), (4, .int 40), (3, .ref h4), (2, .int 0), (0, .ref h0), (1, .int 7)]) hx hb dX7_manyNow_145 hl (by decide) rfl (fun ls hl => ?_)
  refine lv_iload hx hb dX7_manyNow_147 (lv_at hl 0 rfl) ?_
  refine lv_iload hx hb dX7_manyNow_149 (lv_at hl 1 rfl) ?_
  refine lv_icmp_ge (tgt := 179) hx hb dX7_manyNow_151 (by decide) (fun c9 => absurd c9 (by decide)) (fun _ => ?_)
  refine lv_aload_n hx hb dX7_manyNow_154 rfl (lv_at hl 2 rfl) ?_
  refine lv_iload hx hb dX7_manyNow_155 (lv_at hl 0 rfl) ?_
  refine rc_zald hx hb hAm hw 1 rfl (vp_in_iff.mpr (by decide)) dX7_manyNow_157 ?_
  refine rc_topi 0 rfl ?_
  refine lv_istore (lv' := [(6, .int 0), (5, .int 0), (4, .int 40), (3, .ref h4), (2, .int 0), (0, .ref h0), (1, .int 7)]) hx hb dX7_manyNow_158 hl (by decide) rfl (fun ls hl => ?_)
  refine lv_iload_n hx hb dX7_manyNow_160 rfl (lv_at hl 4 rfl) ?_
  refine lv_iload hx hb dX7_manyNow_161 (lv_at hl 0 rfl) ?_
  refine lv_if_eq (tgt := 170) hx hb dX7_manyNow_163 (by decide) (fun _ => ?_) (fun c9 => absurd (by decide) c9)
  refine lv_iconst (v := 0) hx hb dX7_manyNow_170 (by decide) ?_
  refine lv_iadd hx hb dX7_manyNow_171 ?_
  refine rc_topi 0 (by decide) ?_
  refine lv_istore_n (lv' := [(2, .int 0), (6, .int 0), (5, .int 0), (4, .int 40), (3, .ref h4), (0, .ref h0), (1, .int 7)]) hx hb dX7_manyNow_172 rfl hl (by decide) rfl (fun ls hl => ?_)
  refine lv_iinc (v := 1) (lv' := [(5, .int 1), (2, .int 0), (6, .int 0), (4, .int 40), (3, .ref h4), (0, .ref h0), (1, .int 7)]) hx hb dX7_manyNow_173 hl (k := 2) rfl (by decide) (by decide) rfl (fun ls hl => ?_)
  refine lv_goto (tgt := 147) hx hb dX7_manyNow_176 (by decide) ?_
  refine lv_iload hx hb dX7_manyNow_147 (lv_at hl 0 rfl) ?_
  refine lv_iload hx hb dX7_manyNow_149 (lv_at hl 3 rfl) ?_
  refine lv_icmp_ge (tgt := 179) hx hb dX7_manyNow_151 (by decide) (fun c9 => absurd c9 (by decide)) (fun _ => ?_)
  refine lv_aload_n hx hb dX7_manyNow_154 rfl (lv_at hl 4 rfl) ?_
  refine lv_iload hx hb dX7_manyNow_155 (lv_at hl 0 rfl) ?_
  refine rc_zald hx hb hAm hw 1 rfl (vp_in_iff.mpr (by decide)) dX7_manyNow_157 ?_
  refine rc_topi 0 rfl ?_
  refine lv_istore (lv' := [(6, .int 0), (5, .int 1), (2, .int 0), (4, .int 40), (3, .ref h4), (0, .ref h0), (1, .int 7)]) hx hb dX7_manyNow_158 hl (by decide) rfl (fun ls hl => ?_)
  refine lv_iload_n hx hb dX7_manyNow_160 rfl (lv_at hl 2 rfl) ?_
  refine lv_iload hx hb dX7_manyNow_161 (lv_at hl 0 rfl) ?_
  refine lv_if_eq (tgt := 170) hx hb dX7_manyNow_163 (by decide) (fun _ => ?_) (fun c9 => absurd (by decide) c9)
  refine lv_iconst (v := 0) hx hb dX7_manyNow_170 (by decide) ?_
  refine lv_iadd hx hb dX7_manyNow_171 ?_
  refine rc_topi 0 (by decide) ?_
  refine lv_istore_n (lv' := [(2, .int 0), (6, .int 0), (5, .int 1), (4, .int 40), (3, .ref h4), (0, .ref h0), (1, .int 7)]) hx hb dX7_manyNow_172 rfl hl (by decide) rfl (fun ls hl => ?_)
  refine lv_iinc (v := 2) (lv' := [(5, .int 2), (2, .int 0), (6, .int 0), (4, .int 40), (3, .ref h4), (0, .ref h0), (1, .int 7)]) hx hb dX7_manyNow_173 hl (k := 2) rfl (by decide) (by decide) rfl (fun ls hl => ?_)
  refine lv_goto (tgt := 147) hx hb dX7_manyNow_176 (by decide) ?_
  refine lv_iload hx hb dX7_manyNow_147 (lv_at hl 0 rfl) ?_
  refine lv_iload hx hb dX7_manyNow_149 (lv_at hl 3 rfl) ?_
  refine lv_icmp_ge (tgt := 179) hx hb dX7_manyNow_151 (by decide) (fun c9 => absurd c9 (by decide)) (fun _ => ?_)
  refine lv_aload_n hx hb dX7_manyNow_154 rfl (lv_at hl 4 rfl) ?_
  refine lv_iload hx hb dX7_manyNow_155 (lv_at hl 0 rfl) ?_
  refine rc_zald hx hb hAm hw 1 rfl (vp_in_iff.mpr (by decide)) dX7_manyNow_157 ?_
  refine rc_topi 0 rfl ?_
  refine lv_istore (lv' := [(6, .int 0), (5, .int 2), (2, .int 0), (4, .int 40), (3, .ref h4), (0, .ref h0), (1, .int 7)]) hx hb dX7_manyNow_158 hl (by decide) rfl (fun ls hl => ?_)
  refine lv_iload_n hx hb dX7_manyNow_160 rfl (lv_at hl 2 rfl) ?_
  refine lv_iload hx hb dX7_manyNow_161 (lv_at hl 0 rfl) ?_
  refine lv_if_eq (tgt := 170) hx hb dX7_manyNow_163 (by decide) (fun _ => ?_) (fun c9 => absurd (by decide) c9)
  refine lv_iconst (v := 0) hx hb dX7_manyNow_170 (by decide) ?_
  refine lv_iadd hx hb dX7_manyNow_171 ?_
  refine rc_topi 0 (by decide) ?_
  refine lv_istore_n (lv' := [(2, .int 0), (6, .int 0), (5, .int 2), (4, .int 40), (3, .ref h4), (0, .ref h0), (1, .int 7)]) hx hb dX7_manyNow_172 rfl hl (by decide) rfl (fun ls hl => ?_)
  refine lv_iinc (v := 3) (lv' := [(5, .int 3), (2, .int 0), (6, .int 0), (4, .int 40), (3, .ref h4), (0, .ref h0), (1, .int 7)]) hx hb dX7_manyNow_173 hl (k := 2) rfl (by decide) (by decide) rfl (fun ls hl => ?_)
  refine lv_goto (tgt := 147) hx hb dX7_manyNow_176 (by decide) ?_
  refine lv_iload hx hb dX7_manyNow_147 (lv_at hl 0 rfl) ?_
  refine lv_iload hx hb dX7_manyNow_149 (lv_at hl 3 rfl) ?_
  refine lv_icmp_ge (tgt := 179) hx hb dX7_manyNow_151 (by decide) (fun c9 => absurd c9 (by decide)) (fun _ => ?_)
  refine lv_aload_n hx hb dX7_manyNow_154 rfl (lv_at hl 4 rfl) ?_
  refine lv_iload hx hb dX7_manyNow_155 (lv_at hl 0 rfl) ?_
  refine rc_zald hx hb hAm hw 1 rfl (vp_in_iff.mpr (by decide)) dX7_manyNow_157 ?_
  refine rc_topi 0 rfl ?_
  refine lv_istore (lv' := [(6, .int 0), (5, .int 3), (2, .int 0), (4, .int 40), (3, .ref h4), (0, .ref h0), (1, .int 7)]) hx hb dX7_manyNow_158 hl (by decide) rfl (fun ls hl => ?_)
  refine lv_iload_n hx hb dX7_manyNow_160 rfl (lv_at hl 2 rfl) ?_
  refine lv_iload hx hb dX7_manyNow_161 (lv_at hl 0 rfl) ?_
  refine lv_if_eq (tgt := 170) hx hb dX7_manyNow_163 (by decide) (fun _ => ?_) (fun c9 => absurd (by decide) c9)
  refine lv_iconst (v := 0) hx hb dX7_manyNow_170 (by decide) ?_
  refine lv_iadd hx hb dX7_manyNow_171 ?_
  refine rc_topi 0 (by decide) ?_
  refine lv_istore_n (lv' := [(2, .int 0), (6, .int 0), (5, .int 3), (4, .int 40), (3, .ref h4), (0, .ref h0), (1, .int 7)]) hx hb dX7_manyNow_172 rfl hl (by decide) rfl (fun ls hl => ?_)
  refine lv_iinc (v := 4) (lv' := [(5, .int 4), (2, .int 0), (6, .int 0), (4, .int 40), (3, .ref h4), (0, .ref h0), (1, .int 7)]) hx hb dX7_manyNow_173 hl (k := 2) rfl (by decide) (by decide) rfl (fun ls hl => ?_)
  refine lv_goto (tgt := 147) hx hb dX7_manyNow_176 (by decide) ?_
  refine lv_iload hx hb dX7_manyNow_147 (lv_at hl 0 rfl) ?_
  refine lv_iload hx hb dX7_manyNow_149 (lv_at hl 3 rfl) ?_
  refine lv_icmp_ge (tgt := 179) hx hb dX7_manyNow_151 (by decide) (fun c9 => absurd c9 (by decide)) (fun _ => ?_)
  refine lv_aload_n hx hb dX7_manyNow_154 rfl (lv_at hl 4 rfl) ?_
  refine lv_iload hx hb dX7_manyNow_155 (lv_at hl 0 rfl) ?_
  refine rc_zald hx hb hAm hw 1 rfl (vp_in_iff.mpr (by decide)) dX7_manyNow_157 ?_
  refine rc_topi 0 rfl ?_
  refine lv_istore (lv' := [(6, .int 0), (5, .int 4), (2, .int 0), (4, .int 40), (3, .ref h4), (0, .ref h0), (1, .int 7)]) hx hb dX7_manyNow_158 hl (by decide) rfl (fun ls hl => ?_)
  refine lv_iload_n hx hb dX7_manyNow_160 rfl (lv_at hl 2 rfl) ?_
  refine lv_iload hx hb dX7_manyNow_161 (lv_at hl 0 rfl) ?_
  refine lv_if_eq (tgt := 170) hx hb dX7_manyNow_163 (by decide) (fun _ => ?_) (fun c9 => absurd (by decide) c9)
  refine lv_iconst (v := 0) hx hb dX7_manyNow_170 (by decide) ?_
  refine lv_iadd hx hb dX7_manyNow_171 ?_
  refine rc_topi 0 (by decide) ?_
  refine lv_istore_n (lv' := [(2, .int 0), (6, .int 0), (5, .int 4), (4, .int 40), (3, .ref h4), (0, .ref h0), (1, .int 7)]) hx hb dX7_manyNow_172 rfl hl (by decide) rfl (fun ls hl => ?_)
  refine lv_iinc (v := 5) (lv' := [(5, .int 5), (2, .int 0), (6, .int 0), (4, .int 40), (3, .ref h4), (0, .ref h0), (1, .int 7)]) hx hb dX7_manyNow_173 hl (k := 2) rfl (by decide) (by decide) rfl (fun ls hl => ?_)
  refine lv_goto (tgt := 147) hx hb dX7_manyNow_176 (by decide) ?_
  refine lv_iload hx hb dX7_manyNow_147 (lv_at hl 0 rfl) ?_
  refine lv_iload hx hb dX7_manyNow_149 (lv_at hl 3 rfl) ?_
  refine lv_icmp_ge (tgt := 179) hx hb dX7_manyNow_151 (by decide) (fun c9 => absurd c9 (by decide)) (fun _ => ?_)
  refine lv_aload_n hx hb dX7_manyNow_154 rfl (lv_at hl 4 rfl) ?_
  refine lv_iload hx hb dX7_manyNow_155 (lv_at hl 0 rfl) ?_
  refine rc_zald hx hb hAm hw 1 rfl (vp_in_iff.mpr (by decide)) dX7_manyNow_157 ?_
  refine rc_topi 0 rfl ?_
  refine lv_istore (lv' := [(6, .int 0), (5, .int 5), (2, .int 0), (4, .int 40), (3, .ref h4), (0, .ref h0), (1, .int 7)]) hx hb dX7_manyNow_158 hl (by decide) rfl (fun ls hl => ?_)
  refine lv_iload_n hx hb dX7_manyNow_160 rfl (lv_at hl 2 rfl) ?_
  refine lv_iload hx hb dX7_manyNow_161 (lv_at hl 0 rfl) ?_
  refine lv_if_eq (tgt := 170) hx hb dX7_manyNow_163 (by decide) (fun _ => ?_) (fun c9 => absurd (by decide) c9)
  refine lv_iconst (v := 0) hx hb dX7_manyNow_170 (by decide) ?_
  refine lv_iadd hx hb dX7_manyNow_171 ?_
  refine rc_topi 0 (by decide) ?_
  refine lv_istore_n (lv' := [(2, .int 0), (6, .int 0), (5, .int 5), (4, .int 40), (3, .ref h4), (0, .ref h0), (1, .int 7)]) hx hb dX7_manyNow_172 rfl hl (by decide) rfl (fun ls hl => ?_)
  refine lv_iinc (v := 6) (lv' := [(5, .int 6), (2, .int 0), (6, .int 0), (4, .int 40), (3, .ref h4), (0, .ref h0), (1, .int 7)]) hx hb dX7_manyNow_173 hl (k := 2) rfl (by decide) (by decide) rfl (fun ls hl => ?_)
  refine lv_goto (tgt := 147) hx hb dX7_manyNow_176 (by decide) ?_
  refine lv_iload hx hb dX7_manyNow_147 (lv_at hl 0 rfl) ?_
  refine lv_iload hx hb dX7_manyNow_149 (lv_at hl 3 rfl) ?_
  refine lv_icmp_ge (tgt := 179) hx hb dX7_manyNow_151 (by decide) (fun c9 => absurd c9 (by decide)) (fun _ => ?_)
  refine lv_aload_n hx hb dX7_manyNow_154 rfl (lv_at hl 4 rfl) ?_
  refine lv_iload hx hb dX7_manyNow_155 (lv_at hl 0 rfl) ?_
  refine rc_zald hx hb hAm hw 1 rfl (vp_in_iff.mpr (by decide)) dX7_manyNow_157 ?_
  refine rc_topi 0 rfl ?_
  refine lv_istore (lv' := [(6, .int 0), (5, .int 6), (2, .int 0), (4, .int 40), (3, .ref h4), (0, .ref h0), (1, .int 7)]) hx hb dX7_manyNow_158 hl (by decide) rfl (fun ls hl => ?_)
  refine lv_iload_n hx hb dX7_manyNow_160 rfl (lv_at hl 2 rfl) ?_
  refine lv_iload hx hb dX7_manyNow_161 (lv_at hl 0 rfl) ?_
  refine lv_if_eq (tgt := 170) hx hb dX7_manyNow_163 (by decide) (fun _ => ?_) (fun c9 => absurd (by decide) c9)
  refine lv_iconst (v := 0) hx hb dX7_manyNow_170 (by decide) ?_
  refine lv_iadd hx hb dX7_manyNow_171 ?_
  refine rc_topi 0 (by decide) ?_
  refine lv_istore_n (lv' := [(2, .int 0), (6, .int 0), (5, .int 6), (4, .int 40), (3, .ref h4), (0, .ref h0), (1, .int 7)]) hx hb dX7_manyNow_172 rfl hl (by decide) rfl (fun ls hl => ?_)
  refine lv_iinc (v := 7) (lv' := [(5, .int 7), (2, .int 0), (6, .int 0), (4, .int 40), (3, .ref h4), (0, .ref h0), (1, .int 7)]) hx hb dX7_manyNow_173 hl (k := 2) rfl (by decide) (by decide) rfl (fun ls hl => ?_)
  refine lv_goto (tgt := 147) hx hb dX7_manyNow_176 (by decide) ?_
  refine lv_iload hx hb dX7_manyNow_147 (lv_at hl 0 rfl) ?_
  refine lv_iload hx hb dX7_manyNow_149 (lv_at hl 3 rfl) ?_
  refine lv_icmp_ge (tgt := 179) hx hb dX7_manyNow_151 (by decide) (fun c9 => absurd c9 (by decide)) (fun _ => ?_)
  refine lv_aload_n hx hb dX7_manyNow_154 rfl (lv_at hl 4 rfl) ?_
  refine lv_iload hx hb dX7_manyNow_155 (lv_at hl 0 rfl) ?_
  refine rc_zald hx hb hAm hw 1 rfl (vp_in_iff.mpr (by decide)) dX7_manyNow_157 ?_
  refine rc_topi 0 rfl ?_
  refine lv_istore (lv' := [(6, .int 0), (5, .int 7), (2, .int 0), (4, .int 40), (3, .ref h4), (0, .ref h0), (1, .int 7)]) hx hb dX7_manyNow_158 hl (by decide) rfl (fun ls hl => ?_)
  refine lv_iload_n hx hb dX7_manyNow_160 rfl (lv_at hl 2 rfl) ?_
  refine lv_iload hx hb dX7_manyNow_161 (lv_at hl 0 rfl) ?_
  refine lv_if_eq (tgt := 170) hx hb dX7_manyNow_163 (by decide) (fun _ => ?_) (fun c9 => absurd (by decide) c9)
  refine lv_iconst (v := 0) hx hb dX7_manyNow_170 (by decide) ?_
  refine lv_iadd hx hb dX7_manyNow_171 ?_
  refine rc_topi 0 (by decide) ?_
  refine lv_istore_n (lv' := [(2, .int 0), (6, .int 0), (5, .int 7), (4, .int 40), (3, .ref h4), (0, .ref h0), (1, .int 7)]) hx hb dX7_manyNow_172 rfl hl (by decide) rfl (fun ls hl => ?_)
  refine lv_iinc (v := 8) (lv' := [(5, .int 8), (2, .int 0), (6, .int 0), (4, .int 40), (3, .ref h4), (0, .ref h0), (1, .int 7)]) hx hb dX7_manyNow_173 hl (k := 2) rfl (by decide) (by decide) rfl (fun ls hl => ?_)
  refine lv_goto (tgt := 147) hx hb dX7_manyNow_176 (by decide) ?_
  refine lv_iload hx hb dX7_manyNow_147 (lv_at hl 0 rfl) ?_
  refine lv_iload hx hb dX7_manyNow_149 (lv_at hl 3 rfl) ?_
  refine lv_icmp_ge (tgt := 179) hx hb dX7_manyNow_151 (by decide) (fun c9 => absurd c9 (by decide)) (fun _ => ?_)
  refine lv_aload_n hx hb dX7_manyNow_154 rfl (lv_at hl 4 rfl) ?_
  refine lv_iload hx hb dX7_manyNow_155 (lv_at hl 0 rfl) ?_
  refine rc_zald hx hb hAm hw 1 rfl (vp_in_iff.mpr (by decide)) dX7_manyNow_157 ?_
  refine rc_topi 0 rfl ?_
  refine lv_istore (lv' := [(6, .int 0), (5, .int 8), (2, .int 0), (4, .int 40), (3, .ref h4), (0, .ref h0), (1, .int 7)]) hx hb dX7_manyNow_158 hl (by decide) rfl (fun ls hl => ?_)
  refine lv_iload_n hx hb dX7_manyNow_160 rfl (lv_at hl 2 rfl) ?_
  refine lv_iload hx hb dX7_manyNow_161 (lv_at hl 0 rfl) ?_
  refine lv_if_eq (tgt := 170) hx hb dX7_manyNow_163 (by decide) (fun _ => ?_) (fun c9 => absurd (by decide) c9)
  refine lv_iconst (v := 0) hx hb dX7_manyNow_170 (by decide) ?_
  refine lv_iadd hx hb dX7_manyNow_171 ?_
  refine rc_topi 0 (by decide) ?_
  refine lv_istore_n (lv' := [(2, .int 0), (6, .int 0), (5, .int 8), (4, .int 40), (3, .ref h4), (0, .ref h0), (1, .int 7)]) hx hb dX7_manyNow_172 rfl hl (by decide) rfl (fun ls hl => ?_)
  refine lv_iinc (v := 9) (lv' := [(5, .int 9), (2, .int 0), (6, .int 0), (4, .int 40), (3, .ref h4), (0, .ref h0), (1, .int 7)]) hx hb dX7_manyNow_173 hl (k := 2) rfl (by decide) (by decide) rfl (fun ls hl => ?_)
  refine lv_goto (tgt := 147) hx hb dX7_manyNow_176 (by decide) ?_
  refine lv_iload hx hb dX7_manyNow_147 (lv_at hl 0 rfl) ?_
  refine lv_iload hx hb dX7_manyNow_149 (lv_at hl 3 rfl) ?_
  refine lv_icmp_ge (tgt := 179) hx hb dX7_manyNow_151 (by decide) (fun c9 => absurd c9 (by decide)) (fun _ => ?_)
  refine lv_aload_n hx hb dX7_manyNow_154 rfl (lv_at hl 4 rfl) ?_
  refine lv_iload hx hb dX7_manyNow_155 (lv_at hl 0 rfl) ?_
  refine rc_zald hx hb hAm hw 1 rfl (vp_in_iff.mpr (by decide)) dX7_manyNow_157 ?_
  refine rc_topi 0 rfl ?_
  refine lv_istore (lv' := [(6, .int 0), (5, .int 9), (2, .int 0), (4, .int 40), (3, .ref h4), (0, .ref h0), (1, .int 7)]) hx hb dX7_manyNow_158 hl (by decide) rfl (fun ls hl => ?_)
  refine lv_iload_n hx hb dX7_manyNow_160 rfl (lv_at hl 2 rfl) ?_
  refine lv_iload hx hb dX7_manyNow_161 (lv_at hl 0 rfl) ?_
  refine lv_if_eq (tgt := 170) hx hb dX7_manyNow_163 (by decide) (fun _ => ?_) (fun c9 => absurd (by decide) c9)
  refine lv_iconst (v := 0) hx hb dX7_manyNow_170 (by decide) ?_
  refine lv_iadd hx hb dX7_manyNow_171 ?_
  refine rc_topi 0 (by decide) ?_
  refine lv_istore_n (lv' := [(2, .int 0), (6, .int 0), (5, .int 9), (4, .int 40), (3, .ref h4), (0, .ref h0), (1, .int 7)]) hx hb dX7_manyNow_172 rfl hl (by decide) rfl (fun ls hl => ?_)
  refine lv_iinc (v := 10) (lv' := [(5, .int 10), (2, .int 0), (6, .int 0), (4, .int 40), (3, .ref h4), (0, .ref h0), (1, .int 7)]) hx hb dX7_manyNow_173 hl (k := 2) rfl (by decide) (by decide) rfl (fun ls hl => ?_)
  refine lv_goto (tgt := 147) hx hb dX7_manyNow_176 (by decide) ?_
  refine lv_iload hx hb dX7_manyNow_147 (lv_at hl 0 rfl) ?_
  refine lv_iload hx hb dX7_manyNow_149 (lv_at hl 3 rfl) ?_
  refine lv_icmp_ge (tgt := 179) hx hb dX7_manyNow_151 (by decide) (fun c9 => absurd c9 (by decide)) (fun _ => ?_)
  refine lv_aload_n hx hb dX7_manyNow_154 rfl (lv_at hl 4 rfl) ?_
  refine lv_iload hx hb dX7_manyNow_155 (lv_at hl 0 rfl) ?_
  refine rc_zald hx hb hAm hw 1 rfl (vp_in_iff.mpr (by decide)) dX7_manyNow_157 ?_
  refine rc_topi 0 rfl ?_
  refine lv_istore (lv' := [(6, .int 0), (5, .int 10), (2, .int 0), (4, .int 40), (3, .ref h4), (0, .ref h0), (1, .int 7)]) hx hb dX7_manyNow_158 hl (by decide) rfl (fun ls hl => ?_)
  refine lv_iload_n hx hb dX7_manyNow_160 rfl (lv_at hl 2 rfl) ?_
  refine lv_iload hx hb dX7_manyNow_161 (lv_at hl 0 rfl) ?_
  refine lv_if_eq (tgt := 170) hx hb dX7_manyNow_163 (by decide) (fun _ => ?_) (fun c9 => absurd (by decide) c9)
  refine lv_iconst (v := 0) hx hb dX7_manyNow_170 (by decide) ?_
  refine lv_iadd hx hb dX7_manyNow_171 ?_
  refine rc_topi 0 (by decide) ?_
  refine lv_istore_n (lv' := [(2, .int 0), (6, .int 0), (5, .int 10), (4, .int 40), (3, .ref h4), (0, .ref h0), (1, .int 7)]) hx hb dX7_manyNow_172 rfl hl (by decide) rfl (fun ls hl => ?_)
  refine lv_iinc (v := 11) (lv' := [(5, .int 11), (2, .int 0), (6, .int 0), (4, .int 40), (3, .ref h4), (0, .ref h0), (1, .int 7)]) hx hb dX7_manyNow_173 hl (k := 2) rfl (by decide) (by decide) rfl (fun ls hl => ?_)
  refine lv_goto (tgt := 147) hx hb dX7_manyNow_176 (by decide) ?_
  refine lv_iload hx hb dX7_manyNow_147 (lv_at hl 0 rfl) ?_
  refine lv_iload hx hb dX7_manyNow_149 (lv_at hl 3 rfl) ?_
  refine lv_icmp_ge (tgt := 179) hx hb dX7_manyNow_151 (by decide) (fun c9 => absurd c9 (by decide)) (fun _ => ?_)
  refine lv_aload_n hx hb dX7_manyNow_154 rfl (lv_at hl 4 rfl) ?_
  refine lv_iload hx hb dX7_manyNow_155 (lv_at hl 0 rfl) ?_
  refine rc_zald hx hb hAm hw 1 rfl (vp_in_iff.mpr (by decide)) dX7_manyNow_157 ?_
  refine rc_topi 0 rfl ?_
  refine lv_istore (lv' := [(6, .int 0), (5, .int 11), (2, .int 0), (4, .int 40), (3, .ref h4), (0, .ref h0), (1, .int 7)]) hx hb dX7_manyNow_158 hl (by decide) rfl (fun ls hl => ?_)
  refine lv_iload_n hx hb dX7_manyNow_160 rfl (lv_at hl 2 rfl) ?_
  refine lv_iload hx hb dX7_manyNow_161 (lv_at hl 0 rfl) ?_
  refine lv_if_eq (tgt := 170) hx hb dX7_manyNow_163 (by decide) (fun _ => ?_) (fun c9 => absurd (by decide) c9)
  refine lv_iconst (v := 0) hx hb dX7_manyNow_170 (by decide) ?_
  refine lv_iadd hx hb dX7_manyNow_171 ?_
  refine rc_topi 0 (by decide) ?_
  refine lv_istore_n (lv' := [(2, .int 0), (6, .int 0), (5, .int 11), (4, .int 40), (3, .ref h4), (0, .ref h0), (1, .int 7)]) hx hb dX7_manyNow_172 rfl hl (by decide) rfl (fun ls hl => ?_)
  refine lv_iinc (v := 12) (lv' := [(5, .int 12), (2, .int 0), (6, .int 0), (4, .int 40), (3, .ref h4), (0, .ref h0), (1, .int 7)]) hx hb dX7_manyNow_173 hl (k := 2) rfl (by decide) (by decide) rfl (fun ls hl => ?_)
  refine lv_goto (tgt := 147) hx hb dX7_manyNow_176 (by decide) ?_
  refine lv_iload hx hb dX7_manyNow_147 (lv_at hl 0 rfl) ?_
  refine lv_iload hx hb dX7_manyNow_149 (lv_at hl 3 rfl) ?_
  refine lv_icmp_ge (tgt := 179) hx hb dX7_manyNow_151 (by decide) (fun c9 => absurd c9 (by decide)) (fun _ => ?_)
  refine lv_aload_n hx hb dX7_manyNow_154 rfl (lv_at hl 4 rfl) ?_
  refine lv_iload hx hb dX7_manyNow_155 (lv_at hl 0 rfl) ?_
  refine rc_zald hx hb hAm hw 1 rfl (vp_in_iff.mpr (by decide)) dX7_manyNow_157 ?_
  refine rc_topi 0 rfl ?_
  refine lv_istore (lv' := [(6, .int 0), (5, .int 12), (2, .int 0), (4, .int 40), (3, .ref h4), (0, .ref h0), (1, .int 7)]) hx hb dX7_manyNow_158 hl (by decide) rfl (fun ls hl => ?_)
  refine lv_iload_n hx hb dX7_manyNow_160 rfl (lv_at hl 2 rfl) ?_
  refine lv_iload hx hb dX7_manyNow_161 (lv_at hl 0 rfl) ?_
  refine lv_if_eq (tgt := 170) hx hb dX7_manyNow_163 (by decide) (fun _ => ?_) (fun c9 => absurd (by decide) c9)
  refine lv_iconst (v := 0) hx hb dX7_manyNow_170 (by decide) ?_
  refine lv_iadd hx hb dX7_manyNow_171 ?_
  refine rc_topi 0 (by decide) ?_
  refine lv_istore_n (lv' := [(2, .int 0), (6, .int 0), (5, .int 12), (4, .int 40), (3, .ref h4), (0, .ref h0), (1, .int 7)]) hx hb dX7_manyNow_172 rfl hl (by decide) rfl (fun ls hl => ?_)
  refine lv_iinc (v := 13) (lv' := [(5, .int 13), (2, .int 0), (6, .int 0), (4, .int 40), (3, .ref h4), (0, .ref h0), (1, .int 7)]) hx hb dX7_manyNow_173 hl (k := 2) rfl (by decide) (by decide) rfl (fun ls hl => ?_)
  refine lv_goto (tgt := 147) hx hb dX7_manyNow_176 (by decide) ?_
  refine lv_iload hx hb dX7_manyNow_147 (lv_at hl 0 rfl) ?_
  refine lv_iload hx hb dX7_manyNow_149 (lv_at hl 3 rfl) ?_
  refine lv_icmp_ge (tgt := 179) hx hb dX7_manyNow_151 (by decide) (fun c9 => absurd c9 (by decide)) (fun _ => ?_)
  refine lv_aload_n hx hb dX7_manyNow_154 rfl (lv_at hl 4 rfl) ?_
  refine lv_iload hx hb dX7_manyNow_155 (lv_at hl 0 rfl) ?_
  refine rc_zald hx hb hAm hw 1 rfl (vp_in_iff.mpr (by decide)) dX7_manyNow_157 ?_
  refine rc_topi 0 rfl ?_
  refine lv_istore (lv' := [(6, .int 0), (5, .int 13), (2, .int 0), (4, .int 40), (3, .ref h4), (0, .ref h0), (1, .int 7)]) hx hb dX7_manyNow_158 hl (by decide) rfl (fun ls hl => ?_)
  refine lv_iload_n hx hb dX7_manyNow_160 rfl (lv_at hl 2 rfl) ?_
  refine lv_iload hx hb dX7_manyNow_161 (lv_at hl 0 rfl) ?_
  refine lv_if_eq (tgt := 170) hx hb dX7_manyNow_163 (by decide) (fun _ => ?_) (fun c9 => absurd (by decide) c9)
  refine lv_iconst (v := 0) hx hb dX7_manyNow_170 (by decide) ?_
  refine lv_iadd hx hb dX7_manyNow_171 ?_
  refine rc_topi 0 (by decide) ?_
  refine lv_istore_n (lv' := [(2, .int 0), (6, .int 0), (5, .int 13), (4, .int 40), (3, .ref h4), (0, .ref h0), (1, .int 7)]) hx hb dX7_manyNow_172 rfl hl (by decide) rfl (fun ls hl => ?_)
  refine lv_iinc (v := 14) (lv' := [(5, .int 14), (2, .int 0), (6, .int 0), (4, .int 40), (3, .ref h4), (0, .ref h0), (1, .int 7)]) hx hb dX7_manyNow_173 hl (k := 2) rfl (by decide) (by decide) rfl (fun ls hl => ?_)
  refine lv_goto (tgt := 147) hx hb dX7_manyNow_176 (by decide) ?_
  refine lv_iload hx hb dX7_manyNow_147 (lv_at hl 0 rfl) ?_
  refine lv_iload hx hb dX7_manyNow_149 (lv_at hl 3 rfl) ?_
  refine lv_icmp_ge (tgt := 179) hx hb dX7_manyNow_151 (by decide) (fun c9 => absurd c9 (by decide)) (fun _ => ?_)
  refine lv_aload_n hx hb dX7_manyNow_154 rfl (lv_at hl 4 rfl) ?_
  refine lv_iload hx hb dX7_manyNow_155 (lv_at hl 0 rfl) ?_
  refine rc_zald hx hb hAm hw 1 rfl (vp_in_iff.mpr (by decide)) dX7_manyNow_157 ?_
  refine rc_topi 0 rfl ?_
  refine lv_istore (lv' := [(6, .int 0), (5, .int 14), (2, .int 0), (4, .int 40), (3, .ref h4), (0, .ref h0), (1, .int 7)]) hx hb dX7_manyNow_158 hl (by decide) rfl (fun ls hl => ?_)
  refine lv_iload_n hx hb dX7_manyNow_160 rfl (lv_at hl 2 rfl) ?_
  refine lv_iload hx hb dX7_manyNow_161 (lv_at hl 0 rfl) ?_
  refine lv_if_eq (tgt := 170) hx hb dX7_manyNow_163 (by decide) (fun _ => ?_) (fun c9 => absurd (by decide) c9)
  refine lv_iconst (v := 0) hx hb dX7_manyNow_170 (by decide) ?_
  refine lv_iadd hx hb dX7_manyNow_171 ?_
  refine rc_topi 0 (by decide) ?_
  refine lv_istore_n (lv' := [(2, .int 0), (6, .int 0), (5, .int 14), (4, .int 40), (3, .ref h4), (0, .ref h0), (1, .int 7)]) hx hb dX7_manyNow_172 rfl hl (by decide) rfl (fun ls hl => ?_)
  refine lv_iinc (v := 15) (lv' := [(5, .int 15), (2, .int 0), (6, .int 0), (4, .int 40), (3, .ref h4), (0, .ref h0), (1, .int 7)]) hx hb dX7_manyNow_173 hl (k := 2) rfl (by decide) (by decide) rfl (fun ls hl => ?_)
  refine lv_goto (tgt := 147) hx hb dX7_manyNow_176 (by decide) ?_
  refine lv_iload hx hb dX7_manyNow_147 (lv_at hl 0 rfl) ?_
  refine lv_iload hx hb dX7_manyNow_149 (lv_at hl 3 rfl) ?_
  refine lv_icmp_ge (tgt := 179) hx hb dX7_manyNow_151 (by decide) (fun c9 => absurd c9 (by decide)) (fun _ => ?_)
  refine lv_aload_n hx hb dX7_manyNow_154 rfl (lv_at hl 4 rfl) ?_
  refine lv_iload hx hb dX7_manyNow_155 (lv_at hl 0 rfl) ?_
  refine rc_zald hx hb hAm hw 1 rfl (vp_in_iff.mpr (by decide)) dX7_manyNow_157 ?_
  refine rc_topi 0 rfl ?_
  refine lv_istore (lv' := [(6, .int 0), (5, .int 15), (2, .int 0), (4, .int 40), (3, .ref h4), (0, .ref h0), (1, .int 7)]) hx hb dX7_manyNow_158 hl (by decide) rfl (fun ls hl => ?_)
  refine lv_iload_n hx hb dX7_manyNow_160 rfl (lv_at hl 2 rfl) ?_
  refine lv_iload hx hb dX7_manyNow_161 (lv_at hl 0 rfl) ?_
  refine lv_if_eq (tgt := 170) hx hb dX7_manyNow_163 (by decide) (fun _ => ?_) (fun c9 => absurd (by decide) c9)
  refine lv_iconst (v := 0) hx hb dX7_manyNow_170 (by decide) ?_
  refine lv_iadd hx hb dX7_manyNow_171 ?_
  refine rc_topi 0 (by decide) ?_
  refine lv_istore_n (lv' := [(2, .int 0), (6, .int 0), (5, .int 15), (4, .int 40), (3, .ref h4), (0, .ref h0), (1, .int 7)]) hx hb dX7_manyNow_172 rfl hl (by decide) rfl (fun ls hl => ?_)
  refine lv_iinc (v := 16) (lv' := [(5, .int 16), (2, .int 0), (6, .int 0), (4, .int 40), (3, .ref h4), (0, .ref h0), (1, .int 7)]) hx hb dX7_manyNow_173 hl (k := 2) rfl (by decide) (by decide) rfl (fun ls hl => ?_)
  refine lv_goto (tgt := 147) hx hb dX7_manyNow_176 (by decide) ?_
  refine lv_iload hx hb dX7_manyNow_147 (lv_at hl 0 rfl) ?_
  refine lv_iload hx hb dX7_manyNow_149 (lv_at hl 3 rfl) ?_
  refine lv_icmp_ge (tgt := 179) hx hb dX7_manyNow_151 (by decide) (fun c9 => absurd c9 (by decide)) (fun _ => ?_)
  refine lv_aload_n hx hb dX7_manyNow_154 rfl (lv_at hl 4 rfl) ?_
  refine lv_iload hx hb dX7_manyNow_155 (lv_at hl 0 rfl) ?_
  refine rc_zald hx hb hAm hw 1 rfl (vp_in_iff.mpr (by decide)) dX7_manyNow_157 ?_
  refine rc_topi 0 rfl ?_
  refine lv_istore (lv' := [(6, .int 0), (5, .int 16), (2, .int 0), (4, .int 40), (3, .ref h4), (0, .ref h0), (1, .int 7)]) hx hb dX7_manyNow_158 hl (by decide) rfl (fun ls hl => ?_)
  refine lv_iload_n hx hb dX7_manyNow_160 rfl (lv_at hl 2 rfl) ?_
  refine lv_iload hx hb dX7_manyNow_161 (lv_at hl 0 rfl) ?_
  refine lv_if_eq (tgt := 170) hx hb dX7_manyNow_163 (by decide) (fun _ => ?_) (fun c9 => absurd (by decide) c9)
  refine lv_iconst (v := 0) hx hb dX7_manyNow_170 (by decide) ?_
  refine lv_iadd hx hb dX7_manyNow_171 ?_
  refine rc_topi 0 (by decide) ?_
  refine lv_istore_n (lv' := [(2, .int 0), (6, .int 0), (5, .int 16), (4, .int 40), (3, .ref h4), (0, .ref h0), (1, .int 7)]) hx hb dX7_manyNow_172 rfl hl (by decide) rfl (fun ls hl => ?_)
  refine lv_iinc (v := 17) (lv' := [(5, .int 17), (2, .int 0), (6, .int 0), (4, .int 40), (3, .ref h4), (0, .ref h0), (1, .int 7)]) hx hb dX7_manyNow_173 hl (k := 2) rfl (by decide) (by decide) rfl (fun ls hl => ?_)
  refine lv_goto (tgt := 147) hx hb dX7_manyNow_176 (by decide) ?_
  refine lv_iload hx hb dX7_manyNow_147 (lv_at hl 0 rfl) ?_
  refine lv_iload hx hb dX7_manyNow_149 (lv_at hl 3 rfl) ?_
  refine lv_icmp_ge (tgt := 179) hx hb dX7_manyNow_151 (by decide) (fun c9 => absurd c9 (by decide)) (fun _ => ?_)
  refine lv_aload_n hx hb dX7_manyNow_154 rfl (lv_at hl 4 rfl) ?_
  refine lv_iload hx hb dX7_manyNow_155 (lv_at hl 0 rfl) ?_
  refine rc_zald hx hb hAm hw 1 rfl (vp_in_iff.mpr (by decide)) dX7_manyNow_157 ?_
  refine rc_topi 0 rfl ?_
  refine lv_istore (lv' := [(6, .int 0), (5, .int 17), (2, .int 0), (4, .int 40), (3, .ref h4), (0, .ref h0), (1, .int 7)]) hx hb dX7_manyNow_158 hl (by decide) rfl (fun ls hl => ?_)
  refine lv_iload_n hx hb dX7_manyNow_160 rfl (lv_at hl 2 rfl) ?_
  refine lv_iload hx hb dX7_manyNow_161 (lv_at hl 0 rfl) ?_
  refine lv_if_eq (tgt := 170) hx hb dX7_manyNow_163 (by decide) (fun _ => ?_) (fun c9 => absurd (by decide) c9)
  refine lv_iconst (v := 0) hx hb dX7_manyNow_170 (by decide) ?_
  refine lv_iadd hx hb dX7_manyNow_171 ?_
  refine rc_topi 0 (by decide) ?_
  refine lv_istore_n (lv' := [(2, .int 0), (6, .int 0), (5, .int 17), (4, .int 40), (3, .ref h4), (0, .ref h0), (1, .int 7)]) hx hb dX7_manyNow_172 rfl hl (by decide) rfl (fun ls hl => ?_)
  refine lv_iinc (v := 18) (lv' := [(5, .int 18), (2, .int 0), (6, .int 0), (4, .int 40), (3, .ref h4), (0, .ref h0), (1, .int 7)]) hx hb dX7_manyNow_173 hl (k := 2) rfl (by decide) (by decide) rfl (fun ls hl => ?_)
  refine lv_goto (tgt := 147) hx hb dX7_manyNow_176 (by decide) ?_
  refine lv_iload hx hb dX7_manyNow_147 (lv_at hl 0 rfl) ?_
  refine lv_iload hx hb dX7_manyNow_149 (lv_at hl 3 rfl) ?_
  refine lv_icmp_ge (tgt := 179) hx hb dX7_manyNow_151 (by decide) (fun c9 => absurd c9 (by decide)) (fun _ => ?_)
  refine lv_aload_n hx hb dX7_manyNow_154 rfl (lv_at hl 4 rfl) ?_
  refine lv_iload hx hb dX7_manyNow_155 (lv_at hl 0 rfl) ?_
  refine rc_zald hx hb hAm hw 1 rfl (vp_in_iff.mpr (by decide)) dX7_manyNow_157 ?_
  refine rc_topi 0 rfl ?_
  refine lv_istore (lv' := [(6, .int 0), (5, .int 18), (2, .int 0), (4, .int 40), (3, .ref h4), (0, .ref h0), (1, .int 7)]) hx hb dX7_manyNow_158 hl (by decide) rfl (fun ls hl => ?_)
  refine lv_iload_n hx hb dX7_manyNow_160 rfl (lv_at hl 2 rfl) ?_
  refine lv_iload hx hb dX7_manyNow_161 (lv_at hl 0 rfl) ?_
  refine lv_if_eq (tgt := 170) hx hb dX7_manyNow_163 (by decide) (fun _ => ?_) (fun c9 => absurd (by decide) c9)
  refine lv_iconst (v := 0) hx hb dX7_manyNow_170 (by decide) ?_
  refine lv_iadd hx hb dX7_manyNow_171 ?_
  refine rc_topi 0 (by decide) ?_
  refine lv_istore_n (lv' := [(2, .int 0), (6, .int 0), (5, .int 18), (4, .int 40), (3, .ref h4), (0, .ref h0), (1, .int 7)]) hx hb dX7_manyNow_172 rfl hl (by decide) rfl (fun ls hl => ?_)
  refine lv_iinc (v := 19) (lv' := [(5, .int 19), (2, .int 0), (6, .int 0), (4, .int 40), (3, .ref h4), (0, .ref h0), (1, .int 7)]) hx hb dX7_manyNow_173 hl (k := 2) rfl (by decide) (by decide) rfl (fun ls hl => ?_)
  refine lv_goto (tgt := 147) hx hb dX7_manyNow_176 (by decide) ?_
  refine lv_iload hx hb dX7_manyNow_147 (lv_at hl 0 rfl) ?_
  refine lv_iload hx hb dX7_manyNow_149 (lv_at hl 3 rfl) ?_
  refine lv_icmp_ge (tgt := 179) hx hb dX7_manyNow_151 (by decide) (fun c9 => absurd c9 (by decide)) (fun _ => ?_)
  refine lv_aload_n hx hb dX7_manyNow_154 rfl (lv_at hl 4 rfl) ?_
  refine lv_iload hx hb dX7_manyNow_155 (lv_at hl 0 rfl) ?_
  refine rc_zald hx hb hAm hw 1 rfl (vp_in_iff.mpr (by decide)) dX7_manyNow_157 ?_
  refine rc_topi 0 rfl ?_
  refine lv_istore (lv' := [(6, .int 0), (5, .int 19), (2, .int 0), (4, .int 40), (3, .ref h4), (0, .ref h0), (1, .int 7)]) hx hb dX7_manyNow_158 hl (by decide) rfl (fun ls hl => ?_)
  refine lv_iload_n hx hb dX7_manyNow_160 rfl (lv_at hl 2 rfl) ?_
  refine lv_iload hx hb dX7_manyNow_161 (lv_at hl 0 rfl) ?_
  refine lv_if_eq (tgt := 170) hx hb dX7_manyNow_163 (by decide) (fun _ => ?_) (fun c9 => absurd (by decide) c9)
  refine lv_iconst (v := 0) hx hb dX7_manyNow_170 (by decide) ?_
  refine lv_iadd hx hb dX7_manyNow_171 ?_
  refine rc_topi 0 (by decide) ?_
  refine lv_istore_n (lv' := [(2, .int 0), (6, .int 0), (5, .int 19), (4, .int 40), (3, .ref h4), (0, .ref h0), (1, .int 7)]) hx hb dX7_manyNow_172 rfl hl (by decide) rfl (fun ls hl => ?_)
  refine lv_iinc (v := 20) (lv' := [(5, .int 20), (2, .int 0), (6, .int 0), (4, .int 40), (3, .ref h4), (0, .ref h0), (1, .int 7)]) hx hb dX7_manyNow_173 hl (k := 2) rfl (by decide) (by decide) rfl (fun ls hl => ?_)
  refine lv_goto (tgt := 147) hx hb dX7_manyNow_176 (by decide) ?_
  refine lv_iload hx hb dX7_manyNow_147 (lv_at hl 0 rfl) ?_
  refine lv_iload hx hb dX7_manyNow_149 (lv_at hl 3 rfl) ?_
  refine lv_icmp_ge (tgt := 179) hx hb dX7_manyNow_151 (by decide) (fun c9 => absurd c9 (by decide)) (fun _ => ?_)
  refine lv_aload_n hx hb dX7_manyNow_154 rfl (lv_at hl 4 rfl) ?_
  refine lv_iload hx hb dX7_manyNow_155 (lv_at hl 0 rfl) ?_
  refine rc_zald hx hb hAm hw 1 rfl (vp_in_iff.mpr (by decide)) dX7_manyNow_157 ?_
  refine rc_topi 0 rfl ?_
  refine lv_istore (lv' := [(6, .int 0), (5, .int 20), (2, .int 0), (4, .int 40), (3, .ref h4), (0, .ref h0), (1, .int 7)]) hx hb dX7_manyNow_158 hl (by decide) rfl (fun ls hl => ?_)
  refine lv_iload_n hx hb dX7_manyNow_160 rfl (lv_at hl 2 rfl) ?_
  refine lv_iload hx hb dX7_manyNow_161 (lv_at hl 0 rfl) ?_
  refine lv_if_eq (tgt := 170) hx hb dX7_manyNow_163 (by decide) (fun _ => ?_) (fun c9 => absurd (by decide) c9)
  refine lv_iconst (v := 0) hx hb dX7_manyNow_170 (by decide) ?_
  refine lv_iadd hx hb dX7_manyNow_171 ?_
  refine rc_topi 0 (by decide) ?_
  refine lv_istore_n (lv' := [(2, .int 0), (6, .int 0), (5, .int 20), (4, .int 40), (3, .ref h4), (0, .ref h0), (1, .int 7)]) hx hb dX7_manyNow_172 rfl hl (by decide) rfl (fun ls hl => ?_)
  refine lv_iinc (v := 21) (lv' := [(5, .int 21), (2, .int 0), (6, .int 0), (4, .int 40), (3, .ref h4), (0, .ref h0), (1, .int 7)]) hx hb dX7_manyNow_173 hl (k := 2) rfl (by decide) (by decide) rfl (fun ls hl => ?_)
  refine lv_goto (tgt := 147) hx hb dX7_manyNow_176 (by decide) ?_
  refine lv_iload hx hb dX7_manyNow_147 (lv_at hl 0 rfl) ?_
  refine lv_iload hx hb dX7_manyNow_149 (lv_at hl 3 rfl) ?_
  refine lv_icmp_ge (tgt := 179) hx hb dX7_manyNow_151 (by decide) (fun c9 => absurd c9 (by decide)) (fun _ => ?_)
  refine lv_aload_n hx hb dX7_manyNow_154 rfl (lv_at hl 4 rfl) ?_
  refine lv_iload hx hb dX7_manyNow_155 (lv_at hl 0 rfl) ?_
  refine rc_zald hx hb hAm hw 1 rfl (vp_in_iff.mpr (by decide)) dX7_manyNow_157 ?_
  refine rc_topi 0 rfl ?_
  refine lv_istore (lv' := [(6, .int 0), (5, .int 21), (2, .int 0), (4, .int 40), (3, .ref h4), (0, .ref h0), (1, .int 7)]) hx hb dX7_manyNow_158 hl (by decide) rfl (fun ls hl => ?_)
  refine lv_iload_n hx hb dX7_manyNow_160 rfl (lv_at hl 2 rfl) ?_
  refine lv_iload hx hb dX7_manyNow_161 (lv_at hl 0 rfl) ?_
  refine lv_if_eq (tgt := 170) hx hb dX7_manyNow_163 (by decide) (fun _ => ?_) (fun c9 => absurd (by decide) c9)
  refine lv_iconst (v := 0) hx hb dX7_manyNow_170 (by decide) ?_
  refine lv_iadd hx hb dX7_manyNow_171 ?_
  refine rc_topi 0 (by decide) ?_
  refine lv_istore_n (lv' := [(2, .int 0), (6, .int 0), (5, .int 21), (4, .int 40), (3, .ref h4), (0, .ref h0), (1, .int 7)]) hx hb dX7_manyNow_172 rfl hl (by decide) rfl (fun ls hl => ?_)
  refine lv_iinc (v := 22) (lv' := [(5, .int 22), (2, .int 0), (6, .int 0), (4, .int 40), (3, .ref h4), (0, .ref h0), (1, .int 7)]) hx hb dX7_manyNow_173 hl (k := 2) rfl (by decide) (by decide) rfl (fun ls hl => ?_)
  refine lv_goto (tgt := 147) hx hb dX7_manyNow_176 (by decide) ?_
  refine lv_iload hx hb dX7_manyNow_147 (lv_at hl 0 rfl) ?_
  refine lv_iload hx hb dX7_manyNow_149 (lv_at hl 3 rfl) ?_
  refine lv_icmp_ge (tgt := 179) hx hb dX7_manyNow_151 (by decide) (fun c9 => absurd c9 (by decide)) (fun _ => ?_)
  refine lv_aload_n hx hb dX7_manyNow_154 rfl (lv_at hl 4 rfl) ?_
  refine lv_iload hx hb dX7_manyNow_155 (lv_at hl 0 rfl) ?_
  refine rc_zald hx hb hAm hw 1 rfl (vp_in_iff.mpr (by decide)) dX7_manyNow_157 ?_
  refine rc_topi 0 rfl ?_
  refine lv_istore (lv' := [(6, .int 0), (5, .int 22), (2, .int 0), (4, .int 40), (3, .ref h4), (0, .ref h0), (1, .int 7)]) hx hb dX7_manyNow_158 hl (by decide) rfl (fun ls hl => ?_)
  refine lv_iload_n hx hb dX7_manyNow_160 rfl (lv_at hl 2 rfl) ?_
  refine lv_iload hx hb dX7_manyNow_161 (lv_at hl 0 rfl) ?_
  refine lv_if_eq (tgt := 170) hx hb dX7_manyNow_163 (by decide) (fun _ => ?_) (fun c9 => absurd (by decide) c9)
  refine lv_iconst (v := 0) hx hb dX7_manyNow_170 (by decide) ?_
  refine lv_iadd hx hb dX7_manyNow_171 ?_
  refine rc_topi 0 (by decide) ?_
  refine lv_istore_n (lv' := [(2, .int 0), (6, .int 0), (5, .int 22), (4, .int 40), (3, .ref h4), (0, .ref h0), (1, .int 7)]) hx hb dX7_manyNow_172 rfl hl (by decide) rfl (fun ls hl => ?_)
  refine lv_iinc (v := 23) (lv' := [(5, .int 23), (2, .int 0), (6, .int 0), (4, .int 40), (3, .ref h4), (0, .ref h0), (1, .int 7)]) hx hb dX7_manyNow_173 hl (k := 2) rfl (by decide) (by decide) rfl (fun ls hl => ?_)
  refine lv_goto (tgt := 147) hx hb dX7_manyNow_176 (by decide) ?_
  refine lv_iload hx hb dX7_manyNow_147 (lv_at hl 0 rfl) ?_
  refine lv_iload hx hb dX7_manyNow_149 (lv_at hl 3 rfl) ?_
  refine lv_icmp_ge (tgt := 179) hx hb dX7_manyNow_151 (by decide) (fun c9 => absurd c9 (by decide)) (fun _ => ?_)
  refine lv_aload_n hx hb dX7_manyNow_154 rfl (lv_at hl 4 rfl) ?_
  refine lv_iload hx hb dX7_manyNow_155 (lv_at hl 0 rfl) ?_
  refine rc_zald hx hb hAm hw 1 rfl (vp_in_iff.mpr (by decide)) dX7_manyNow_157 ?_
  refine rc_topi 0 rfl ?_
  refine lv_istore (lv' := [(6, .int 0), (5, .int 23), (2, .int 0), (4, .int 40), (3, .ref h4), (0, .ref h0), (1, .int 7)]) hx hb dX7_manyNow_158 hl (by decide) rfl (fun ls hl => ?_)
  refine lv_iload_n hx hb dX7_manyNow_160 rfl (lv_at hl 2 rfl) ?_
  refine lv_iload hx hb dX7_manyNow_161 (lv_at hl 0 rfl) ?_
  refine lv_if_eq (tgt := 170) hx hb dX7_manyNow_163 (by decide) (fun _ => ?_) (fun c9 => absurd (by decide) c9)
  refine lv_iconst (v := 0) hx hb dX7_manyNow_170 (by decide) ?_
  refine lv_iadd hx hb dX7_manyNow_171 ?_
  refine rc_topi 0 (by decide) ?_
  refine lv_istore_n (lv' := [(2, .int 0), (6, .int 0), (5, .int 23), (4, .int 40), (3, .ref h4), (0, .ref h0), (1, .int 7)]) hx hb dX7_manyNow_172 rfl hl (by decide) rfl (fun ls hl => ?_)
  refine lv_iinc (v := 24) (lv' := [(5, .int 24), (2, .int 0), (6, .int 0), (4, .int 40), (3, .ref h4), (0, .ref h0), (1, .int 7)]) hx hb dX7_manyNow_173 hl (k := 2) rfl (by decide) (by decide) rfl (fun ls hl => ?_)
  refine lv_goto (tgt := 147) hx hb dX7_manyNow_176 (by decide) ?_
  refine lv_iload hx hb dX7_manyNow_147 (lv_at hl 0 rfl) ?_
  refine lv_iload hx hb dX7_manyNow_149 (lv_at hl 3 rfl) ?_
  refine lv_icmp_ge (tgt := 179) hx hb dX7_manyNow_151 (by decide) (fun c9 => absurd c9 (by decide)) (fun _ => ?_)
  refine lv_aload_n hx hb dX7_manyNow_154 rfl (lv_at hl 4 rfl) ?_
  refine lv_iload hx hb dX7_manyNow_155 (lv_at hl 0 rfl) ?_
  refine rc_zald hx hb hAm hw 1 rfl (vp_in_iff.mpr (by decide)) dX7_manyNow_157 ?_
  refine rc_topi 0 rfl ?_
  refine lv_istore (lv' := [(6, .int 0), (5, .int 24), (2, .int 0), (4, .int 40), (3, .ref h4), (0, .ref h0), (1, .int 7)]) hx hb dX7_manyNow_158 hl (by decide) rfl (fun ls hl => ?_)
  refine lv_iload_n hx hb dX7_manyNow_160 rfl (lv_at hl 2 rfl) ?_
  refine lv_iload hx hb dX7_manyNow_161 (lv_at hl 0 rfl) ?_
  refine lv_if_eq (tgt := 170) hx hb dX7_manyNow_163 (by decide) (fun _ => ?_) (fun c9 => absurd (by decide) c9)
  refine lv_iconst (v := 0) hx hb dX7_manyNow_170 (by decide) ?_
  refine lv_iadd hx hb dX7_manyNow_171 ?_
  refine rc_topi 0 (by decide) ?_
  refine lv_istore_n (lv' := [(2, .int 0), (6, .int 0), (5, .int 24), (4, .int 40), (3, .ref h4), (0, .ref h0), (1, .int 7)]) hx hb dX7_manyNow_172 rfl hl (by decide) rfl (fun ls hl => ?_)
  refine lv_iinc (v := 25) (lv' := [(5, .int 25), (2, .int 0), (6, .int 0), (4, .int 40), (3, .ref h4), (0, .ref h0), (1, .int 7)]) hx hb dX7_manyNow_173 hl (k := 2) rfl (by decide) (by decide) rfl (fun ls hl => ?_)
  refine lv_goto (tgt := 147) hx hb dX7_manyNow_176 (by decide) ?_
  refine lv_iload hx hb dX7_manyNow_147 (lv_at hl 0 rfl) ?_
  refine lv_iload hx hb dX7_manyNow_149 (lv_at hl 3 rfl) ?_
  refine lv_icmp_ge (tgt := 179) hx hb dX7_manyNow_151 (by decide) (fun c9 => absurd c9 (by decide)) (fun _ => ?_)
  refine lv_aload_n hx hb dX7_manyNow_154 rfl (lv_at hl 4 rfl) ?_
  refine lv_iload hx hb dX7_manyNow_155 (lv_at hl 0 rfl) ?_
  refine rc_zald hx hb hAm hw 1 rfl (vp_in_iff.mpr (by decide)) dX7_manyNow_157 ?_
  refine rc_topi 0 rfl ?_
  refine lv_istore (lv' := [(6, .int 0), (5, .int 25), (2, .int 0), (4, .int 40), (3, .ref h4), (0, .ref h0), (1, .int 7)]) hx hb dX7_manyNow_158 hl (by decide) rfl (fun ls hl => ?_)
  refine lv_iload_n hx hb dX7_manyNow_160 rfl (lv_at hl 2 rfl) ?_
  refine lv_iload hx hb dX7_manyNow_161 (lv_at hl 0 rfl) ?_
  refine lv_if_eq (tgt := 170) hx hb dX7_manyNow_163 (by decide) (fun _ => ?_) (fun c9 => absurd (by decide) c9)
  refine lv_iconst (v := 0) hx hb dX7_manyNow_170 (by decide) ?_
  refine lv_iadd hx hb dX7_manyNow_171 ?_
  refine rc_topi 0 (by decide) ?_
  refine lv_istore_n (lv' := [(2, .int 0), (6, .int 0), (5, .int 25), (4, .int 40), (3, .ref h4), (0, .ref h0), (1, .int 7)]) hx hb dX7_manyNow_172 rfl hl (by decide) rfl (fun ls hl => ?_)
  refine lv_iinc (v := 26) (lv' := [(5, .int 26), (2, .int 0), (6, .int 0), (4, .int 40), (3, .ref h4), (0, .ref h0), (1, .int 7)]) hx hb dX7_manyNow_173 hl (k := 2) rfl (by decide) (by decide) rfl (fun ls hl => ?_)
  refine lv_goto (tgt := 147) hx hb dX7_manyNow_176 (by decide) ?_
  refine lv_iload hx hb dX7_manyNow_147 (lv_at hl 0 rfl) ?_
  refine lv_iload hx hb dX7_manyNow_149 (lv_at hl 3 rfl) ?_
  refine lv_icmp_ge (tgt := 179) hx hb dX7_manyNow_151 (by decide) (fun c9 => absurd c9 (by decide)) (fun _ => ?_)
  refine lv_aload_n hx hb dX7_manyNow_154 rfl (lv_at hl 4 rfl) ?_
  refine lv_iload hx hb dX7_manyNow_155 (lv_at hl 0 rfl) ?_
  refine rc_zald hx hb hAm hw 1 rfl (vp_in_iff.mpr (by decide)) dX7_manyNow_157 ?_
  refine rc_topi 0 rfl ?_
  refine lv_istore (lv' := [(6, .int 0), (5, .int 26), (2, .int 0), (4, .int 40), (3, .ref h4), (0, .ref h0), (1, .int 7)]) hx hb dX7_manyNow_158 hl (by decide) rfl (fun ls hl => ?_)
  refine lv_iload_n hx hb dX7_manyNow_160 rfl (lv_at hl 2 rfl) ?_
  refine lv_iload hx hb dX7_manyNow_161 (lv_at hl 0 rfl) ?_
  refine lv_if_eq (tgt := 170) hx hb dX7_manyNow_163 (by decide) (fun _ => ?_) (fun c9 => absurd (by decide) c9)
  refine lv_iconst (v := 0) hx hb dX7_manyNow_170 (by decide) ?_
  refine lv_iadd hx hb dX7_manyNow_171 ?_
  refine rc_topi 0 (by decide) ?_
  refine lv_istore_n (lv' := [(2, .int 0), (6, .int 0), (5, .int 26), (4, .int 40), (3, .ref h4), (0, .ref h0), (1, .int 7)]) hx hb dX7_manyNow_172 rfl hl (by decide) rfl (fun ls hl => ?_)
  refine lv_iinc (v := 27) (lv' := [(5, .int 27), (2, .int 0), (6, .int 0), (4, .int 40), (3, .ref h4), (0, .ref h0), (1, .int 7)]) hx hb dX7_manyNow_173 hl (k := 2) rfl (by decide) (by decide) rfl (fun ls hl => ?_)
  refine lv_goto (tgt := 147) hx hb dX7_manyNow_176 (by decide) ?_
  refine lv_iload hx hb dX7_manyNow_147 (lv_at hl 0 rfl) ?_
  refine lv_iload hx hb dX7_manyNow_149 (lv_at hl 3 rfl) ?_
  refine lv_icmp_ge (tgt := 179) hx hb dX7_manyNow_151 (by decide) (fun c9 => absurd c9 (by decide)) (fun _ => ?_)
  refine lv_aload_n hx hb dX7_manyNow_154 rfl (lv_at hl 4 rfl) ?_
  refine lv_iload hx hb dX7_manyNow_155 (lv_at hl 0 rfl) ?_
  refine rc_zald hx hb hAm hw 1 rfl (vp_in_iff.mpr (by decide)) dX7_manyNow_157 ?_
  refine rc_topi 0 rfl ?_
  refine lv_istore (lv' := [(6, .int 0), (5, .int 27), (2, .int 0), (4, .int 40), (3, .ref h4), (0, .ref h0), (1, .int 7)]) hx hb dX7_manyNow_158 hl (by decide) rfl (fun ls hl => ?_)
  refine lv_iload_n hx hb dX7_manyNow_160 rfl (lv_at hl 2 rfl) ?_
  refine lv_iload hx hb dX7_manyNow_161 (lv_at hl 0 rfl) ?_
  refine lv_if_eq (tgt := 170) hx hb dX7_manyNow_163 (by decide) (fun _ => ?_) (fun c9 => absurd (by decide) c9)
  refine lv_iconst (v := 0) hx hb dX7_manyNow_170 (by decide) ?_
  refine lv_iadd hx hb dX7_manyNow_171 ?_
  refine rc_topi 0 (by decide) ?_
  refine lv_istore_n (lv' := [(2, .int 0), (6, .int 0), (5, .int 27), (4, .int 40), (3, .ref h4), (0, .ref h0), (1, .int 7)]) hx hb dX7_manyNow_172 rfl hl (by decide) rfl (fun ls hl => ?_)
  refine lv_iinc (v := 28) (lv' := [(5, .int 28), (2, .int 0), (6, .int 0), (4, .int 40), (3, .ref h4), (0, .ref h0), (1, .int 7)]) hx hb dX7_manyNow_173 hl (k := 2) rfl (by decide) (by decide) rfl (fun ls hl => ?_)
  refine lv_goto (tgt := 147) hx hb dX7_manyNow_176 (by decide) ?_
  refine lv_iload hx hb dX7_manyNow_147 (lv_at hl 0 rfl) ?_
  refine lv_iload hx hb dX7_manyNow_149 (lv_at hl 3 rfl) ?_
  refine lv_icmp_ge (tgt := 179) hx hb dX7_manyNow_151 (by decide) (fun c9 => absurd c9 (by decide)) (fun _ => ?_)
  refine lv_aload_n hx hb dX7_manyNow_154 rfl (lv_at hl 4 rfl) ?_
  refine lv_iload hx hb dX7_manyNow_155 (lv_at hl 0 rfl) ?_
  refine rc_zald hx hb hAm hw 1 rfl (vp_in_iff.mpr (by decide)) dX7_manyNow_157 ?_
  refine rc_topi 0 rfl ?_
  refine lv_istore (lv' := [(6, .int 0), (5, .int 28), (2, .int 0), (4, .int 40), (3, .ref h4), (0, .ref h0), (1, .int 7)]) hx hb dX7_manyNow_158 hl (by decide) rfl (fun ls hl => ?_)
  refine lv_iload_n hx hb dX7_manyNow_160 rfl (lv_at hl 2 rfl) ?_
  refine lv_iload hx hb dX7_manyNow_161 (lv_at hl 0 rfl) ?_
  refine lv_if_eq (tgt := 170) hx hb dX7_manyNow_163 (by decide) (fun _ => ?_) (fun c9 => absurd (by decide) c9)
  refine lv_iconst (v := 0) hx hb dX7_manyNow_170 (by decide) ?_
  refine lv_iadd hx hb dX7_manyNow_171 ?_
  refine rc_topi 0 (by decide) ?_
  refine lv_istore_n (lv' := [(2, .int 0), (6, .int 0), (5, .int 28), (4, .int 40), (3, .ref h4), (0, .ref h0), (1, .int 7)]) hx hb dX7_manyNow_172 rfl hl (by decide) rfl (fun ls hl => ?_)
  refine lv_iinc (v := 29) (lv' := [(5, .int 29), (2, .int 0), (6, .int 0), (4, .int 40), (3, .ref h4), (0, .ref h0), (1, .int 7)]) hx hb dX7_manyNow_173 hl (k := 2) rfl (by decide) (by decide) rfl (fun ls hl => ?_)
  refine lv_goto (tgt := 147) hx hb dX7_manyNow_176 (by decide) ?_
  refine lv_iload hx hb dX7_manyNow_147 (lv_at hl 0 rfl) ?_
  refine lv_iload hx hb dX7_manyNow_149 (lv_at hl 3 rfl) ?_
  refine lv_icmp_ge (tgt := 179) hx hb dX7_manyNow_151 (by decide) (fun c9 => absurd c9 (by decide)) (fun _ => ?_)
  refine lv_aload_n hx hb dX7_manyNow_154 rfl (lv_at hl 4 rfl) ?_
  refine lv_iload hx hb dX7_manyNow_155 (lv_at hl 0 rfl) ?_
  refine rc_zald hx hb hAm hw 1 rfl (vp_in_iff.mpr (by decide)) dX7_manyNow_157 ?_
  refine rc_topi 0 rfl ?_
  refine lv_istore (lv' := [(6, .int 0), (5, .int 29), (2, .int 0), (4, .int 40), (3, .ref h4), (0, .ref h0), (1, .int 7)]) hx hb dX7_manyNow_158 hl (by decide) rfl (fun ls hl => ?_)
  refine lv_iload_n hx hb dX7_manyNow_160 rfl (lv_at hl 2 rfl) ?_
  refine lv_iload hx hb dX7_manyNow_161 (lv_at hl 0 rfl) ?_
  refine lv_if_eq (tgt := 170) hx hb dX7_manyNow_163 (by decide) (fun _ => ?_) (fun c9 => absurd (by decide) c9)
  refine lv_iconst (v := 0) hx hb dX7_manyNow_170 (by decide) ?_
  refine lv_iadd hx hb dX7_manyNow_171 ?_
  refine rc_topi 0 (by decide) ?_
  refine lv_istore_n (lv' := [(2, .int 0), (6, .int 0), (5, .int 29), (4, .int 40), (3, .ref h4), (0, .ref h0), (1, .int 7)]) hx hb dX7_manyNow_172 rfl hl (by decide) rfl (fun ls hl => ?_)
  refine lv_iinc (v := 30) (lv' := [(5, .int 30), (2, .int 0), (6, .int 0), (4, .int 40), (3, .ref h4), (0, .ref h0), (1, .int 7)]) hx hb dX7_manyNow_173 hl (k := 2) rfl (by decide) (by decide) rfl (fun ls hl => ?_)
  refine lv_goto (tgt := 147) hx hb dX7_manyNow_176 (by decide) ?_
  refine lv_iload hx hb dX7_manyNow_147 (lv_at hl 0 rfl) ?_
  refine lv_iload hx hb dX7_manyNow_149 (lv_at hl 3 rfl) ?_
  refine lv_icmp_ge (tgt := 179) hx hb dX7_manyNow_151 (by decide) (fun c9 => absurd c9 (by decide)) (fun _ => ?_)
  refine lv_aload_n hx hb dX7_manyNow_154 rfl (lv_at hl 4 rfl) ?_
  refine lv_iload hx hb dX7_manyNow_155 (lv_at hl 0 rfl) ?_
  refine rc_zald hx hb hAm hw 1 rfl (vp_in_iff.mpr (by decide)) dX7_manyNow_157 ?_
  refine rc_topi 0 rfl ?_
  refine lv_istore (lv' := [(6, .int 0), (5, .int 30), (2, .int 0), (4, .int 40), (3, .ref h4), (0, .ref h0), (1, .int 7)]) hx hb dX7_manyNow_158 hl (by decide) rfl (fun ls hl => ?_)
  refine lv_iload_n hx hb dX7_manyNow_160 rfl (lv_at hl 2 rfl) ?_
  refine lv_iload hx hb dX7_manyNow_161 (lv_at hl 0 rfl) ?_
  refine lv_if_eq (tgt := 170) hx hb dX7_manyNow_163 (by decide) (fun _ => ?_) (fun c9 => absurd (by decide) c9)
  refine lv_iconst (v := 0) hx hb dX7_manyNow_170 (by decide) ?_
  refine lv_iadd hx hb dX7_manyNow_171 ?_
  refine rc_topi 0 (by decide) ?_
  refine lv_istore_n (lv' := [(2, .int 0), (6, .int 0), (5, .int 30), (4, .int 40), (3, .ref h4), (0, .ref h0), (1, .int 7)]) hx hb dX7_manyNow_172 rfl hl (by decide) rfl (fun ls hl => ?_)
  refine lv_iinc (v := 31) (lv' := [(5, .int 31), (2, .int 0), (6, .int 0), (4, .int 40), (3, .ref h4), (0, .ref h0), (1, .int 7)]) hx hb dX7_manyNow_173 hl (k := 2) rfl (by decide) (by decide) rfl (fun ls hl => ?_)
  refine lv_goto (tgt := 147) hx hb dX7_manyNow_176 (by decide) ?_
  refine lv_iload hx hb dX7_manyNow_147 (lv_at hl 0 rfl) ?_
  refine lv_iload hx hb dX7_manyNow_149 (lv_at hl 3 rfl) ?_
  refine lv_icmp_ge (tgt := 179) hx hb dX7_manyNow_151 (by decide) (fun c9 => absurd c9 (by decide)) (fun _ => ?_)
  refine lv_aload_n hx hb dX7_manyNow_154 rfl (lv_at hl 4 rfl) ?_
  refine lv_iload hx hb dX7_manyNow_155 (lv_at hl 0 rfl) ?_
  refine rc_zald hx hb hAm hw 1 rfl (vp_in_iff.mpr (by decide)) dX7_manyNow_157 ?_
  refine rc_topi 0 rfl ?_
  refine lv_istore (lv' := [(6, .int 0), (5, .int 31), (2, .int 0), (4, .int 40), (3, .ref h4), (0, .ref h0), (1, .int 7)]) hx hb dX7_manyNow_158 hl (by decide) rfl (fun ls hl => ?_)
  refine lv_iload_n hx hb dX7_manyNow_160 rfl (lv_at hl 2 rfl) ?_
  refine lv_iload hx hb dX7_manyNow_161 (lv_at hl 0 rfl) ?_
  refine lv_if_eq (tgt := 170) hx hb dX7_manyNow_163 (by decide) (fun _ => ?_) (fun c9 => absurd (by decide) c9)
  refine lv_iconst (v := 0) hx hb dX7_manyNow_170 (by decide) ?_
  refine lv_iadd hx hb dX7_manyNow_171 ?_
  refine rc_topi 0 (by decide) ?_
  refine lv_istore_n (lv' := [(2, .int 0), (6, .int 0), (5, .int 31), (4, .int 40), (3, .ref h4), (0, .ref h0), (1, .int 7)]) hx hb dX7_manyNow_172 rfl hl (by decide) rfl (fun ls hl => ?_)
  refine lv_iinc (v := 32) (lv' := [(5, .int 32), (2, .int 0), (6, .int 0), (4, .int 40), (3, .ref h4), (0, .ref h0), (1, .int 7)]) hx hb dX7_manyNow_173 hl (k := 2) rfl (by decide) (by decide) rfl (fun ls hl => ?_)
  refine lv_goto (tgt := 147) hx hb dX7_manyNow_176 (by decide) ?_
  refine lv_iload hx hb dX7_manyNow_147 (lv_at hl 0 rfl) ?_
  refine lv_iload hx hb dX7_manyNow_149 (lv_at hl 3 rfl) ?_
  refine lv_icmp_ge (tgt := 179) hx hb dX7_manyNow_151 (by decide) (fun c9 => absurd c9 (by decide)) (fun _ => ?_)
  refine lv_aload_n hx hb dX7_manyNow_154 rfl (lv_at hl 4 rfl) ?_
  refine lv_iload hx hb dX7_manyNow_155 (lv_at hl 0 rfl) ?_
  refine rc_zald hx hb hAm hw 1 rfl (vp_in_iff.mpr (by decide)) dX7_manyNow_157 ?_
  refine rc_topi 0 rfl ?_
  refine lv_istore (lv' := [(6, .int 0), (5, .int 32), (2, .int 0), (4, .int 40), (3, .ref h4), (0, .ref h0), (1, .int 7)]) hx hb dX7_manyNow_158 hl (by decide) rfl (fun ls hl => ?_)
  refine lv_iload_n hx hb dX7_manyNow_160 rfl (lv_at hl 2 rfl) ?_
  refine lv_iload hx hb dX7_manyNow_161 (lv_at hl 0 rfl) ?_
  refine lv_if_eq (tgt := 170) hx hb dX7_manyNow_163 (by decide) (fun _ => ?_) (fun c9 => absurd (by decide) c9)
  refine lv_iconst (v := 0) hx hb dX7_manyNow_170 (by decide) ?_
  refine lv_iadd hx hb dX7_manyNow_171 ?_
  refine rc_topi 0 (by decide) ?_
  refine lv_istore_n (lv' := [(2, .int 0), (6, .int 0), (5, .int 32), (4, .int 40), (3, .ref h4), (0, .ref h0), (1, .int 7)]) hx hb dX7_manyNow_172 rfl hl (by decide) rfl (fun ls hl => ?_)
  refine lv_iinc (v := 33) (lv' := [(5, .int 33), (2, .int 0), (6, .int 0), (4, .int 40), (3, .ref h4), (0, .ref h0), (1, .int 7)]) hx hb dX7_manyNow_173 hl (k := 2) rfl (by decide) (by decide) rfl (fun ls hl => ?_)
  refine lv_goto (tgt := 147) hx hb dX7_manyNow_176 (by decide) ?_
  refine lv_iload hx hb dX7_manyNow_147 (lv_at hl 0 rfl) ?_
  refine lv_iload hx hb dX7_manyNow_149 (lv_at hl 3 rfl) ?_
  refine lv_icmp_ge (tgt := 179) hx hb dX7_manyNow_151 (by decide) (fun c9 => absurd c9 (by decide)) (fun _ => ?_)
  refine lv_aload_n hx hb dX7_manyNow_154 rfl (lv_at hl 4 rfl) ?_
  refine lv_iload hx hb dX7_manyNow_155 (lv_at hl 0 rfl) ?_
  refine rc_zald hx hb hAm hw 1 rfl (vp_in_iff.mpr (by decide)) dX7_manyNow_157 ?_
  refine rc_topi 0 rfl ?_
  refine lv_istore (lv' := [(6, .int 0), (5, .int 33), (2, .int 0), (4, .int 40), (3, .ref h4), (0, .ref h0), (1, .int 7)]) hx hb dX7_manyNow_158 hl (by decide) rfl (fun ls hl => ?_)
  refine lv_iload_n hx hb dX7_manyNow_160 rfl (lv_at hl 2 rfl) ?_
  refine lv_iload hx hb dX7_manyNow_161 (lv_at hl 0 rfl) ?_
  refine lv_if_eq (tgt := 170) hx hb dX7_manyNow_163 (by decide) (fun _ => ?_) (fun c9 => absurd (by decide) c9)
  refine lv_iconst (v := 0) hx hb dX7_manyNow_170 (by decide) ?_
  refine lv_iadd hx hb dX7_manyNow_171 ?_
  refine rc_topi 0 (by decide) ?_
  refine lv_istore_n (lv' := [(2, .int 0), (6, .int 0), (5, .int 33), (4, .int 40), (3, .ref h4), (0, .ref h0), (1, .int 7)]) hx hb dX7_manyNow_172 rfl hl (by decide) rfl (fun ls hl => ?_)
  refine lv_iinc (v := 34) (lv' := [(5, .int 34), (2, .int 0), (6, .int 0), (4, .int 40), (3, .ref h4), (0, .ref h0), (1, .int 7)]) hx hb dX7_manyNow_173 hl (k := 2) rfl (by decide) (by decide) rfl (fun ls hl => ?_)
  refine lv_goto (tgt := 147) hx hb dX7_manyNow_176 (by decide) ?_
  refine lv_iload hx hb dX7_manyNow_147 (lv_at hl 0 rfl) ?_
  refine lv_iload hx hb dX7_manyNow_149 (lv_at hl 3 rfl) ?_
  refine lv_icmp_ge (tgt := 179) hx hb dX7_manyNow_151 (by decide) (fun c9 => absurd c9 (by decide)) (fun _ => ?_)
  refine lv_aload_n hx hb dX7_manyNow_154 rfl (lv_at hl 4 rfl) ?_
  refine lv_iload hx hb dX7_manyNow_155 (lv_at hl 0 rfl) ?_
  refine rc_zald hx hb hAm hw 1 rfl (vp_in_iff.mpr (by decide)) dX7_manyNow_157 ?_
  refine rc_topi 0 rfl ?_
  refine lv_istore (lv' := [(6, .int 0), (5, .int 34), (2, .int 0), (4, .int 40), (3, .ref h4), (0, .ref h0), (1, .int 7)]) hx hb dX7_manyNow_158 hl (by decide) rfl (fun ls hl => ?_)
  refine lv_iload_n hx hb dX7_manyNow_160 rfl (lv_at hl 2 rfl) ?_
  refine lv_iload hx hb dX7_manyNow_161 (lv_at hl 0 rfl) ?_
  refine lv_if_eq (tgt := 170) hx hb dX7_manyNow_163 (by decide) (fun _ => ?_) (fun c9 => absurd (by decide) c9)
  refine lv_iconst (v := 0) hx hb dX7_manyNow_170 (by decide) ?_
  refine lv_iadd hx hb dX7_manyNow_171 ?_
  refine rc_topi 0 (by decide) ?_
  refine lv_istore_n (lv' := [(2, .int 0), (6, .int 0), (5, .int 34), (4, .int 40), (3, .ref h4), (0, .ref h0), (1, .int 7)]) hx hb dX7_manyNow_172 rfl hl (by decide) rfl (fun ls hl => ?_)
  refine lv_iinc (v := 35) (lv' := [(5, .int 35), (2, .int 0), (6, .int 0), (4, .int 40), (3, .ref h4), (0, .ref h0), (1, .int 7)]) hx hb dX7_manyNow_173 hl (k := 2) rfl (by decide) (by decide) rfl (fun ls hl => ?_)
  refine lv_goto (tgt := 147) hx hb dX7_manyNow_176 (by decide) ?_
  refine lv_iload hx hb dX7_manyNow_147 (lv_at hl 0 rfl) ?_
  refine lv_iload hx hb dX7_manyNow_149 (lv_at hl 3 rfl) ?_
  refine lv_icmp_ge (tgt := 179) hx hb dX7_manyNow_151 (by decide) (fun c9 => absurd c9 (by decide)) (fun _ => ?_)
  refine lv_aload_n hx hb dX7_manyNow_154 rfl (lv_at hl 4 rfl) ?_
  refine lv_iload hx hb dX7_manyNow_155 (lv_at hl 0 rfl) ?_
  refine rc_zald hx hb hAm hw 1 rfl (vp_in_iff.mpr (by decide)) dX7_manyNow_157 ?_
  refine rc_topi 0 rfl ?_
  refine lv_istore (lv' := [(6, .int 0), (5, .int 35), (2, .int 0), (4, .int 40), (3, .ref h4), (0, .ref h0), (1, .int 7)]) hx hb dX7_manyNow_158 hl (by decide) rfl (fun ls hl => ?_)
  refine lv_iload_n hx hb dX7_manyNow_160 rfl (lv_at hl 2 rfl) ?_
  refine lv_iload hx hb dX7_manyNow_161 (lv_at hl 0 rfl) ?_
  refine lv_if_eq (tgt := 170) hx hb dX7_manyNow_163 (by decide) (fun _ => ?_) (fun c9 => absurd (by decide) c9)
  refine lv_iconst (v := 0) hx hb dX7_manyNow_170 (by decide) ?_
  refine lv_iadd hx hb dX7_manyNow_171 ?_
  refine rc_topi 0 (by decide) ?_
  refine lv_istore_n (lv' := [(2, .int 0), (6, .int 0), (5, .int 35), (4, .int 40), (3, .ref h4), (0, .ref h0), (1, .int 7)]) hx hb dX7_manyNow_172 rfl hl (by decide) rfl (fun ls hl => ?_)
  refine lv_iinc (v := 36) (lv' := [(5, .int 36), (2, .int 0), (6, .int 0), (4, .int 40), (3, .ref h4), (0, .ref h0), (1, .int 7)]) hx hb dX7_manyNow_173 hl (k := 2) rfl (by decide) (by decide) rfl (fun ls hl => ?_)
  refine lv_goto (tgt := 147) hx hb dX7_manyNow_176 (by decide) ?_
  refine lv_iload hx hb dX7_manyNow_147 (lv_at hl 0 rfl) ?_
  refine lv_iload hx hb dX7_manyNow_149 (lv_at hl 3 rfl) ?_
  refine lv_icmp_ge (tgt := 179) hx hb dX7_manyNow_151 (by decide) (fun c9 => absurd c9 (by decide)) (fun _ => ?_)
  refine lv_aload_n hx hb dX7_manyNow_154 rfl (lv_at hl 4 rfl) ?_
  refine lv_iload hx hb dX7_manyNow_155 (lv_at hl 0 rfl) ?_
  refine rc_zald hx hb hAm hw 1 rfl (vp_in_iff.mpr (by decide)) dX7_manyNow_157 ?_
  refine rc_topi 0 rfl ?_
  refine lv_istore (lv' := [(6, .int 0), (5, .int 36), (2, .int 0), (4, .int 40), (3, .ref h4), (0, .ref h0), (1, .int 7)]) hx hb dX7_manyNow_158 hl (by decide) rfl (fun ls hl => ?_)
  refine lv_iload_n hx hb dX7_manyNow_160 rfl (lv_at hl 2 rfl) ?_
  refine lv_iload hx hb dX7_manyNow_161 (lv_at hl 0 rfl) ?_
  refine lv_if_eq (tgt := 170) hx hb dX7_manyNow_163 (by decide) (fun _ => ?_) (fun c9 => absurd (by decide) c9)
  refine lv_iconst (v := 0) hx hb dX7_manyNow_170 (by decide) ?_
  refine lv_iadd hx hb dX7_manyNow_171 ?_
  refine rc_topi 0 (by decide) ?_
  refine lv_istore_n (lv' := [(2, .int 0), (6, .int 0), (5, .int 36), (4, .int 40), (3, .ref h4), (0, .ref h0), (1, .int 7)]) hx hb dX7_manyNow_172 rfl hl (by decide) rfl (fun ls hl => ?_)
  refine lv_iinc (v := 37) (lv' := [(5, .int 37), (2, .int 0), (6, .int 0), (4, .int 40), (3, .ref h4), (0, .ref h0), (1, .int 7)]) hx hb dX7_manyNow_173 hl (k := 2) rfl (by decide) (by decide) rfl (fun ls hl => ?_)
  refine lv_goto (tgt := 147) hx hb dX7_manyNow_176 (by decide) ?_
  refine lv_iload hx hb dX7_manyNow_147 (lv_at hl 0 rfl) ?_
  refine lv_iload hx hb dX7_manyNow_149 (lv_at hl 3 rfl) ?_
  refine lv_icmp_ge (tgt := 179) hx hb dX7_manyNow_151 (by decide) (fun c9 => absurd c9 (by decide)) (fun _ => ?_)
  refine lv_aload_n hx hb dX7_manyNow_154 rfl (lv_at hl 4 rfl) ?_
  refine lv_iload hx hb dX7_manyNow_155 (lv_at hl 0 rfl) ?_
  refine rc_zald hx hb hAm hw 1 rfl (vp_in_iff.mpr (by decide)) dX7_manyNow_157 ?_
  refine rc_topi 0 rfl ?_
  refine lv_istore (lv' := [(6, .int 0), (5, .int 37), (2, .int 0), (4, .int 40), (3, .ref h4), (0, .ref h0), (1, .int 7)]) hx hb dX7_manyNow_158 hl (by decide) rfl (fun ls hl => ?_)
  refine lv_iload_n hx hb dX7_manyNow_160 rfl (lv_at hl 2 rfl) ?_
  refine lv_iload hx hb dX7_manyNow_161 (lv_at hl 0 rfl) ?_
  refine lv_if_eq (tgt := 170) hx hb dX7_manyNow_163 (by decide) (fun _ => ?_) (fun c9 => absurd (by decide) c9)
  refine lv_iconst (v := 0) hx hb dX7_manyNow_170 (by decide) ?_
  refine lv_iadd hx hb dX7_manyNow_171 ?_
  refine rc_topi 0 (by decide) ?_
  refine lv_istore_n (lv' := [(2, .int 0), (6, .int 0), (5, .int 37), (4, .int 40), (3, .ref h4), (0, .ref h0), (1, .int 7)]) hx hb dX7_manyNow_172 rfl hl (by decide) rfl (fun ls hl => ?_)
  refine lv_iinc (v := 38) (lv' := [(5, .int 38), (2, .int 0), (6, .int 0), (4, .int 40), (3, .ref h4), (0, .ref h0), (1, .int 7)]) hx hb dX7_manyNow_173 hl (k := 2) rfl (by decide) (by decide) rfl (fun ls hl => ?_)
  refine lv_goto (tgt := 147) hx hb dX7_manyNow_176 (by decide) ?_
  refine lv_iload hx hb dX7_manyNow_147 (lv_at hl 0 rfl) ?_
  refine lv_iload hx hb dX7_manyNow_149 (lv_at hl 3 rfl) ?_
  refine lv_icmp_ge (tgt := 179) hx hb dX7_manyNow_151 (by decide) (fun c9 => absurd c9 (by decide)) (fun _ => ?_)
  refine lv_aload_n hx hb dX7_manyNow_154 rfl (lv_at hl 4 rfl) ?_
  refine lv_iload hx hb dX7_manyNow_155 (lv_at hl 0 rfl) ?_
  refine rc_zald hx hb hAm hw 1 rfl (vp_in_iff.mpr (by decide)) dX7_manyNow_157 ?_
  refine rc_topi 0 rfl ?_
  refine lv_istore (lv' := [(6, .int 0), (5, .int 38), (2, .int 0), (4, .int 40), (3, .ref h4), (0, .ref h0), (1, .int 7)]) hx hb dX7_manyNow_158 hl (by decide) rfl (fun ls hl => ?_)
  refine lv_iload_n hx hb dX7_manyNow_160 rfl (lv_at hl 2 rfl) ?_
  refine lv_iload hx hb dX7_manyNow_161 (lv_at hl 0 rfl) ?_
  refine lv_if_eq (tgt := 170) hx hb dX7_manyNow_163 (by decide) (fun _ => ?_) (fun c9 => absurd (by decide) c9)
  refine lv_iconst (v := 0) hx hb dX7_manyNow_170 (by decide) ?_
  refine lv_iadd hx hb dX7_manyNow_171 ?_
  refine rc_topi 0 (by decide) ?_
  refine lv_istore_n (lv' := [(2, .int 0), (6, .int 0), (5, .int 38), (4, .int 40), (3, .ref h4), (0, .ref h0), (1, .int 7)]) hx hb dX7_manyNow_172 rfl hl (by decide) rfl (fun ls hl => ?_)
  refine lv_iinc (v := 39) (lv' := [(5, .int 39), (2, .int 0), (6, .int 0), (4, .int 40), (3, .ref h4), (0, .ref h0), (1, .int 7)]) hx hb dX7_manyNow_173 hl (k := 2) rfl (by decide) (by decide) rfl (fun ls hl => ?_)
  refine lv_goto (tgt := 147) hx hb dX7_manyNow_176 (by decide) ?_
  refine lv_iload hx hb dX7_manyNow_147 (lv_at hl 0 rfl) ?_
  refine lv_iload hx hb dX7_manyNow_149 (lv_at hl 3 rfl) ?_
  refine lv_icmp_ge (tgt := 179) hx hb dX7_manyNow_151 (by decide) (fun c9 => absurd c9 (by decide)) (fun _ => ?_)
  refine lv_aload_n hx hb dX7_manyNow_154 rfl (lv_at hl 4 rfl) ?_
  refine lv_iload hx hb dX7_manyNow_155 (lv_at hl 0 rfl) ?_
  refine rc_zald hx hb hAm hw 1 rfl (vp_in_iff.mpr (by decide)) dX7_manyNow_157 ?_
  refine rc_topi 0 rfl ?_
  refine lv_istore (lv' := [(6, .int 0), (5, .int 39), (2, .int 0), (4, .int 40), (3, .ref h4), (0, .ref h0), (1, .int 7)]) hx hb dX7_manyNow_158 hl (by decide) rfl (fun ls hl => ?_)
  refine lv_iload_n hx hb dX7_manyNow_160 rfl (lv_at hl 2 rfl) ?_
  refine lv_iload hx hb dX7_manyNow_161 (lv_at hl 0 rfl) ?_
  refine lv_if_eq (tgt := 170) hx hb dX7_manyNow_163 (by decide) (fun _ => ?_) (fun c9 => absurd (by decide) c9)
  refine lv_iconst (v := 0) hx hb dX7_manyNow_170 (by decide) ?_
  refine lv_iadd hx hb dX7_manyNow_171 ?_
  refine rc_topi 0 (by decide) ?_
  refine lv_istore_n (lv' := [(2, .int 0), (6, .int 0), (5, .int 39), (4, .int 40), (3, .ref h4), (0, .ref h0), (1, .int 7)]) hx hb dX7_manyNow_172 rfl hl (by decide) rfl (fun ls hl => ?_)
  refine lv_iinc (v := 40) (lv' := [(5, .int 40), (2, .int 0), (6, .int 0), (4, .int 40), (3, .ref h4), (0, .ref h0), (1, .int 7)]) hx hb dX7_manyNow_173 hl (k := 2) rfl (by decide) (by decide) rfl (fun ls hl => ?_)
  refine lv_goto (tgt := 147) hx hb dX7_manyNow_176 (by decide) ?_
  refine lv_iload hx hb dX7_manyNow_147 (lv_at hl 0 rfl) ?_
  refine lv_iload hx hb dX7_manyNow_149 (lv_at hl 3 rfl) ?_
  refine lv_icmp_ge (tgt := 179) hx hb dX7_manyNow_151 (by decide) (fun _ => ?_) (fun c9 => absurd (by decide) c9)
  refine lv_iload_n hx hb dX7_manyNow_179 rfl (lv_at hl 1 rfl) ?_
  exact rc_iret (v := 0) hx hb hr hlocks hw [(h0, .inr (12, [.int 0, .ref h1, .ref h2, .ref h3, .ref h4, .ref h5, .int 1, .int 3, .int 50, .int (-1), .int (-1), .int (-1), .int (-1), .int 0, .int 100, .int 1000, .long 158197560731501])), (h4, .inl (E.2.1 3, 40, .inl (fun _ => 0)))] (⟨rfl, rfl⟩) [0, 1] rfl (by decide) (Nat.le_of_ble_eq_true rfl) (Nat.le_of_ble_eq_true rfl) dX7_manyNow_180
set_option maxHeartbeats 4000000 in
set_option maxRecDepth 100000 in
theorem cw_X7_add_8 (l : Launch) (E : rc_E) (sz : Nat) (h0 : Nat) (h1 : Nat) (h2 : Nat) (h3 : Nat) (h4 : Nat) (h5 : Nat) : rc_Mv l yX7_add [Cond.code yX7_add cX7_add 2 (none : Option FieldType)] { frames := 0, cells := 0, slots := 0, locals := 0 } E [.ref h0, .int 0] [(h0, .inr (12, [.int 0, .ref h1, .ref h2, .ref h3, .ref h4, .ref h5, .int 1, .int 3, .int 50, .int (-1), .int (-1), .int (-1), .int (-1), .int 0, .int 100, .int 1000, .long 158197560731501]))] sz (S := va_W) (fun (u : va_W) => (u = [(h0, .inr (12, [.int 0, .ref h1, .ref h2, .ref h3, .ref h4, .ref h5, .int 1, .int 3, .int 50, .int (-1), .int (-1), .int (-1), .int (-1), .int 0, .int 100, .int 1000, .long 4904124382676531]))])) (fun u => u) 0 0 := by
  refine rc_inv (cc := cX7_add) (maxL := 2) (ret := (none : Option FieldType)) (by decide) rfl (Nat.le_of_ble_eq_true rfl) ?_
  intro p e s m args below meth c ls A hx hb hr hml _ hown hlocks hin hA hAm hw hl
  have hown : s.vm.findClass RX7 = some m.cls := hown
  have hl : lv_has ls 2 [(0, .ref h0), (1, .int 0)] := hl
  refine lv_aload_n hx hb dX7_add_0 rfl (lv_at hl 0 rfl) ?_
  refine lv_aload_n hx hb dX7_add_1 rfl (lv_at hl 0 rfl) ?_
  refine rc_get (v := .long 158197560731501) hx hb hown hAm hw lyX7 0 rfl rfl 16 (by decide) qw_876 (fun _ h9 => h9) rfl dX7_add_2 ?_
  refine lv_ldc2 (v := 31) hx hb hown (hAm.wd qw_1470 rfl rfl) dX7_add_5 ?_
  refine lv_lmul hx hb dX7_add_8 ?_
  refine rc_topl 4904124382676531 (by decide) ?_
  refine lv_iload_n hx hb dX7_add_9 rfl (lv_at hl 1 rfl) ?_
  refine lv_i2l (v := 0) hx hb dX7_add_10 (by decide) ?_
  refine lv_ladd hx hb dX7_add_11 ?_
  refine rc_topl 4904124382676531 (by decide) ?_
  refine rc_put hx hb hown hAm hw lyX7 tyX7 tyX7_ok nmX7 0 rfl rfl 16 (by decide) qw_876 (fun _ h9 => h9) rfl rfl (by decide +kernel) (Nat.le_of_ble_eq_true rfl) [(h0, .inr (12, [.int 0, .ref h1, .ref h2, .ref h3, .ref h4, .ref h5, .int 1, .int 3, .int 50, .int (-1), .int (-1), .int (-1), .int (-1), .int 0, .int 100, .int 1000, .long 4904124382676531]))] rfl dX7_add_12 (fun H locs hw => ?_)
  exact rc_vret hx hb hr hlocks hw [(h0, .inr (12, [.int 0, .ref h1, .ref h2, .ref h3, .ref h4, .ref h5, .int 1, .int 3, .int 50, .int (-1), .int (-1), .int (-1), .int (-1), .int 0, .int 100, .int 1000, .long 4904124382676531]))] (rfl) [0] rfl (by decide) (Nat.le_of_ble_eq_true rfl) (Nat.le_of_ble_eq_true rfl) dX7_add_15
set_option maxHeartbeats 4000000 in
set_option maxRecDepth 100000 in
theorem cw_X7_manyNow_10 (l : Launch) (E : rc_E) (sz : Nat) (h0 : Nat) (h1 : Nat) (h2 : Nat) (h3 : Nat) (h4 : Nat) (h5 : Nat) : rc_Mi l yX7_manyNow [Cond.code yX7_manyNow cX7_manyNow 7 (some FieldType.int)] { frames := 1, cells := 0, slots := 0, locals := 20 } E [.ref h0, .int 8] [(h0, .inr (12, [.int 0, .ref h1, .ref h2, .ref h3, .ref h4, .ref h5, .int 1, .int 3, .int 50, .int (-1), .int (-1), .int (-1), .int (-1), .int 0, .int 100, .int 1000, .long 4904124382676531])), (h2, .inr (4, [.int 0, .ref (E.2.2 0), .int 0]))] sz (S := va_W) (fun (r : Int32) (u : va_W) => (0 = r ∧ u = [(h0, .inr (12, [.int 0, .ref h1, .ref h2, .ref h3, .ref h4, .ref h5, .int 1, .int 3, .int 50, .int (-1), .int (-1), .int (-1), .int (-1), .int 0, .int 100, .int 1000, .long 4904124382676531])), (h2, .inr (4, [.int 0, .ref (E.2.2 0), .int 0]))])) (fun u => u) 0 0 := by
  refine rc_ini (cc := cX7_manyNow) (maxL := 7) (ret := (some FieldType.int)) (by decide) rfl (Nat.le_of_ble_eq_true rfl) ?_
  intro p e s m args below meth c ls A hx hb hr hml _ hown hlocks hin hA hAm hw hl
  have hown : s.vm.findClass RX7 = some m.cls := hown
  have hl : lv_has ls 7 [(0, .ref h0), (1, .int 8)] := hl
  refine lv_iconst (v := 0) hx hb dX7_manyNow_0 (by decide) ?_
  refine lv_istore_n (lv' := [(2, .int 0), (0, .ref h0), (1, .int 8)]) hx hb dX7_manyNow_1 rfl hl (by decide) rfl (fun ls hl => ?_)
  refine lv_iload_n hx hb dX7_manyNow_2 rfl (lv_at hl 2 rfl) ?_
  refine lv_tableOut (tgt := 181) hx hb dX7_manyNow_3 (by decide) (by decide) ?_
  refine lv_iconst (v := 0) hx hb dX7_manyNow_181 (by decide) ?_
  refine lv_istore_n (lv' := [(3, .int 0), (2, .int 0), (0, .ref h0), (1, .int 8)]) hx hb dX7_manyNow_182 rfl hl (by decide) rfl (fun ls hl => ?_)
  refine lv_iload_n hx hb dX7_manyNow_183 rfl (lv_at hl 0 rfl) ?_
  refine lv_aload_n hx hb dX7_manyNow_184 rfl (lv_at hl 2 rfl) ?_
  refine rc_get (v := .ref h2) hx hb hown hAm hw lyX7 0 rfl rfl 2 (by decide) qw_862 (fun _ h9 => h9) rfl dX7_manyNow_185 ?_
  refine rc_calli (wr := [(h0, .inr (12, [.int 0, .ref h1, .ref h2, .ref h3, .ref h4, .ref h5, .int 1, .int 3, .int 50, .int (-1), .int (-1), .int (-1), .int (-1), .int 0, .int 100, .int 1000, .long 4904124382676531]))]) (va_runV (As := []) (rest := [.int 0]) (Ts := []) ⟨hx, hb, hml, hown, fun _ h9 => absurd h9 List.not_mem_nil⟩ (cw_Jx4a65c_size_8abf5 l E _ h2) (rc_cwV hAm qw_928 qw_4 qw_289 qw_287 qw_288 rfl rfl hd_Jx4a65c_size_8abf5 ⟨Nat.le_of_ble_eq_true rfl, Nat.le_of_ble_eq_true rfl⟩) (rc_preV hAm hA hw [1] rfl rfl 1 rfl (q := vwCl[4]) rfl) rfl rfl hl.1 rfl (lv_room (Nat.le_of_ble_eq_true rfl)) dX7_manyNow_188 ⟨Nat.le_of_ble_eq_true rfl, Nat.le_of_ble_eq_true rfl⟩) hA hw [1] [0] rfl rfl rfl (by decide) (fun r_1 u_2 H locs hp hw => ?_)
  obtain ⟨rfl, rfl⟩ := hp
  have hw : rc_W E A s [(h0, .inr (12, [.int 0, .ref h1, .ref h2, .ref h3, .ref h4, .ref h5, .int 1, .int 3, .int 50, .int (-1), .int (-1), .int (-1), .int (-1), .int 0, .int 100, .int 1000, .long 4904124382676531])), (h2, .inr (4, [.int 0, .ref (E.2.2 0), .int 0]))] H locs := hw
  refine lv_icmp_ge (tgt := 216) hx hb dX7_manyNow_191 (by decide) (fun _ => ?_) (fun c9 => absurd (by decide) c9)
  refine lv_iload_n hx hb dX7_manyNow_216 rfl (lv_at hl 1 rfl) ?_
  exact rc_iret (v := 0) hx hb hr hlocks hw [(h0, .inr (12, [.int 0, .ref h1, .ref h2, .ref h3, .ref h4, .ref h5, .int 1, .int 3, .int 50, .int (-1), .int (-1), .int (-1), .int (-1), .int 0, .int 100, .int 1000, .long 4904124382676531])), (h2, .inr (4, [.int 0, .ref (E.2.2 0), .int 0]))] (⟨rfl, rfl⟩) [0, 1] rfl (by decide) (Nat.le_of_ble_eq_true rfl) (Nat.le_of_ble_eq_true rfl) dX7_manyNow_217
set_option maxHeartbeats 4000000 in
set_option maxRecDepth 100000 in
theorem cw_X7_add_9 (l : Launch) (E : rc_E) (sz : Nat) (h0 : Nat) (h1 : Nat) (h2 : Nat) (h3 : Nat) (h4 : Nat) (h5 : Nat) : rc_Mv l yX7_add [Cond.code yX7_add cX7_add 2 (none : Option FieldType)] { frames := 0, cells := 0, slots := 0, locals := 0 } E [.ref h0, .int 0] [(h0, .inr (12, [.int 0, .ref h1, .ref h2, .ref h3, .ref h4, .ref h5, .int 1, .int 3, .int 50, .int (-1), .int (-1), .int (-1), .int (-1), .int 0, .int 100, .int 1000, .long 4904124382676531]))] sz (S := va_W) (fun (u : va_W) => (u = [(h0, .inr (12, [.int 0, .ref h1, .ref h2, .ref h3, .ref h4, .ref h5, .int 1, .int 3, .int 50, .int (-1), .int (-1), .int (-1), .int (-1), .int 0, .int 100, .int 1000, .long 152027855862972461]))])) (fun u => u) 0 0 := by
  refine rc_inv (cc := cX7_add) (maxL := 2) (ret := (none : Option FieldType)) (by decide) rfl (Nat.le_of_ble_eq_true rfl) ?_
  intro p e s m args below meth c ls A hx hb hr hml _ hown hlocks hin hA hAm hw hl
  have hown : s.vm.findClass RX7 = some m.cls := hown
  have hl : lv_has ls 2 [(0, .ref h0), (1, .int 0)] := hl
  refine lv_aload_n hx hb dX7_add_0 rfl (lv_at hl 0 rfl) ?_
  refine lv_aload_n hx hb dX7_add_1 rfl (lv_at hl 0 rfl) ?_
  refine rc_get (v := .long 4904124382676531) hx hb hown hAm hw lyX7 0 rfl rfl 16 (by decide) qw_876 (fun _ h9 => h9) rfl dX7_add_2 ?_
  refine lv_ldc2 (v := 31) hx hb hown (hAm.wd qw_1470 rfl rfl) dX7_add_5 ?_
  refine lv_lmul hx hb dX7_add_8 ?_
  refine rc_topl 152027855862972461 (by decide) ?_
  refine lv_iload_n hx hb dX7_add_9 rfl (lv_at hl 1 rfl) ?_
  refine lv_i2l (v := 0) hx hb dX7_add_10 (by decide) ?_
  refine lv_ladd hx hb dX7_add_11 ?_
  refine rc_topl 152027855862972461 (by decide) ?_
  refine rc_put hx hb hown hAm hw lyX7 tyX7 tyX7_ok nmX7 0 rfl rfl 16 (by decide) qw_876 (fun _ h9 => h9) rfl rfl (by decide +kernel) (Nat.le_of_ble_eq_true rfl) [(h0, .inr (12, [.int 0, .ref h1, .ref h2, .ref h3, .ref h4, .ref h5, .int 1, .int 3, .int 50, .int (-1), .int (-1), .int (-1), .int (-1), .int 0, .int 100, .int 1000, .long 152027855862972461]))] rfl dX7_add_12 (fun H locs hw => ?_)
  exact rc_vret hx hb hr hlocks hw [(h0, .inr (12, [.int 0, .ref h1, .ref h2, .ref h3, .ref h4, .ref h5, .int 1, .int 3, .int 50, .int (-1), .int (-1), .int (-1), .int (-1), .int 0, .int 100, .int 1000, .long 152027855862972461]))] (rfl) [0] rfl (by decide) (Nat.le_of_ble_eq_true rfl) (Nat.le_of_ble_eq_true rfl) dX7_add_15
set_option maxHeartbeats 4000000 in
set_option maxRecDepth 100000 in
theorem cw_X7_sample_2 (l : Launch) (E : rc_E) (sz : Nat) (h0 : Nat) (h1 : Nat) (h2 : Nat) (h3 : Nat) (h4 : Nat) (h5 : Nat) : rc_Mr l yX7_sample [Cond.code yX7_sample cX7_sample 6 (some (FieldType.array FieldType.int))] { frames := 3, cells := 2, slots := 6, locals := 86 } E [.ref h0, .int 0, .int (-1)] [(h0, .inr (12, [.int 0, .ref h1, .ref h2, .ref h3, .ref h4, .ref h5, .int 1, .int 3, .int 50, .int (-1), .int (-1), .int (-1), .int (-1), .int 0, .int 100, .int 1000, .long 152027855862972461])), (h3, .inr (4, [.int 0, .ref (E.2.2 0), .int 0]))] sz (S := va_W) (fun (u : va_W) (r : Nat) => (∃ q2 : Nat, q2 = r ∧ u = [(h0, .inr (12, [.int 0, .ref h1, .ref h2, .ref h3, .ref h4, .ref h5, .int 1, .int 3, .int 50, .int (-1), .int (-1), .int (-1), .int (-1), .int 0, .int 100, .int 1000, .long 152027855862972461])), (h3, .inr (4, [.int 0, .ref (E.2.2 0), .int 0])), (q2, .inl (E.2.1 0, 0, .inl (va_cpy (fun _ => 0) (fun _ => 0) 6 0 0)))])) (fun u => u) 2 6 := by
  refine rc_inr (cc := cX7_sample) (maxL := 6) (ret := (some (FieldType.array FieldType.int))) (by decide) rfl (Nat.le_of_ble_eq_true rfl) ?_
  intro p e s m args below meth c ls A hx hb hr hml _ hown hlocks hin hA hAm hw hl
  have hown : s.vm.findClass RX7 = some m.cls := hown
  have hl : lv_has ls 6 [(0, .ref h0), (1, .int 0), (2, .int (-1))] := hl
  refine lv_bipush (v := 6) hx hb dX7_sample_0 (by decide) ?_
  refine rc_inew hx hb hAm hA hw qw_108 6 (by decide) (by decide) (Nat.le_of_ble_eq_true rfl) (Nat.le_of_ble_eq_true rfl) (Nat.le_of_ble_eq_true rfl) dX7_sample_2 (fun q1 H hw => ?_)
  have hw : rc_W E A s [(h0, .inr (12, [.int 0, .ref h1, .ref h2, .ref h3, .ref h4, .ref h5, .int 1, .int 3, .int 50, .int (-1), .int (-1), .int (-1), .int (-1), .int 0, .int 100, .int 1000, .long 152027855862972461])), (h3, .inr (4, [.int 0, .ref (E.2.2 0), .int 0])), (q1, .inl (E.2.1 0, 6, .inl (fun _ => 0)))] H _ := hw
  refine lv_astore_n (lv' := [(3, .ref q1), (0, .ref h0), (1, .int 0), (2, .int (-1))]) hx hb dX7_sample_4 rfl hl (by decide) rfl (fun ls hl => ?_)
  refine lv_iconst (v := 0) hx hb dX7_sample_5 (by decide) ?_
  refine lv_istore (lv' := [(4, .int 0), (3, .ref q1), (0, .ref h0), (1, .int 0), (2, .int (-1))]) hx hb dX7_sample_6 hl (by decide) rfl (fun ls hl => ?_)
  refine lv_aload_n hx hb dX7_sample_8 rfl (lv_at hl 2 rfl) ?_
  refine rc_get (v := .ref h3) hx hb hown hAm hw lyX7 0 rfl rfl 3 (by decide) qw_863 (fun _ h9 => h9) rfl dX7_sample_9 ?_
  refine rc_calli (wr := [(h0, .inr (12, [.int 0, .ref h1, .ref h2, .ref h3, .ref h4, .ref h5, .int 1, .int 3, .int 50, .int (-1), .int (-1), .int (-1), .int (-1), .int 0, .int 100, .int 1000, .long 152027855862972461])), (q1, .inl (E.2.1 0, 6, .inl (fun _ => 0)))]) (va_runV (As := []) (rest := []) (Ts := []) ⟨hx, hb, hml, hown, fun _ h9 => absurd h9 List.not_mem_nil⟩ (cw_Jx4a65c_size_8abf5 l E _ h3) (rc_cwV hAm qw_928 qw_4 qw_289 qw_287 qw_288 rfl rfl hd_Jx4a65c_size_8abf5 ⟨Nat.le_of_ble_eq_true rfl, Nat.le_of_ble_eq_true rfl⟩) (rc_preV hAm hA hw [1] rfl rfl 1 rfl (q := vwCl[4]) rfl) rfl rfl hl.1 rfl (lv_room (Nat.le_of_ble_eq_true rfl)) dX7_sample_12 ⟨Nat.le_of_ble_eq_true rfl, Nat.le_of_ble_eq_true rfl⟩) hA hw [1] [0, 2] rfl rfl rfl (by decide) (fun r_1 u_2 H locs hp hw => ?_)
  obtain ⟨rfl, rfl⟩ := hp
  have hw : rc_W E A s [(h0, .inr (12, [.int 0, .ref h1, .ref h2, .ref h3, .ref h4, .ref h5, .int 1, .int 3, .int 50, .int (-1), .int (-1), .int (-1), .int (-1), .int 0, .int 100, .int 1000, .long 152027855862972461])), (q1, .inl (E.2.1 0, 6, .inl (fun _ => 0))), (h3, .inr (4, [.int 0, .ref (E.2.2 0), .int 0]))] H locs := hw
  refine lv_iconst (v := 1) hx hb dX7_sample_15 (by decide) ?_
  refine lv_isub hx hb dX7_sample_16 ?_
  refine rc_topi (-1) (by decide) ?_
  refine lv_istore (lv' := [(5, .int (-1)), (4, .int 0), (3, .ref q1), (0, .ref h0), (1, .int 0), (2, .int (-1))]) hx hb dX7_sample_17 hl (by decide) rfl (fun ls hl => ?_)
  refine lv_iload hx hb dX7_sample_19 (lv_at hl 0 rfl) ?_
  refine lv_if_lt (tgt := 102) hx hb dX7_sample_21 (by decide) (fun _ => ?_) (fun c9 => absurd (by decide) c9)
  refine lv_aload_n hx hb dX7_sample_102 rfl (lv_at hl 2 rfl) ?_
  refine lv_bipush (v := 6) hx hb dX7_sample_103 (by decide) ?_
  refine lv_iload hx hb dX7_sample_105 (lv_at hl 1 rfl) ?_
  refine lv_isub hx hb dX7_sample_107 ?_
  refine rc_topi 6 (by decide) ?_
  refine lv_bipush (v := 6) hx hb dX7_sample_108 (by decide) ?_
  refine rc_callr (wr := [(h0, .inr (12, [.int 0, .ref h1, .ref h2, .ref h3, .ref h4, .ref h5, .int 1, .int 3, .int 50, .int (-1), .int (-1), .int (-1), .int (-1), .int 0, .int 100, .int 1000, .long 152027855862972461])), (h3, .inr (4, [.int 0, .ref (E.2.2 0), .int 0]))]) (va_runS (As := [.ref q1, .int 6, .int 6]) (rest := []) (Ts := []) ⟨hx, hb, hml, hown, fun _ h9 => absurd h9 List.not_mem_nil⟩ (cw_J7_copyOfRange_feecc l E _ q1) (rc_cwS hAm qw_992 qw_11 qw_994 qw_993 rfl rfl hd_J7_copyOfRange_feecc ⟨Nat.le_of_ble_eq_true rfl, Nat.le_of_ble_eq_true rfl⟩) (rc_preS hAm hA hw [1] rfl rfl) rfl rfl hl.1 rfl (lv_room (Nat.le_of_ble_eq_true rfl)) dX7_sample_110 ⟨Nat.le_of_ble_eq_true rfl, Nat.le_of_ble_eq_true rfl⟩) hA hw [1] [0, 2] rfl rfl rfl (by decide) (fun u_4 r_3 H locs hp hw => ?_)
  obtain ⟨q2, rfl, rfl⟩ := hp
  have hw : rc_W E A s [(h0, .inr (12, [.int 0, .ref h1, .ref h2, .ref h3, .ref h4, .ref h5, .int 1, .int 3, .int 50, .int (-1), .int (-1), .int (-1), .int (-1), .int 0, .int 100, .int 1000, .long 152027855862972461])), (h3, .inr (4, [.int 0, .ref (E.2.2 0), .int 0])), (q1, .inl (E.2.1 0, 6, .inl (fun _ => 0))), (q2, .inl (E.2.1 0, 0, .inl (va_cpy (fun _ => 0) (fun _ => 0) 6 0 0)))] H locs := hw
  exact rc_aret (v := q2) hx hb hr (by first | exact Or.inl ⟨_, rfl⟩ | exact Or.inr ⟨_, rfl⟩) hlocks hw [(h0, .inr (12, [.int 0, .ref h1, .ref h2, .ref h3, .ref h4, .ref h5, .int 1, .int 3, .int 50, .int (-1), .int (-1), .int (-1), .int (-1), .int 0, .int 100, .int 1000, .long 152027855862972461])), (h3, .inr (4, [.int 0, .ref (E.2.2 0), .int 0])), (q2, .inl (E.2.1 0, 0, .inl (va_cpy (fun _ => 0) (fun _ => 0) 6 0 0)))] (⟨q2, rfl, rfl⟩) [0, 1, 3] rfl (by decide) (Nat.le_of_ble_eq_true rfl) (Nat.le_of_ble_eq_true rfl) dX7_sample_113
set_option maxHeartbeats 4000000 in
set_option maxRecDepth 100000 in
theorem cw_X7_sample__2 (l : Launch) (E : rc_E) (sz : Nat) (h0 : Nat) (h1 : Nat) (h2 : Nat) (h3 : Nat) (h4 : Nat) (h5 : Nat) : rc_Mr l yX7_sample_ [Cond.code yX7_sample_ cX7_sample_ 2 (some (FieldType.array FieldType.int))] { frames := 4, cells := 2, slots := 6, locals := 111 } E [.ref h0, .int 0] [(h0, .inr (12, [.int 0, .ref h1, .ref h2, .ref h3, .ref h4, .ref h5, .int 1, .int 3, .int 50, .int (-1), .int (-1), .int (-1), .int (-1), .int 0, .int 100, .int 1000, .long 152027855862972461])), (h3, .inr (4, [.int 0, .ref (E.2.2 0), .int 0]))] sz (S := va_W) (fun (u : va_W) (r : Nat) => (∃ q1 : Nat, q1 = r ∧ u = [(h0, .inr (12, [.int 0, .ref h1, .ref h2, .ref h3, .ref h4, .ref h5, .int 1, .int 3, .int 50, .int (-1), .int (-1), .int (-1), .int (-1), .int 0, .int 100, .int 1000, .long 152027855862972461])), (h3, .inr (4, [.int 0, .ref (E.2.2 0), .int 0])), (q1, .inl (E.2.1 0, 0, .inl (va_cpy (fun _ => 0) (fun _ => 0) 6 0 0)))])) (fun u => u) 2 6 := by
  refine rc_inr (cc := cX7_sample_) (maxL := 2) (ret := (some (FieldType.array FieldType.int))) (by decide) rfl (Nat.le_of_ble_eq_true rfl) ?_
  intro p e s m args below meth c ls A hx hb hr hml _ hown hlocks hin hA hAm hw hl
  have hown : s.vm.findClass RX7 = some m.cls := hown
  have hl : lv_has ls 2 [(0, .ref h0), (1, .int 0)] := hl
  refine lv_aload_n hx hb dX7_sample__0 rfl (lv_at hl 0 rfl) ?_
  refine lv_iload_n hx hb dX7_sample__1 rfl (lv_at hl 1 rfl) ?_
  refine lv_iconst (v := (-1)) hx hb dX7_sample__2 (by decide) ?_
  refine rc_callr (wr := []) (va_runV (As := [.int 0, .int (-1)]) (rest := []) (Ts := []) ⟨hx, hb, hml, hown, fun _ h9 => absurd h9 List.not_mem_nil⟩ (cw_X7_sample_2 l E _ h0 h1 h2 h3 h4 h5) (rc_cwV hAm qw_971 qw_13 qw_974 qw_973 qs_55 rfl rfl hd_X7_sample ⟨Nat.le_of_ble_eq_true rfl, Nat.le_of_ble_eq_true rfl⟩) (rc_preV hAm hA hw [0, 1] rfl rfl 0 rfl (q := vwCl[12]) rfl) rfl rfl hl.1 rfl (lv_room (Nat.le_of_ble_eq_true rfl)) dX7_sample__3 ⟨Nat.le_of_ble_eq_true rfl, Nat.le_of_ble_eq_true rfl⟩) hA hw [0, 1] [] rfl rfl rfl (by decide) (fun u_2 r_1 H locs hp hw => ?_)
  obtain ⟨q1, rfl, rfl⟩ := hp
  have hw : rc_W E A s [(h0, .inr (12, [.int 0, .ref h1, .ref h2, .ref h3, .ref h4, .ref h5, .int 1, .int 3, .int 50, .int (-1), .int (-1), .int (-1), .int (-1), .int 0, .int 100, .int 1000, .long 152027855862972461])), (h3, .inr (4, [.int 0, .ref (E.2.2 0), .int 0])), (q1, .inl (E.2.1 0, 0, .inl (va_cpy (fun _ => 0) (fun _ => 0) 6 0 0)))] H locs := hw
  exact rc_aret (v := q1) hx hb hr (by first | exact Or.inl ⟨_, rfl⟩ | exact Or.inr ⟨_, rfl⟩) hlocks hw [(h0, .inr (12, [.int 0, .ref h1, .ref h2, .ref h3, .ref h4, .ref h5, .int 1, .int 3, .int 50, .int (-1), .int (-1), .int (-1), .int (-1), .int 0, .int 100, .int 1000, .long 152027855862972461])), (h3, .inr (4, [.int 0, .ref (E.2.2 0), .int 0])), (q1, .inl (E.2.1 0, 0, .inl (va_cpy (fun _ => 0) (fun _ => 0) 6 0 0)))] (⟨q1, rfl, rfl⟩) [0, 1, 2] rfl (by decide) (Nat.le_of_ble_eq_true rfl) (Nat.le_of_ble_eq_true rfl) dX7_sample__6
set_option maxHeartbeats 4000000 in
set_option maxRecDepth 100000 in
theorem cw_X7_ofChangeNow_2 (l : Launch) (E : rc_E) (sz : Nat) (h0 : Nat) (h1 : Nat) (h2 : Nat) (h3 : Nat) (h4 : Nat) (h5 : Nat) : rc_Mi l yX7_ofChangeNow [Cond.code yX7_ofChangeNow cX7_ofChangeNow 6 (some FieldType.int)] { frames := 5, cells := 3, slots := 10, locals := 132 } E [.ref h0, .int 0, .int 0] [(h0, .inr (12, [.int 0, .ref h1, .ref h2, .ref h3, .ref h4, .ref h5, .int 1, .int 3, .int 50, .int (-1), .int (-1), .int (-1), .int (-1), .int 0, .int 100, .int 1000, .long 152027855862972461])), (h3, .inr (4, [.int 0, .ref (E.2.2 0), .int 0]))] sz (S := va_W) (fun (r : Int32) (u : va_W) => (0 = r ∧ u = [(h0, .inr (12, [.int 0, .ref h1, .ref h2, .ref h3, .ref h4, .ref h5, .int 1, .int 3, .int 50, .int (-1), .int (-1), .int (-1), .int (-1), .int 0, .int 100, .int 1000, .long 152027855862972461])), (h3, .inr (4, [.int 0, .ref (E.2.2 0), .int 0]))])) (fun u => u) 3 10 := by
  refine rc_ini (cc := cX7_ofChangeNow) (maxL := 6) (ret := (some FieldType.int)) (by decide) rfl (Nat.le_of_ble_eq_true rfl) ?_
  intro p e s m args below meth c ls A hx hb hr hml _ hown hlocks hin hA hAm hw hl
  have hown : s.vm.findClass RX7 = some m.cls := hown
  have hl : lv_has ls 6 [(0, .ref h0), (1, .int 0), (2, .int 0)] := hl
  refine lv_iconst (v := 0) hx hb dX7_ofChangeNow_0 (by decide) ?_
  refine lv_istore_n (lv' := [(3, .int 0), (0, .ref h0), (1, .int 0), (2, .int 0)]) hx hb dX7_ofChangeNow_1 rfl hl (by decide) rfl (fun ls hl => ?_)
  refine lv_aload_n hx hb dX7_ofChangeNow_2 rfl (lv_at hl 1 rfl) ?_
  refine rc_get (v := .ref h3) hx hb hown hAm hw lyX7 0 rfl rfl 3 (by decide) qw_863 (fun _ h9 => h9) rfl dX7_ofChangeNow_3 ?_
  refine rc_callr (wr := [(h0, .inr (12, [.int 0, .ref h1, .ref h2, .ref h3, .ref h4, .ref h5, .int 1, .int 3, .int 50, .int (-1), .int (-1), .int (-1), .int (-1), .int 0, .int 100, .int 1000, .long 152027855862972461]))]) (va_runV (As := []) (rest := []) (Ts := []) ⟨hx, hb, hml, hown, fun _ h9 => absurd h9 List.not_mem_nil⟩ (cw_Jx4a65c_iterator_32c93 l E _ h3) (rc_cwV hAm qw_1295 qw_4 qw_1298 qw_1296 qw_1297 rfl rfl hd_Jx4a65c_iterator_32c93 ⟨Nat.le_of_ble_eq_true rfl, Nat.le_of_ble_eq_true rfl⟩) (rc_preV hAm hA hw [1] rfl rfl 1 rfl (q := vwCl[4]) rfl) rfl rfl hl.1 rfl (lv_room (Nat.le_of_ble_eq_true rfl)) dX7_ofChangeNow_6 ⟨Nat.le_of_ble_eq_true rfl, Nat.le_of_ble_eq_true rfl⟩) hA hw [1] [0] rfl rfl rfl (by decide) (fun u_2 r_1 H locs hp hw => ?_)
  obtain ⟨q1, rfl, rfl⟩ := hp
  have hw : rc_W E A s [(h0, .inr (12, [.int 0, .ref h1, .ref h2, .ref h3, .ref h4, .ref h5, .int 1, .int 3, .int 50, .int (-1), .int (-1), .int (-1), .int (-1), .int 0, .int 100, .int 1000, .long 152027855862972461])), (h3, .inr (4, [.int 0, .ref (E.2.2 0), .int 0])), (q1, .inr (3, [.int 0, .int (-1), .int 0, .ref h3]))] H locs := hw
  refine lv_astore (lv' := [(4, .ref q1), (3, .int 0), (0, .ref h0), (1, .int 0), (2, .int 0)]) hx hb dX7_ofChangeNow_9 hl (by decide) rfl (fun ls hl => ?_)
  refine lv_aload hx hb dX7_ofChangeNow_11 (lv_at hl 0 rfl) ?_
  refine rc_callFi (wr := [(h0, .inr (12, [.int 0, .ref h1, .ref h2, .ref h3, .ref h4, .ref h5, .int 1, .int 3, .int 50, .int (-1), .int (-1), .int (-1), .int (-1), .int 0, .int 100, .int 1000, .long 152027855862972461]))]) (va_runF (As := []) (rest := []) (Ts := []) ((hAm.K.1 3 _ rfl).2) ⟨hx, hb, hml, hown, fun _ h9 => absurd h9 List.not_mem_nil⟩ (cw_Jx35411_hasNext_aae02 l E _ q1 h3) (rc_cwF (C := "java/util/ArrayList$Itr") (n := 0) hAm qw_1319 qw_32 qw_1327 qw_1325 qw_1323 qw_1321 qw_1320 (by decide +kernel) qw_1326 qw_1324 qw_1322 rfl rfl (by decide +kernel) ⟨Nat.le_of_ble_eq_true rfl, Nat.le_of_ble_eq_true rfl⟩) (rc_preV hAm hA hw [2, 1] rfl rfl 2 rfl (q := vwCl[3]) rfl) rfl rfl hl.1 rfl (lv_room (Nat.le_of_ble_eq_true rfl)) dX7_ofChangeNow_13 ⟨Nat.le_of_ble_eq_true rfl, Nat.le_of_ble_eq_true rfl⟩) hA hw [2, 1] [0] rfl rfl rfl (by decide) (fun r_3 u_4 H locs hp hw => ?_)
  obtain ⟨rfl, rfl⟩ := hp
  have hw : rc_W E A s [(h0, .inr (12, [.int 0, .ref h1, .ref h2, .ref h3, .ref h4, .ref h5, .int 1, .int 3, .int 50, .int (-1), .int (-1), .int (-1), .int (-1), .int 0, .int 100, .int 1000, .long 152027855862972461])), (q1, .inr (3, [.int 0, .int (-1), .int 0, .ref h3])), (h3, .inr (4, [.int 0, .ref (E.2.2 0), .int 0]))] H locs := hw
  refine lv_if_eq (tgt := 52) hx hb dX7_ofChangeNow_18 (by decide) (fun _ => ?_) (fun c9 => absurd (by decide) c9)
  refine lv_aload_n hx hb dX7_ofChangeNow_52 rfl (lv_at hl 2 rfl) ?_
  refine lv_iload_n hx hb dX7_ofChangeNow_53 rfl (lv_at hl 3 rfl) ?_
  refine rc_callr (wr := [(q1, .inr (3, [.int 0, .int (-1), .int 0, .ref h3]))]) (va_runV (As := [.int 0]) (rest := []) (Ts := []) ⟨hx, hb, hml, hown, fun _ h9 => absurd h9 List.not_mem_nil⟩ (cw_X7_sample__2 l E _ h0 h1 h2 h3 h4 h5) (rc_cwV hAm qw_967 qw_13 qw_970 qw_969 qs_54 rfl rfl hd_X7_sample_ ⟨Nat.le_of_ble_eq_true rfl, Nat.le_of_ble_eq_true rfl⟩) (rc_preV hAm hA hw [0, 2] rfl rfl 0 rfl (q := vwCl[12]) rfl) rfl rfl hl.1 rfl (lv_room (Nat.le_of_ble_eq_true rfl)) dX7_ofChangeNow_54 ⟨Nat.le_of_ble_eq_true rfl, Nat.le_of_ble_eq_true rfl⟩) hA hw [0, 2] [1] rfl rfl rfl (by decide) (fun u_6 r_5 H locs hp hw => ?_)
  obtain ⟨q2, rfl, rfl⟩ := hp
  have hw : rc_W E A s [(q1, .inr (3, [.int 0, .int (-1), .int 0, .ref h3])), (h0, .inr (12, [.int 0, .ref h1, .ref h2, .ref h3, .ref h4, .ref h5, .int 1, .int 3, .int 50, .int (-1), .int (-1), .int (-1), .int (-1), .int 0, .int 100, .int 1000, .long 152027855862972461])), (h3, .inr (4, [.int 0, .ref (E.2.2 0), .int 0])), (q2, .inl (E.2.1 0, 0, .inl (va_cpy (fun _ => 0) (fun _ => 0) 6 0 0)))] H locs := hw
  refine lv_astore (lv' := [(4, .ref q2), (3, .int 0), (0, .ref h0), (1, .int 0), (2, .int 0)]) hx hb dX7_ofChangeNow_57 hl (by decide) rfl (fun ls hl => ?_)
  refine lv_aload hx hb dX7_ofChangeNow_59 (lv_at hl 0 rfl) ?_
  refine rc_callv (wr := [(q1, .inr (3, [.int 0, .int (-1), .int 0, .ref h3])), (h0, .inr (12, [.int 0, .ref h1, .ref h2, .ref h3, .ref h4, .ref h5, .int 1, .int 3, .int 50, .int (-1), .int (-1), .int (-1), .int (-1), .int 0, .int 100, .int 1000, .long 152027855862972461])), (h3, .inr (4, [.int 0, .ref (E.2.2 0), .int 0]))]) (va_runS (As := [.ref q2]) (rest := []) (Ts := []) ⟨hx, hb, hml, hown, fun _ h9 => absurd h9 List.not_mem_nil⟩ (cw_J7_sort_2022b l E _ q2 (va_cpy (fun _ => 0) (fun _ => 0) 6 0 0)) (rc_cwS hAm qw_1241 qw_11 qw_1243 qw_1242 rfl rfl hd_J7_sort_2022b ⟨Nat.le_of_ble_eq_true rfl, Nat.le_of_ble_eq_true rfl⟩) (rc_preS hAm hA hw [3] rfl rfl) rfl rfl hl.1 rfl (lv_room (Nat.le_of_ble_eq_true rfl)) dX7_ofChangeNow_61 ⟨Nat.le_of_ble_eq_true rfl, Nat.le_of_ble_eq_true rfl⟩) hA hw [3] [0, 1, 2] rfl rfl rfl (by decide) (fun u_8 H locs hp hw => ?_)
  obtain ⟨rfl⟩ := hp
  have hw : rc_W E A s [(q1, .inr (3, [.int 0, .int (-1), .int 0, .ref h3])), (h0, .inr (12, [.int 0, .ref h1, .ref h2, .ref h3, .ref h4, .ref h5, .int 1, .int 3, .int 50, .int (-1), .int (-1), .int (-1), .int (-1), .int 0, .int 100, .int 1000, .long 152027855862972461])), (h3, .inr (4, [.int 0, .ref (E.2.2 0), .int 0])), (q2, .inl (E.2.1 0, 0, .inl (va_cpy (fun _ => 0) (fun _ => 0) 6 0 0)))] H locs := hw
  refine lv_aload hx hb dX7_ofChangeNow_64 (lv_at hl 0 rfl) ?_
  refine rc_alen hx hb hAm hw 3 0 rfl rfl 0 rfl dX7_ofChangeNow_66 ?_
  refine lv_iconst (v := 1) hx hb dX7_ofChangeNow_67 (by decide) ?_
  refine lv_isub hx hb dX7_ofChangeNow_68 ?_
  refine rc_topi (-1) (by decide) ?_
  refine lv_istore (lv' := [(5, .int (-1)), (4, .ref q2), (3, .int 0), (0, .ref h0), (1, .int 0), (2, .int 0)]) hx hb dX7_ofChangeNow_69 hl (by decide) rfl (fun ls hl => ?_)
  refine lv_iload_n hx hb dX7_ofChangeNow_71 rfl (lv_at hl 5 rfl) ?_
  refine lv_tableIn (tgt := 108) hx hb dX7_ofChangeNow_72 (by decide) (by decide) rfl (by decide) ?_
  refine lv_iload_n hx hb dX7_ofChangeNow_108 rfl (lv_at hl 2 rfl) ?_
  exact rc_iret (v := 0) hx hb hr hlocks hw [(h0, .inr (12, [.int 0, .ref h1, .ref h2, .ref h3, .ref h4, .ref h5, .int 1, .int 3, .int 50, .int (-1), .int (-1), .int (-1), .int (-1), .int 0, .int 100, .int 1000, .long 152027855862972461])), (h3, .inr (4, [.int 0, .ref (E.2.2 0), .int 0]))] (⟨rfl, rfl⟩) [1, 2] rfl (by decide) (Nat.le_of_ble_eq_true rfl) (Nat.le_of_ble_eq_true rfl) dX7_ofChangeNow_109
set_option maxHeartbeats 4000000 in
set_option maxRecDepth 100000 in
theorem cw_X7_add_10 (l : Launch) (E : rc_E) (sz : Nat) (h0 : Nat) (h1 : Nat) (h2 : Nat) (h3 : Nat) (h4 : Nat) (h5 : Nat) : rc_Mv l yX7_add [Cond.code yX7_add cX7_add 2 (none : Option FieldType)] { frames := 0, cells := 0, slots := 0, locals := 0 } E [.ref h0, .int 0] [(h0, .inr (12, [.int 0, .ref h1, .ref h2, .ref h3, .ref h4, .ref h5, .int 1, .int 3, .int 50, .int (-1), .int (-1), .int (-1), .int (-1), .int 0, .int 100, .int 1000, .long 152027855862972461]))] sz (S := va_W) (fun (u : va_W) => (u = [(h0, .inr (12, [.int 0, .ref h1, .ref h2, .ref h3, .ref h4, .ref h5, .int 1, .int 3, .int 50, .int (-1), .int (-1), .int (-1), .int (-1), .int 0, .int 100, .int 1000, .long 4712863531752146291]))])) (fun u => u) 0 0 := by
  refine rc_inv (cc := cX7_add) (maxL := 2) (ret := (none : Option FieldType)) (by decide) rfl (Nat.le_of_ble_eq_true rfl) ?_
  intro p e s m args below meth c ls A hx hb hr hml _ hown hlocks hin hA hAm hw hl
  have hown : s.vm.findClass RX7 = some m.cls := hown
  have hl : lv_has ls 2 [(0, .ref h0), (1, .int 0)] := hl
  refine lv_aload_n hx hb dX7_add_0 rfl (lv_at hl 0 rfl) ?_
  refine lv_aload_n hx hb dX7_add_1 rfl (lv_at hl 0 rfl) ?_
  refine rc_get (v := .long 152027855862972461) hx hb hown hAm hw lyX7 0 rfl rfl 16 (by decide) qw_876 (fun _ h9 => h9) rfl dX7_add_2 ?_
  refine lv_ldc2 (v := 31) hx hb hown (hAm.wd qw_1470 rfl rfl) dX7_add_5 ?_
  refine lv_lmul hx hb dX7_add_8 ?_
  refine rc_topl 4712863531752146291 (by decide) ?_
  refine lv_iload_n hx hb dX7_add_9 rfl (lv_at hl 1 rfl) ?_
  refine lv_i2l (v := 0) hx hb dX7_add_10 (by decide) ?_
  refine lv_ladd hx hb dX7_add_11 ?_
  refine rc_topl 4712863531752146291 (by decide) ?_
  refine rc_put hx hb hown hAm hw lyX7 tyX7 tyX7_ok nmX7 0 rfl rfl 16 (by decide) qw_876 (fun _ h9 => h9) rfl rfl (by decide +kernel) (Nat.le_of_ble_eq_true rfl) [(h0, .inr (12, [.int 0, .ref h1, .ref h2, .ref h3, .ref h4, .ref h5, .int 1, .int 3, .int 50, .int (-1), .int (-1), .int (-1), .int (-1), .int 0, .int 100, .int 1000, .long 4712863531752146291]))] rfl dX7_add_12 (fun H locs hw => ?_)
  exact rc_vret hx hb hr hlocks hw [(h0, .inr (12, [.int 0, .ref h1, .ref h2, .ref h3, .ref h4, .ref h5, .int 1, .int 3, .int 50, .int (-1), .int (-1), .int (-1), .int (-1), .int 0, .int 100, .int 1000, .long 4712863531752146291]))] (rfl) [0] rfl (by decide) (Nat.le_of_ble_eq_true rfl) (Nat.le_of_ble_eq_true rfl) dX7_add_15
set_option maxHeartbeats 4000000 in
set_option maxRecDepth 100000 in
theorem cw_X7_sample_3 (l : Launch) (E : rc_E) (sz : Nat) (h0 : Nat) (h1 : Nat) (h2 : Nat) (h3 : Nat) (h4 : Nat) (h5 : Nat) : rc_Mr l yX7_sample [Cond.code yX7_sample cX7_sample 6 (some (FieldType.array FieldType.int))] { frames := 3, cells := 2, slots := 6, locals := 86 } E [.ref h0, .int 0, .int (-1)] [(h0, .inr (12, [.int 0, .ref h1, .ref h2, .ref h3, .ref h4, .ref h5, .int 1, .int 3, .int 50, .int (-1), .int (-1), .int (-1), .int (-1), .int 0, .int 100, .int 1000, .long 4712863531752146291])), (h3, .inr (4, [.int 0, .ref (E.2.2 0), .int 0]))] sz (S := va_W) (fun (u : va_W) (r : Nat) => (∃ q2 : Nat, q2 = r ∧ u = [(h0, .inr (12, [.int 0, .ref h1, .ref h2, .ref h3, .ref h4, .ref h5, .int 1, .int 3, .int 50, .int (-1), .int (-1), .int (-1), .int (-1), .int 0, .int 100, .int 1000, .long 4712863531752146291])), (h3, .inr (4, [.int 0, .ref (E.2.2 0), .int 0])), (q2, .inl (E.2.1 0, 0, .inl (va_cpy (fun _ => 0) (fun _ => 0) 6 0 0)))])) (fun u => u) 2 6 := by
  refine rc_inr (cc := cX7_sample) (maxL := 6) (ret := (some (FieldType.array FieldType.int))) (by decide) rfl (Nat.le_of_ble_eq_true rfl) ?_
  intro p e s m args below meth c ls A hx hb hr hml _ hown hlocks hin hA hAm hw hl
  have hown : s.vm.findClass RX7 = some m.cls := hown
  have hl : lv_has ls 6 [(0, .ref h0), (1, .int 0), (2, .int (-1))] := hl
  refine lv_bipush (v := 6) hx hb dX7_sample_0 (by decide) ?_
  refine rc_inew hx hb hAm hA hw qw_108 6 (by decide) (by decide) (Nat.le_of_ble_eq_true rfl) (Nat.le_of_ble_eq_true rfl) (Nat.le_of_ble_eq_true rfl) dX7_sample_2 (fun q1 H hw => ?_)
  have hw : rc_W E A s [(h0, .inr (12, [.int 0, .ref h1, .ref h2, .ref h3, .ref h4, .ref h5, .int 1, .int 3, .int 50, .int (-1), .int (-1), .int (-1), .int (-1), .int 0, .int 100, .int 1000, .long 4712863531752146291])), (h3, .inr (4, [.int 0, .ref (E.2.2 0), .int 0])), (q1, .inl (E.2.1 0, 6, .inl (fun _ => 0)))] H _ := hw
  refine lv_astore_n (lv' := [(3, .ref q1), (0, .ref h0), (1, .int 0), (2, .int (-1))]) hx hb dX7_sample_4 rfl hl (by decide) rfl (fun ls hl => ?_)
  refine lv_iconst (v := 0) hx hb dX7_sample_5 (by decide) ?_
  refine lv_istore (lv' := [(4, .int 0), (3, .ref q1), (0, .ref h0), (1, .int 0), (2, .int (-1))]) hx hb dX7_sample_6 hl (by decide) rfl (fun ls hl => ?_)
  refine lv_aload_n hx hb dX7_sample_8 rfl (lv_at hl 2 rfl) ?_
  refine rc_get (v := .ref h3) hx hb hown hAm hw lyX7 0 rfl rfl 3 (by decide) qw_863 (fun _ h9 => h9) rfl dX7_sample_9 ?_
  refine rc_calli (wr := [(h0, .inr (12, [.int 0, .ref h1, .ref h2, .ref h3, .ref h4, .ref h5, .int 1, .int 3, .int 50, .int (-1), .int (-1), .int (-1), .int (-1), .int 0, .int 100, .int 1000, .long 4712863531752146291])), (q1, .inl (E.2.1 0, 6, .inl (fun _ => 0)))]) (va_runV (As := []) (rest := []) (Ts := []) ⟨hx, hb, hml, hown, fun _ h9 => absurd h9 List.not_mem_nil⟩ (cw_Jx4a65c_size_8abf5 l E _ h3) (rc_cwV hAm qw_928 qw_4 qw_289 qw_287 qw_288 rfl rfl hd_Jx4a65c_size_8abf5 ⟨Nat.le_of_ble_eq_true rfl, Nat.le_of_ble_eq_true rfl⟩) (rc_preV hAm hA hw [1] rfl rfl 1 rfl (q := vwCl[4]) rfl) rfl rfl hl.1 rfl (lv_room (Nat.le_of_ble_eq_true rfl)) dX7_sample_12 ⟨Nat.le_of_ble_eq_true rfl, Nat.le_of_ble_eq_true rfl⟩) hA hw [1] [0, 2] rfl rfl rfl (by decide) (fun r_1 u_2 H locs hp hw => ?_)
  obtain ⟨rfl, rfl⟩ := hp
  have hw : rc_W E A s [(h0, .inr (12, [.int 0, .ref h1, .ref h2, .ref h3, .ref h4, .ref h5, .int 1, .int 3, .int 50, .int (-1), .int (-1), .int (-1), .int (-1), .int 0, .int 100, .int 1000, .long 4712863531752146291])), (q1, .inl (E.2.1 0, 6, .inl (fun _ => 0))), (h3, .inr (4, [.int 0, .ref (E.2.2 0), .int 0]))] H locs := hw
  refine lv_iconst (v := 1) hx hb dX7_sample_15 (by decide) ?_
  refine lv_isub hx hb dX7_sample_16 ?_
  refine rc_topi (-1) (by decide) ?_
  refine lv_istore (lv' := [(5, .int (-1)), (4, .int 0), (3, .ref q1), (0, .ref h0), (1, .int 0), (2, .int (-1))]) hx hb dX7_sample_17 hl (by decide) rfl (fun ls hl => ?_)
  refine lv_iload hx hb dX7_sample_19 (lv_at hl 0 rfl) ?_
  refine lv_if_lt (tgt := 102) hx hb dX7_sample_21 (by decide) (fun _ => ?_) (fun c9 => absurd (by decide) c9)
  refine lv_aload_n hx hb dX7_sample_102 rfl (lv_at hl 2 rfl) ?_
  refine lv_bipush (v := 6) hx hb dX7_sample_103 (by decide) ?_
  refine lv_iload hx hb dX7_sample_105 (lv_at hl 1 rfl) ?_
  refine lv_isub hx hb dX7_sample_107 ?_
  refine rc_topi 6 (by decide) ?_
  refine lv_bipush (v := 6) hx hb dX7_sample_108 (by decide) ?_
  refine rc_callr (wr := [(h0, .inr (12, [.int 0, .ref h1, .ref h2, .ref h3, .ref h4, .ref h5, .int 1, .int 3, .int 50, .int (-1), .int (-1), .int (-1), .int (-1), .int 0, .int 100, .int 1000, .long 4712863531752146291])), (h3, .inr (4, [.int 0, .ref (E.2.2 0), .int 0]))]) (va_runS (As := [.ref q1, .int 6, .int 6]) (rest := []) (Ts := []) ⟨hx, hb, hml, hown, fun _ h9 => absurd h9 List.not_mem_nil⟩ (cw_J7_copyOfRange_feecc l E _ q1) (rc_cwS hAm qw_992 qw_11 qw_994 qw_993 rfl rfl hd_J7_copyOfRange_feecc ⟨Nat.le_of_ble_eq_true rfl, Nat.le_of_ble_eq_true rfl⟩) (rc_preS hAm hA hw [1] rfl rfl) rfl rfl hl.1 rfl (lv_room (Nat.le_of_ble_eq_true rfl)) dX7_sample_110 ⟨Nat.le_of_ble_eq_true rfl, Nat.le_of_ble_eq_true rfl⟩) hA hw [1] [0, 2] rfl rfl rfl (by decide) (fun u_4 r_3 H locs hp hw => ?_)
  obtain ⟨q2, rfl, rfl⟩ := hp
  have hw : rc_W E A s [(h0, .inr (12, [.int 0, .ref h1, .ref h2, .ref h3, .ref h4, .ref h5, .int 1, .int 3, .int 50, .int (-1), .int (-1), .int (-1), .int (-1), .int 0, .int 100, .int 1000, .long 4712863531752146291])), (h3, .inr (4, [.int 0, .ref (E.2.2 0), .int 0])), (q1, .inl (E.2.1 0, 6, .inl (fun _ => 0))), (q2, .inl (E.2.1 0, 0, .inl (va_cpy (fun _ => 0) (fun _ => 0) 6 0 0)))] H locs := hw
  exact rc_aret (v := q2) hx hb hr (by first | exact Or.inl ⟨_, rfl⟩ | exact Or.inr ⟨_, rfl⟩) hlocks hw [(h0, .inr (12, [.int 0, .ref h1, .ref h2, .ref h3, .ref h4, .ref h5, .int 1, .int 3, .int 50, .int (-1), .int (-1), .int (-1), .int (-1), .int 0, .int 100, .int 1000, .long 4712863531752146291])), (h3, .inr (4, [.int 0, .ref (E.2.2 0), .int 0])), (q2, .inl (E.2.1 0, 0, .inl (va_cpy (fun _ => 0) (fun _ => 0) 6 0 0)))] (⟨q2, rfl, rfl⟩) [0, 1, 3] rfl (by decide) (Nat.le_of_ble_eq_true rfl) (Nat.le_of_ble_eq_true rfl) dX7_sample_113
set_option maxHeartbeats 4000000 in
set_option maxRecDepth 100000 in
theorem cw_X7_sample__3 (l : Launch) (E : rc_E) (sz : Nat) (h0 : Nat) (h1 : Nat) (h2 : Nat) (h3 : Nat) (h4 : Nat) (h5 : Nat) : rc_Mr l yX7_sample_ [Cond.code yX7_sample_ cX7_sample_ 2 (some (FieldType.array FieldType.int))] { frames := 4, cells := 2, slots := 6, locals := 111 } E [.ref h0, .int 0] [(h0, .inr (12, [.int 0, .ref h1, .ref h2, .ref h3, .ref h4, .ref h5, .int 1, .int 3, .int 50, .int (-1), .int (-1), .int (-1), .int (-1), .int 0, .int 100, .int 1000, .long 4712863531752146291])), (h3, .inr (4, [.int 0, .ref (E.2.2 0), .int 0]))] sz (S := va_W) (fun (u : va_W) (r : Nat) => (∃ q1 : Nat, q1 = r ∧ u = [(h0, .inr (12, [.int 0, .ref h1, .ref h2, .ref h3, .ref h4, .ref h5, .int 1, .int 3, .int 50, .int (-1), .int (-1), .int (-1), .int (-1), .int 0, .int 100, .int 1000, .long 4712863531752146291])), (h3, .inr (4, [.int 0, .ref (E.2.2 0), .int 0])), (q1, .inl (E.2.1 0, 0, .inl (va_cpy (fun _ => 0) (fun _ => 0) 6 0 0)))])) (fun u => u) 2 6 := by
  refine rc_inr (cc := cX7_sample_) (maxL := 2) (ret := (some (FieldType.array FieldType.int))) (by decide) rfl (Nat.le_of_ble_eq_true rfl) ?_
  intro p e s m args below meth c ls A hx hb hr hml _ hown hlocks hin hA hAm hw hl
  have hown : s.vm.findClass RX7 = some m.cls := hown
  have hl : lv_has ls 2 [(0, .ref h0), (1, .int 0)] := hl
  refine lv_aload_n hx hb dX7_sample__0 rfl (lv_at hl 0 rfl) ?_
  refine lv_iload_n hx hb dX7_sample__1 rfl (lv_at hl 1 rfl) ?_
  refine lv_iconst (v := (-1)) hx hb dX7_sample__2 (by decide) ?_
  refine rc_callr (wr := []) (va_runV (As := [.int 0, .int (-1)]) (rest := []) (Ts := []) ⟨hx, hb, hml, hown, fun _ h9 => absurd h9 List.not_mem_nil⟩ (cw_X7_sample_3 l E _ h0 h1 h2 h3 h4 h5) (rc_cwV hAm qw_971 qw_13 qw_974 qw_973 qs_55 rfl rfl hd_X7_sample ⟨Nat.le_of_ble_eq_true rfl, Nat.le_of_ble_eq_true rfl⟩) (rc_preV hAm hA hw [0, 1] rfl rfl 0 rfl (q := vwCl[12]) rfl) rfl rfl hl.1 rfl (lv_room (Nat.le_of_ble_eq_true rfl)) dX7_sample__3 ⟨Nat.le_of_ble_eq_true rfl, Nat.le_of_ble_eq_true rfl⟩) hA hw [0, 1] [] rfl rfl rfl (by decide) (fun u_2 r_1 H locs hp hw => ?_)
  obtain ⟨q1, rfl, rfl⟩ := hp
  have hw : rc_W E A s [(h0, .inr (12, [.int 0, .ref h1, .ref h2, .ref h3, .ref h4, .ref h5, .int 1, .int 3, .int 50, .int (-1), .int (-1), .int (-1), .int (-1), .int 0, .int 100, .int 1000, .long 4712863531752146291])), (h3, .inr (4, [.int 0, .ref (E.2.2 0), .int 0])), (q1, .inl (E.2.1 0, 0, .inl (va_cpy (fun _ => 0) (fun _ => 0) 6 0 0)))] H locs := hw
  exact rc_aret (v := q1) hx hb hr (by first | exact Or.inl ⟨_, rfl⟩ | exact Or.inr ⟨_, rfl⟩) hlocks hw [(h0, .inr (12, [.int 0, .ref h1, .ref h2, .ref h3, .ref h4, .ref h5, .int 1, .int 3, .int 50, .int (-1), .int (-1), .int (-1), .int (-1), .int 0, .int 100, .int 1000, .long 4712863531752146291])), (h3, .inr (4, [.int 0, .ref (E.2.2 0), .int 0])), (q1, .inl (E.2.1 0, 0, .inl (va_cpy (fun _ => 0) (fun _ => 0) 6 0 0)))] (⟨q1, rfl, rfl⟩) [0, 1, 2] rfl (by decide) (Nat.le_of_ble_eq_true rfl) (Nat.le_of_ble_eq_true rfl) dX7_sample__6
set_option maxHeartbeats 4000000 in
set_option maxRecDepth 100000 in
theorem cw_X7_ofChangeNow_3 (l : Launch) (E : rc_E) (sz : Nat) (h0 : Nat) (h1 : Nat) (h2 : Nat) (h3 : Nat) (h4 : Nat) (h5 : Nat) : rc_Mi l yX7_ofChangeNow [Cond.code yX7_ofChangeNow cX7_ofChangeNow 6 (some FieldType.int)] { frames := 5, cells := 3, slots := 10, locals := 132 } E [.ref h0, .int 0, .int 1] [(h0, .inr (12, [.int 0, .ref h1, .ref h2, .ref h3, .ref h4, .ref h5, .int 1, .int 3, .int 50, .int (-1), .int (-1), .int (-1), .int (-1), .int 0, .int 100, .int 1000, .long 4712863531752146291])), (h3, .inr (4, [.int 0, .ref (E.2.2 0), .int 0]))] sz (S := va_W) (fun (r : Int32) (u : va_W) => (0 = r ∧ u = [(h0, .inr (12, [.int 0, .ref h1, .ref h2, .ref h3, .ref h4, .ref h5, .int 1, .int 3, .int 50, .int (-1), .int (-1), .int (-1), .int (-1), .int 0, .int 100, .int 1000, .long 4712863531752146291])), (h3, .inr (4, [.int 0, .ref (E.2.2 0), .int 0]))])) (fun u => u) 3 10 := by
  refine rc_ini (cc := cX7_ofChangeNow) (maxL := 6) (ret := (some FieldType.int)) (by decide) rfl (Nat.le_of_ble_eq_true rfl) ?_
  intro p e s m args below meth c ls A hx hb hr hml _ hown hlocks hin hA hAm hw hl
  have hown : s.vm.findClass RX7 = some m.cls := hown
  have hl : lv_has ls 6 [(0, .ref h0), (1, .int 0), (2, .int 1)] := hl
  refine lv_iconst (v := 0) hx hb dX7_ofChangeNow_0 (by decide) ?_
  refine lv_istore_n (lv' := [(3, .int 0), (0, .ref h0), (1, .int 0), (2, .int 1)]) hx hb dX7_ofChangeNow_1 rfl hl (by decide) rfl (fun ls hl => ?_)
  refine lv_aload_n hx hb dX7_ofChangeNow_2 rfl (lv_at hl 1 rfl) ?_
  refine rc_get (v := .ref h3) hx hb hown hAm hw lyX7 0 rfl rfl 3 (by decide) qw_863 (fun _ h9 => h9) rfl dX7_ofChangeNow_3 ?_
  refine rc_callr (wr := [(h0, .inr (12, [.int 0, .ref h1, .ref h2, .ref h3, .ref h4, .ref h5, .int 1, .int 3, .int 50, .int (-1), .int (-1), .int (-1), .int (-1), .int 0, .int 100, .int 1000, .long 4712863531752146291]))]) (va_runV (As := []) (rest := []) (Ts := []) ⟨hx, hb, hml, hown, fun _ h9 => absurd h9 List.not_mem_nil⟩ (cw_Jx4a65c_iterator_32c93 l E _ h3) (rc_cwV hAm qw_1295 qw_4 qw_1298 qw_1296 qw_1297 rfl rfl hd_Jx4a65c_iterator_32c93 ⟨Nat.le_of_ble_eq_true rfl, Nat.le_of_ble_eq_true rfl⟩) (rc_preV hAm hA hw [1] rfl rfl 1 rfl (q := vwCl[4]) rfl) rfl rfl hl.1 rfl (lv_room (Nat.le_of_ble_eq_true rfl)) dX7_ofChangeNow_6 ⟨Nat.le_of_ble_eq_true rfl, Nat.le_of_ble_eq_true rfl⟩) hA hw [1] [0] rfl rfl rfl (by decide) (fun u_2 r_1 H locs hp hw => ?_)
  obtain ⟨q1, rfl, rfl⟩ := hp
  have hw : rc_W E A s [(h0, .inr (12, [.int 0, .ref h1, .ref h2, .ref h3, .ref h4, .ref h5, .int 1, .int 3, .int 50, .int (-1), .int (-1), .int (-1), .int (-1), .int 0, .int 100, .int 1000, .long 4712863531752146291])), (h3, .inr (4, [.int 0, .ref (E.2.2 0), .int 0])), (q1, .inr (3, [.int 0, .int (-1), .int 0, .ref h3]))] H locs := hw
  refine lv_astore (lv' := [(4, .ref q1), (3, .int 0), (0, .ref h0), (1, .int 0), (2, .int 1)]) hx hb dX7_ofChangeNow_9 hl (by decide) rfl (fun ls hl => ?_)
  refine lv_aload hx hb dX7_ofChangeNow_11 (lv_at hl 0 rfl) ?_
  refine rc_callFi (wr := [(h0, .inr (12, [.int 0, .ref h1, .ref h2, .ref h3, .ref h4, .ref h5, .int 1, .int 3, .int 50, .int (-1), .int (-1), .int (-1), .int (-1), .int 0, .int 100, .int 1000, .long 4712863531752146291]))]) (va_runF (As := []) (rest := []) (Ts := []) ((hAm.K.1 3 _ rfl).2) ⟨hx, hb, hml, hown, fun _ h9 => absurd h9 List.not_mem_nil⟩ (cw_Jx35411_hasNext_aae02 l E _ q1 h3) (rc_cwF (C := "java/util/ArrayList$Itr") (n := 0) hAm qw_1319 qw_32 qw_1327 qw_1325 qw_1323 qw_1321 qw_1320 (by decide +kernel) qw_1326 qw_1324 qw_1322 rfl rfl (by decide +kernel) ⟨Nat.le_of_ble_eq_true rfl, Nat.le_of_ble_eq_true rfl⟩) (rc_preV hAm hA hw [2, 1] rfl rfl 2 rfl (q := vwCl[3]) rfl) rfl rfl hl.1 rfl (lv_room (Nat.le_of_ble_eq_true rfl)) dX7_ofChangeNow_13 ⟨Nat.le_of_ble_eq_true rfl, Nat.le_of_ble_eq_true rfl⟩) hA hw [2, 1] [0] rfl rfl rfl (by decide) (fun r_3 u_4 H locs hp hw => ?_)
  obtain ⟨rfl, rfl⟩ := hp
  have hw : rc_W E A s [(h0, .inr (12, [.int 0, .ref h1, .ref h2, .ref h3, .ref h4, .ref h5, .int 1, .int 3, .int 50, .int (-1), .int (-1), .int (-1), .int (-1), .int 0, .int 100, .int 1000, .long 4712863531752146291])), (q1, .inr (3, [.int 0, .int (-1), .int 0, .ref h3])), (h3, .inr (4, [.int 0, .ref (E.2.2 0), .int 0]))] H locs := hw
  refine lv_if_eq (tgt := 52) hx hb dX7_ofChangeNow_18 (by decide) (fun _ => ?_) (fun c9 => absurd (by decide) c9)
  refine lv_aload_n hx hb dX7_ofChangeNow_52 rfl (lv_at hl 2 rfl) ?_
  refine lv_iload_n hx hb dX7_ofChangeNow_53 rfl (lv_at hl 3 rfl) ?_
  refine rc_callr (wr := [(q1, .inr (3, [.int 0, .int (-1), .int 0, .ref h3]))]) (va_runV (As := [.int 0]) (rest := []) (Ts := []) ⟨hx, hb, hml, hown, fun _ h9 => absurd h9 List.not_mem_nil⟩ (cw_X7_sample__3 l E _ h0 h1 h2 h3 h4 h5) (rc_cwV hAm qw_967 qw_13 qw_970 qw_969 qs_54 rfl rfl hd_X7_sample_ ⟨Nat.le_of_ble_eq_true rfl, Nat.le_of_ble_eq_true rfl⟩) (rc_preV hAm hA hw [0, 2] rfl rfl 0 rfl (q := vwCl[12]) rfl) rfl rfl hl.1 rfl (lv_room (Nat.le_of_ble_eq_true rfl)) dX7_ofChangeNow_54 ⟨Nat.le_of_ble_eq_true rfl, Nat.le_of_ble_eq_true rfl⟩) hA hw [0, 2] [1] rfl rfl rfl (by decide) (fun u_6 r_5 H locs hp hw => ?_)
  obtain ⟨q2, rfl, rfl⟩ := hp
  have hw : rc_W E A s [(q1, .inr (3, [.int 0, .int (-1), .int 0, .ref h3])), (h0, .inr (12, [.int 0, .ref h1, .ref h2, .ref h3, .ref h4, .ref h5, .int 1, .int 3, .int 50, .int (-1), .int (-1), .int (-1), .int (-1), .int 0, .int 100, .int 1000, .long 4712863531752146291])), (h3, .inr (4, [.int 0, .ref (E.2.2 0), .int 0])), (q2, .inl (E.2.1 0, 0, .inl (va_cpy (fun _ => 0) (fun _ => 0) 6 0 0)))] H locs := hw
  refine lv_astore (lv' := [(4, .ref q2), (3, .int 0), (0, .ref h0), (1, .int 0), (2, .int 1)]) hx hb dX7_ofChangeNow_57 hl (by decide) rfl (fun ls hl => ?_)
  refine lv_aload hx hb dX7_ofChangeNow_59 (lv_at hl 0 rfl) ?_
  refine rc_callv (wr := [(q1, .inr (3, [.int 0, .int (-1), .int 0, .ref h3])), (h0, .inr (12, [.int 0, .ref h1, .ref h2, .ref h3, .ref h4, .ref h5, .int 1, .int 3, .int 50, .int (-1), .int (-1), .int (-1), .int (-1), .int 0, .int 100, .int 1000, .long 4712863531752146291])), (h3, .inr (4, [.int 0, .ref (E.2.2 0), .int 0]))]) (va_runS (As := [.ref q2]) (rest := []) (Ts := []) ⟨hx, hb, hml, hown, fun _ h9 => absurd h9 List.not_mem_nil⟩ (cw_J7_sort_2022b l E _ q2 (va_cpy (fun _ => 0) (fun _ => 0) 6 0 0)) (rc_cwS hAm qw_1241 qw_11 qw_1243 qw_1242 rfl rfl hd_J7_sort_2022b ⟨Nat.le_of_ble_eq_true rfl, Nat.le_of_ble_eq_true rfl⟩) (rc_preS hAm hA hw [3] rfl rfl) rfl rfl hl.1 rfl (lv_room (Nat.le_of_ble_eq_true rfl)) dX7_ofChangeNow_61 ⟨Nat.le_of_ble_eq_true rfl, Nat.le_of_ble_eq_true rfl⟩) hA hw [3] [0, 1, 2] rfl rfl rfl (by decide) (fun u_8 H locs hp hw => ?_)
  obtain ⟨rfl⟩ := hp
  have hw : rc_W E A s [(q1, .inr (3, [.int 0, .int (-1), .int 0, .ref h3])), (h0, .inr (12, [.int 0, .ref h1, .ref h2, .ref h3, .ref h4, .ref h5, .int 1, .int 3, .int 50, .int (-1), .int (-1), .int (-1), .int (-1), .int 0, .int 100, .int 1000, .long 4712863531752146291])), (h3, .inr (4, [.int 0, .ref (E.2.2 0), .int 0])), (q2, .inl (E.2.1 0, 0, .inl (va_cpy (fun _ => 0) (fun _ => 0) 6 0 0)))] H locs := hw
  refine lv_aload hx hb dX7_ofChangeNow_64 (lv_at hl 0 rfl) ?_
  refine rc_alen hx hb hAm hw 3 0 rfl rfl 0 rfl dX7_ofChangeNow_66 ?_
  refine lv_iconst (v := 1) hx hb dX7_ofChangeNow_67 (by decide) ?_
  refine lv_isub hx hb dX7_ofChangeNow_68 ?_
  refine rc_topi (-1) (by decide) ?_
  refine lv_istore (lv' := [(5, .int (-1)), (4, .ref q2), (3, .int 0), (0, .ref h0), (1, .int 0), (2, .int 1)]) hx hb dX7_ofChangeNow_69 hl (by decide) rfl (fun ls hl => ?_)
  refine lv_iload_n hx hb dX7_ofChangeNow_71 rfl (lv_at hl 5 rfl) ?_
  refine lv_tableIn (tgt := 110) hx hb dX7_ofChangeNow_72 (by decide) (by decide) rfl (by decide) ?_
  refine lv_aload hx hb dX7_ofChangeNow_110 (lv_at hl 1 rfl) ?_
  refine rc_alen hx hb hAm hw 3 0 rfl rfl 0 rfl dX7_ofChangeNow_112 ?_
  exact rc_iret (v := 0) hx hb hr hlocks hw [(h0, .inr (12, [.int 0, .ref h1, .ref h2, .ref h3, .ref h4, .ref h5, .int 1, .int 3, .int 50, .int (-1), .int (-1), .int (-1), .int (-1), .int 0, .int 100, .int 1000, .long 4712863531752146291])), (h3, .inr (4, [.int 0, .ref (E.2.2 0), .int 0]))] (⟨rfl, rfl⟩) [1, 2] rfl (by decide) (Nat.le_of_ble_eq_true rfl) (Nat.le_of_ble_eq_true rfl) dX7_ofChangeNow_113
set_option maxHeartbeats 4000000 in
set_option maxRecDepth 100000 in
theorem cw_X7_add_11 (l : Launch) (E : rc_E) (sz : Nat) (h0 : Nat) (h1 : Nat) (h2 : Nat) (h3 : Nat) (h4 : Nat) (h5 : Nat) : rc_Mv l yX7_add [Cond.code yX7_add cX7_add 2 (none : Option FieldType)] { frames := 0, cells := 0, slots := 0, locals := 0 } E [.ref h0, .int 0] [(h0, .inr (12, [.int 0, .ref h1, .ref h2, .ref h3, .ref h4, .ref h5, .int 1, .int 3, .int 50, .int (-1), .int (-1), .int (-1), .int (-1), .int 0, .int 100, .int 1000, .long 4712863531752146291]))] sz (S := va_W) (fun (u : va_W) => (u = [(h0, .inr (12, [.int 0, .ref h1, .ref h2, .ref h3, .ref h4, .ref h5, .int 1, .int 3, .int 50, .int (-1), .int (-1), .int (-1), .int (-1), .int 0, .int 100, .int 1000, .long (-1475183105359877907)]))])) (fun u => u) 0 0 := by
  refine rc_inv (cc := cX7_add) (maxL := 2) (ret := (none : Option FieldType)) (by decide) rfl (Nat.le_of_ble_eq_true rfl) ?_
  intro p e s m args below meth c ls A hx hb hr hml _ hown hlocks hin hA hAm hw hl
  have hown : s.vm.findClass RX7 = some m.cls := hown
  have hl : lv_has ls 2 [(0, .ref h0), (1, .int 0)] := hl
  refine lv_aload_n hx hb dX7_add_0 rfl (lv_at hl 0 rfl) ?_
  refine lv_aload_n hx hb dX7_add_1 rfl (lv_at hl 0 rfl) ?_
  refine rc_get (v := .long 4712863531752146291) hx hb hown hAm hw lyX7 0 rfl rfl 16 (by decide) qw_876 (fun _ h9 => h9) rfl dX7_add_2 ?_
  refine lv_ldc2 (v := 31) hx hb hown (hAm.wd qw_1470 rfl rfl) dX7_add_5 ?_
  refine lv_lmul hx hb dX7_add_8 ?_
  refine rc_topl (-1475183105359877907) (by decide) ?_
  refine lv_iload_n hx hb dX7_add_9 rfl (lv_at hl 1 rfl) ?_
  refine lv_i2l (v := 0) hx hb dX7_add_10 (by decide) ?_
  refine lv_ladd hx hb dX7_add_11 ?_
  refine rc_topl (-1475183105359877907) (by decide) ?_
  refine rc_put hx hb hown hAm hw lyX7 tyX7 tyX7_ok nmX7 0 rfl rfl 16 (by decide) qw_876 (fun _ h9 => h9) rfl rfl (by decide +kernel) (Nat.le_of_ble_eq_true rfl) [(h0, .inr (12, [.int 0, .ref h1, .ref h2, .ref h3, .ref h4, .ref h5, .int 1, .int 3, .int 50, .int (-1), .int (-1), .int (-1), .int (-1), .int 0, .int 100, .int 1000, .long (-1475183105359877907)]))] rfl dX7_add_12 (fun H locs hw => ?_)
  exact rc_vret hx hb hr hlocks hw [(h0, .inr (12, [.int 0, .ref h1, .ref h2, .ref h3, .ref h4, .ref h5, .int 1, .int 3, .int 50, .int (-1), .int (-1), .int (-1), .int (-1), .int 0, .int 100, .int 1000, .long (-1475183105359877907)]))] (rfl) [0] rfl (by decide) (Nat.le_of_ble_eq_true rfl) (Nat.le_of_ble_eq_true rfl) dX7_add_15
set_option maxHeartbeats 4000000 in
set_option maxRecDepth 100000 in
theorem cw_X7_sample_4 (l : Launch) (E : rc_E) (sz : Nat) (h0 : Nat) (h1 : Nat) (h2 : Nat) (h3 : Nat) (h4 : Nat) (h5 : Nat) : rc_Mr l yX7_sample [Cond.code yX7_sample cX7_sample 6 (some (FieldType.array FieldType.int))] { frames := 3, cells := 2, slots := 6, locals := 86 } E [.ref h0, .int 0, .int (-1)] [(h0, .inr (12, [.int 0, .ref h1, .ref h2, .ref h3, .ref h4, .ref h5, .int 1, .int 3, .int 50, .int (-1), .int (-1), .int (-1), .int (-1), .int 0, .int 100, .int 1000, .long (-1475183105359877907)])), (h3, .inr (4, [.int 0, .ref (E.2.2 0), .int 0]))] sz (S := va_W) (fun (u : va_W) (r : Nat) => (∃ q2 : Nat, q2 = r ∧ u = [(h0, .inr (12, [.int 0, .ref h1, .ref h2, .ref h3, .ref h4, .ref h5, .int 1, .int 3, .int 50, .int (-1), .int (-1), .int (-1), .int (-1), .int 0, .int 100, .int 1000, .long (-1475183105359877907)])), (h3, .inr (4, [.int 0, .ref (E.2.2 0), .int 0])), (q2, .inl (E.2.1 0, 0, .inl (va_cpy (fun _ => 0) (fun _ => 0) 6 0 0)))])) (fun u => u) 2 6 := by
  refine rc_inr (cc := cX7_sample) (maxL := 6) (ret := (some (FieldType.array FieldType.int))) (by decide) rfl (Nat.le_of_ble_eq_true rfl) ?_
  intro p e s m args below meth c ls A hx hb hr hml _ hown hlocks hin hA hAm hw hl
  have hown : s.vm.findClass RX7 = some m.cls := hown
  have hl : lv_has ls 6 [(0, .ref h0), (1, .int 0), (2, .int (-1))] := hl
  refine lv_bipush (v := 6) hx hb dX7_sample_0 (by decide) ?_
  refine rc_inew hx hb hAm hA hw qw_108 6 (by decide) (by decide) (Nat.le_of_ble_eq_true rfl) (Nat.le_of_ble_eq_true rfl) (Nat.le_of_ble_eq_true rfl) dX7_sample_2 (fun q1 H hw => ?_)
  have hw : rc_W E A s [(h0, .inr (12, [.int 0, .ref h1, .ref h2, .ref h3, .ref h4, .ref h5, .int 1, .int 3, .int 50, .int (-1), .int (-1), .int (-1), .int (-1), .int 0, .int 100, .int 1000, .long (-1475183105359877907)])), (h3, .inr (4, [.int 0, .ref (E.2.2 0), .int 0])), (q1, .inl (E.2.1 0, 6, .inl (fun _ => 0)))] H _ := hw
  refine lv_astore_n (lv' := [(3, .ref q1), (0, .ref h0), (1, .int 0), (2, .int (-1))]) hx hb dX7_sample_4 rfl hl (by decide) rfl (fun ls hl => ?_)
  refine lv_iconst (v := 0) hx hb dX7_sample_5 (by decide) ?_
  refine lv_istore (lv' := [(4, .int 0), (3, .ref q1), (0, .ref h0), (1, .int 0), (2, .int (-1))]) hx hb dX7_sample_6 hl (by decide) rfl (fun ls hl => ?_)
  refine lv_aload_n hx hb dX7_sample_8 rfl (lv_at hl 2 rfl) ?_
  refine rc_get (v := .ref h3) hx hb hown hAm hw lyX7 0 rfl rfl 3 (by decide) qw_863 (fun _ h9 => h9) rfl dX7_sample_9 ?_
  refine rc_calli (wr := [(h0, .inr (12, [.int 0, .ref h1, .ref h2, .ref h3, .ref h4, .ref h5, .int 1, .int 3, .int 50, .int (-1), .int (-1), .int (-1), .int (-1), .int 0, .int 100, .int 1000, .long (-1475183105359877907)])), (q1, .inl (E.2.1 0, 6, .inl (fun _ => 0)))]) (va_runV (As := []) (rest := []) (Ts := []) ⟨hx, hb, hml, hown, fun _ h9 => absurd h9 List.not_mem_nil⟩ (cw_Jx4a65c_size_8abf5 l E _ h3) (rc_cwV hAm qw_928 qw_4 qw_289 qw_287 qw_288 rfl rfl hd_Jx4a65c_size_8abf5 ⟨Nat.le_of_ble_eq_true rfl, Nat.le_of_ble_eq_true rfl⟩) (rc_preV hAm hA hw [1] rfl rfl 1 rfl (q := vwCl[4]) rfl) rfl rfl hl.1 rfl (lv_room (Nat.le_of_ble_eq_true rfl)) dX7_sample_12 ⟨Nat.le_of_ble_eq_true rfl, Nat.le_of_ble_eq_true rfl⟩) hA hw [1] [0, 2] rfl rfl rfl (by decide) (fun r_1 u_2 H locs hp hw => ?_)
  obtain ⟨rfl, rfl⟩ := hp
  have hw : rc_W E A s [(h0, .inr (12, [.int 0, .ref h1, .ref h2, .ref h3, .ref h4, .ref h5, .int 1, .int 3, .int 50, .int (-1), .int (-1), .int (-1), .int (-1), .int 0, .int 100, .int 1000, .long (-1475183105359877907)])), (q1, .inl (E.2.1 0, 6, .inl (fun _ => 0))), (h3, .inr (4, [.int 0, .ref (E.2.2 0), .int 0]))] H locs := hw
  refine lv_iconst (v := 1) hx hb dX7_sample_15 (by decide) ?_
  refine lv_isub hx hb dX7_sample_16 ?_
  refine rc_topi (-1) (by decide) ?_
  refine lv_istore (lv' := [(5, .int (-1)), (4, .int 0), (3, .ref q1), (0, .ref h0), (1, .int 0), (2, .int (-1))]) hx hb dX7_sample_17 hl (by decide) rfl (fun ls hl => ?_)
  refine lv_iload hx hb dX7_sample_19 (lv_at hl 0 rfl) ?_
  refine lv_if_lt (tgt := 102) hx hb dX7_sample_21 (by decide) (fun _ => ?_) (fun c9 => absurd (by decide) c9)
  refine lv_aload_n hx hb dX7_sample_102 rfl (lv_at hl 2 rfl) ?_
  refine lv_bipush (v := 6) hx hb dX7_sample_103 (by decide) ?_
  refine lv_iload hx hb dX7_sample_105 (lv_at hl 1 rfl) ?_
  refine lv_isub hx hb dX7_sample_107 ?_
  refine rc_topi 6 (by decide) ?_
  refine lv_bipush (v := 6) hx hb dX7_sample_108 (by decide) ?_
  refine rc_callr (wr := [(h0, .inr (12, [.int 0, .ref h1, .ref h2, .ref h3, .ref h4, .ref h5, .int 1, .int 3, .int 50, .int (-1), .int (-1), .int (-1), .int (-1), .int 0, .int 100, .int 1000, .long (-1475183105359877907)])), (h3, .inr (4, [.int 0, .ref (E.2.2 0), .int 0]))]) (va_runS (As := [.ref q1, .int 6, .int 6]) (rest := []) (Ts := []) ⟨hx, hb, hml, hown, fun _ h9 => absurd h9 List.not_mem_nil⟩ (cw_J7_copyOfRange_feecc l E _ q1) (rc_cwS hAm qw_992 qw_11 qw_994 qw_993 rfl rfl hd_J7_copyOfRange_feecc ⟨Nat.le_of_ble_eq_true rfl, Nat.le_of_ble_eq_true rfl⟩) (rc_preS hAm hA hw [1] rfl rfl) rfl rfl hl.1 rfl (lv_room (Nat.le_of_ble_eq_true rfl)) dX7_sample_110 ⟨Nat.le_of_ble_eq_true rfl, Nat.le_of_ble_eq_true rfl⟩) hA hw [1] [0, 2] rfl rfl rfl (by decide) (fun u_4 r_3 H locs hp hw => ?_)
  obtain ⟨q2, rfl, rfl⟩ := hp
  have hw : rc_W E A s [(h0, .inr (12, [.int 0, .ref h1, .ref h2, .ref h3, .ref h4, .ref h5, .int 1, .int 3, .int 50, .int (-1), .int (-1), .int (-1), .int (-1), .int 0, .int 100, .int 1000, .long (-1475183105359877907)])), (h3, .inr (4, [.int 0, .ref (E.2.2 0), .int 0])), (q1, .inl (E.2.1 0, 6, .inl (fun _ => 0))), (q2, .inl (E.2.1 0, 0, .inl (va_cpy (fun _ => 0) (fun _ => 0) 6 0 0)))] H locs := hw
  exact rc_aret (v := q2) hx hb hr (by first | exact Or.inl ⟨_, rfl⟩ | exact Or.inr ⟨_, rfl⟩) hlocks hw [(h0, .inr (12, [.int 0, .ref h1, .ref h2, .ref h3, .ref h4, .ref h5, .int 1, .int 3, .int 50, .int (-1), .int (-1), .int (-1), .int (-1), .int 0, .int 100, .int 1000, .long (-1475183105359877907)])), (h3, .inr (4, [.int 0, .ref (E.2.2 0), .int 0])), (q2, .inl (E.2.1 0, 0, .inl (va_cpy (fun _ => 0) (fun _ => 0) 6 0 0)))] (⟨q2, rfl, rfl⟩) [0, 1, 3] rfl (by decide) (Nat.le_of_ble_eq_true rfl) (Nat.le_of_ble_eq_true rfl) dX7_sample_113
set_option maxHeartbeats 4000000 in
set_option maxRecDepth 100000 in
theorem cw_X7_sample__4 (l : Launch) (E : rc_E) (sz : Nat) (h0 : Nat) (h1 : Nat) (h2 : Nat) (h3 : Nat) (h4 : Nat) (h5 : Nat) : rc_Mr l yX7_sample_ [Cond.code yX7_sample_ cX7_sample_ 2 (some (FieldType.array FieldType.int))] { frames := 4, cells := 2, slots := 6, locals := 111 } E [.ref h0, .int 0] [(h0, .inr (12, [.int 0, .ref h1, .ref h2, .ref h3, .ref h4, .ref h5, .int 1, .int 3, .int 50, .int (-1), .int (-1), .int (-1), .int (-1), .int 0, .int 100, .int 1000, .long (-1475183105359877907)])), (h3, .inr (4, [.int 0, .ref (E.2.2 0), .int 0]))] sz (S := va_W) (fun (u : va_W) (r : Nat) => (∃ q1 : Nat, q1 = r ∧ u = [(h0, .inr (12, [.int 0, .ref h1, .ref h2, .ref h3, .ref h4, .ref h5, .int 1, .int 3, .int 50, .int (-1), .int (-1), .int (-1), .int (-1), .int 0, .int 100, .int 1000, .long (-1475183105359877907)])), (h3, .inr (4, [.int 0, .ref (E.2.2 0), .int 0])), (q1, .inl (E.2.1 0, 0, .inl (va_cpy (fun _ => 0) (fun _ => 0) 6 0 0)))])) (fun u => u) 2 6 := by
  refine rc_inr (cc := cX7_sample_) (maxL := 2) (ret := (some (FieldType.array FieldType.int))) (by decide) rfl (Nat.le_of_ble_eq_true rfl) ?_
  intro p e s m args below meth c ls A hx hb hr hml _ hown hlocks hin hA hAm hw hl
  have hown : s.vm.findClass RX7 = some m.cls := hown
  have hl : lv_has ls 2 [(0, .ref h0), (1, .int 0)] := hl
  refine lv_aload_n hx hb dX7_sample__0 rfl (lv_at hl 0 rfl) ?_
  refine lv_iload_n hx hb dX7_sample__1 rfl (lv_at hl 1 rfl) ?_
  refine lv_iconst (v := (-1)) hx hb dX7_sample__2 (by decide) ?_
  refine rc_callr (wr := []) (va_runV (As := [.int 0, .int (-1)]) (rest := []) (Ts := []) ⟨hx, hb, hml, hown, fun _ h9 => absurd h9 List.not_mem_nil⟩ (cw_X7_sample_4 l E _ h0 h1 h2 h3 h4 h5) (rc_cwV hAm qw_971 qw_13 qw_974 qw_973 qs_55 rfl rfl hd_X7_sample ⟨Nat.le_of_ble_eq_true rfl, Nat.le_of_ble_eq_true rfl⟩) (rc_preV hAm hA hw [0, 1] rfl rfl 0 rfl (q := vwCl[12]) rfl) rfl rfl hl.1 rfl (lv_room (Nat.le_of_ble_eq_true rfl)) dX7_sample__3 ⟨Nat.le_of_ble_eq_true rfl, Nat.le_of_ble_eq_true rfl⟩) hA hw [0, 1] [] rfl rfl rfl (by decide) (fun u_2 r_1 H locs hp hw => ?_)
  obtain ⟨q1, rfl, rfl⟩ := hp
  have hw : rc_W E A s [(h0, .inr (12, [.int 0, .ref h1, .ref h2, .ref h3, .ref h4, .ref h5, .int 1, .int 3, .int 50, .int (-1), .int (-1), .int (-1), .int (-1), .int 0, .int 100, .int 1000, .long (-1475183105359877907)])), (h3, .inr (4, [.int 0, .ref (E.2.2 0), .int 0])), (q1, .inl (E.2.1 0, 0, .inl (va_cpy (fun _ => 0) (fun _ => 0) 6 0 0)))] H locs := hw
  exact rc_aret (v := q1) hx hb hr (by first | exact Or.inl ⟨_, rfl⟩ | exact Or.inr ⟨_, rfl⟩) hlocks hw [(h0, .inr (12, [.int 0, .ref h1, .ref h2, .ref h3, .ref h4, .ref h5, .int 1, .int 3, .int 50, .int (-1), .int (-1), .int (-1), .int (-1), .int 0, .int 100, .int 1000, .long (-1475183105359877907)])), (h3, .inr (4, [.int 0, .ref (E.2.2 0), .int 0])), (q1, .inl (E.2.1 0, 0, .inl (va_cpy (fun _ => 0) (fun _ => 0) 6 0 0)))] (⟨q1, rfl, rfl⟩) [0, 1, 2] rfl (by decide) (Nat.le_of_ble_eq_true rfl) (Nat.le_of_ble_eq_true rfl) dX7_sample__6
set_option maxHeartbeats 4000000 in
set_option maxRecDepth 100000 in
theorem cw_X7_ofChangeNow_4 (l : Launch) (E : rc_E) (sz : Nat) (h0 : Nat) (h1 : Nat) (h2 : Nat) (h3 : Nat) (h4 : Nat) (h5 : Nat) : rc_Mi l yX7_ofChangeNow [Cond.code yX7_ofChangeNow cX7_ofChangeNow 6 (some FieldType.int)] { frames := 5, cells := 3, slots := 10, locals := 132 } E [.ref h0, .int 0, .int 2] [(h0, .inr (12, [.int 0, .ref h1, .ref h2, .ref h3, .ref h4, .ref h5, .int 1, .int 3, .int 50, .int (-1), .int (-1), .int (-1), .int (-1), .int 0, .int 100, .int 1000, .long (-1475183105359877907)])), (h3, .inr (4, [.int 0, .ref (E.2.2 0), .int 0]))] sz (S := va_W) (fun (r : Int32) (u : va_W) => ((-1) = r ∧ u = [(h0, .inr (12, [.int 0, .ref h1, .ref h2, .ref h3, .ref h4, .ref h5, .int 1, .int 3, .int 50, .int (-1), .int (-1), .int (-1), .int (-1), .int 0, .int 100, .int 1000, .long (-1475183105359877907)])), (h3, .inr (4, [.int 0, .ref (E.2.2 0), .int 0]))])) (fun u => u) 3 10 := by
  refine rc_ini (cc := cX7_ofChangeNow) (maxL := 6) (ret := (some FieldType.int)) (by decide) rfl (Nat.le_of_ble_eq_true rfl) ?_
  intro p e s m args below meth c ls A hx hb hr hml _ hown hlocks hin hA hAm hw hl
  have hown : s.vm.findClass RX7 = some m.cls := hown
  have hl : lv_has ls 6 [(0, .ref h0), (1, .int 0), (2, .int 2)] := hl
  refine lv_iconst (v := 0) hx hb dX7_ofChangeNow_0 (by decide) ?_
  refine lv_istore_n (lv' := [(3, .int 0), (0, .ref h0), (1, .int 0), (2, .int 2)]) hx hb dX7_ofChangeNow_1 rfl hl (by decide) rfl (fun ls hl => ?_)
  refine lv_aload_n hx hb dX7_ofChangeNow_2 rfl (lv_at hl 1 rfl) ?_
  refine rc_get (v := .ref h3) hx hb hown hAm hw lyX7 0 rfl rfl 3 (by decide) qw_863 (fun _ h9 => h9) rfl dX7_ofChangeNow_3 ?_
  refine rc_callr (wr := [(h0, .inr (12, [.int 0, .ref h1, .ref h2, .ref h3, .ref h4, .ref h5, .int 1, .int 3, .int 50, .int (-1), .int (-1), .int (-1), .int (-1), .int 0, .int 100, .int 1000, .long (-1475183105359877907)]))]) (va_runV (As := []) (rest := []) (Ts := []) ⟨hx, hb, hml, hown, fun _ h9 => absurd h9 List.not_mem_nil⟩ (cw_Jx4a65c_iterator_32c93 l E _ h3) (rc_cwV hAm qw_1295 qw_4 qw_1298 qw_1296 qw_1297 rfl rfl hd_Jx4a65c_iterator_32c93 ⟨Nat.le_of_ble_eq_true rfl, Nat.le_of_ble_eq_true rfl⟩) (rc_preV hAm hA hw [1] rfl rfl 1 rfl (q := vwCl[4]) rfl) rfl rfl hl.1 rfl (lv_room (Nat.le_of_ble_eq_true rfl)) dX7_ofChangeNow_6 ⟨Nat.le_of_ble_eq_true rfl, Nat.le_of_ble_eq_true rfl⟩) hA hw [1] [0] rfl rfl rfl (by decide) (fun u_2 r_1 H locs hp hw => ?_)
  obtain ⟨q1, rfl, rfl⟩ := hp
  have hw : rc_W E A s [(h0, .inr (12, [.int 0, .ref h1, .ref h2, .ref h3, .ref h4, .ref h5, .int 1, .int 3, .int 50, .int (-1), .int (-1), .int (-1), .int (-1), .int 0, .int 100, .int 1000, .long (-1475183105359877907)])), (h3, .inr (4, [.int 0, .ref (E.2.2 0), .int 0])), (q1, .inr (3, [.int 0, .int (-1), .int 0, .ref h3]))] H locs := hw
  refine lv_astore (lv' := [(4, .ref q1), (3, .int 0), (0, .ref h0), (1, .int 0), (2, .int 2)]) hx hb dX7_ofChangeNow_9 hl (by decide) rfl (fun ls hl => ?_)
  refine lv_aload hx hb dX7_ofChangeNow_11 (lv_at hl 0 rfl) ?_
  refine rc_callFi (wr := [(h0, .inr (12, [.int 0, .ref h1, .ref h2, .ref h3, .ref h4, .ref h5, .int 1, .int 3, .int 50, .int (-1), .int (-1), .int (-1), .int (-1), .int 0, .int 100, .int 1000, .long (-1475183105359877907)]))]) (va_runF (As := []) (rest := []) (Ts := []) ((hAm.K.1 3 _ rfl).2) ⟨hx, hb, hml, hown, fun _ h9 => absurd h9 List.not_mem_nil⟩ (cw_Jx35411_hasNext_aae02 l E _ q1 h3) (rc_cwF (C := "java/util/ArrayList$Itr") (n := 0) hAm qw_1319 qw_32 qw_1327 qw_1325 qw_1323 qw_1321 qw_1320 (by decide +kernel) qw_1326 qw_1324 qw_1322 rfl rfl (by decide +kernel) ⟨Nat.le_of_ble_eq_true rfl, Nat.le_of_ble_eq_true rfl⟩) (rc_preV hAm hA hw [2, 1] rfl rfl 2 rfl (q := vwCl[3]) rfl) rfl rfl hl.1 rfl (lv_room (Nat.le_of_ble_eq_true rfl)) dX7_ofChangeNow_13 ⟨Nat.le_of_ble_eq_true rfl, Nat.le_of_ble_eq_true rfl⟩) hA hw [2, 1] [0] rfl rfl rfl (by decide) (fun r_3 u_4 H locs hp hw => ?_)
  obtain ⟨rfl, rfl⟩ := hp
  have hw : rc_W E A s [(h0, .inr (12, [.int 0, .ref h1, .ref h2, .ref h3, .ref h4, .ref h5, .int 1, .int 3, .int 50, .int (-1), .int (-1), .int (-1), .int (-1), .int 0, .int 100, .int 1000, .long (-1475183105359877907)])), (q1, .inr (3, [.int 0, .int (-1), .int 0, .ref h3])), (h3, .inr (4, [.int 0, .ref (E.2.2 0), .int 0]))] H locs := hw
  refine lv_if_eq (tgt := 52) hx hb dX7_ofChangeNow_18 (by decide) (fun _ => ?_) (fun c9 => absurd (by decide) c9)
  refine lv_aload_n hx hb dX7_ofChangeNow_52 rfl (lv_at hl 2 rfl) ?_
  refine lv_iload_n hx hb dX7_ofChangeNow_53 rfl (lv_at hl 3 rfl) ?_
  refine rc_callr (wr := [(q1, .inr (3, [.int 0, .int (-1), .int 0, .ref h3]))]) (va_runV (As := [.int 0]) (rest := []) (Ts := []) ⟨hx, hb, hml, hown, fun _ h9 => absurd h9 List.not_mem_nil⟩ (cw_X7_sample__4 l E _ h0 h1 h2 h3 h4 h5) (rc_cwV hAm qw_967 qw_13 qw_970 qw_969 qs_54 rfl rfl hd_X7_sample_ ⟨Nat.le_of_ble_eq_true rfl, Nat.le_of_ble_eq_true rfl⟩) (rc_preV hAm hA hw [0, 2] rfl rfl 0 rfl (q := vwCl[12]) rfl) rfl rfl hl.1 rfl (lv_room (Nat.le_of_ble_eq_true rfl)) dX7_ofChangeNow_54 ⟨Nat.le_of_ble_eq_true rfl, Nat.le_of_ble_eq_true rfl⟩) hA hw [0, 2] [1] rfl rfl rfl (by decide) (fun u_6 r_5 H locs hp hw => ?_)
  obtain ⟨q2, rfl, rfl⟩ := hp
  have hw : rc_W E A s [(q1, .inr (3, [.int 0, .int (-1), .int 0, .ref h3])), (h0, .inr (12, [.int 0, .ref h1, .ref h2, .ref h3, .ref h4, .ref h5, .int 1, .int 3, .int 50, .int (-1), .int (-1), .int (-1), .int (-1), .int 0, .int 100, .int 1000, .long (-1475183105359877907)])), (h3, .inr (4, [.int 0, .ref (E.2.2 0), .int 0])), (q2, .inl (E.2.1 0, 0, .inl (va_cpy (fun _ => 0) (fun _ => 0) 6 0 0)))] H locs := hw
  refine lv_astore (lv' := [(4, .ref q2), (3, .int 0), (0, .ref h0), (1, .int 0), (2, .int 2)]) hx hb dX7_ofChangeNow_57 hl (by decide) rfl (fun ls hl => ?_)
  refine lv_aload hx hb dX7_ofChangeNow_59 (lv_at hl 0 rfl) ?_
  refine rc_callv (wr := [(q1, .inr (3, [.int 0, .int (-1), .int 0, .ref h3])), (h0, .inr (12, [.int 0, .ref h1, .ref h2, .ref h3, .ref h4, .ref h5, .int 1, .int 3, .int 50, .int (-1), .int (-1), .int (-1), .int (-1), .int 0, .int 100, .int 1000, .long (-1475183105359877907)])), (h3, .inr (4, [.int 0, .ref (E.2.2 0), .int 0]))]) (va_runS (As := [.ref q2]) (rest := []) (Ts := []) ⟨hx, hb, hml, hown, fun _ h9 => absurd h9 List.not_mem_nil⟩ (cw_J7_sort_2022b l E _ q2 (va_cpy (fun _ => 0) (fun _ => 0) 6 0 0)) (rc_cwS hAm qw_1241 qw_11 qw_1243 qw_1242 rfl rfl hd_J7_sort_2022b ⟨Nat.le_of_ble_eq_true rfl, Nat.le_of_ble_eq_true rfl⟩) (rc_preS hAm hA hw [3] rfl rfl) rfl rfl hl.1 rfl (lv_room (Nat.le_of_ble_eq_true rfl)) dX7_ofChangeNow_61 ⟨Nat.le_of_ble_eq_true rfl, Nat.le_of_ble_eq_true rfl⟩) hA hw [3] [0, 1, 2] rfl rfl rfl (by decide) (fun u_8 H locs hp hw => ?_)
  obtain ⟨rfl⟩ := hp
  have hw : rc_W E A s [(q1, .inr (3, [.int 0, .int (-1), .int 0, .ref h3])), (h0, .inr (12, [.int 0, .ref h1, .ref h2, .ref h3, .ref h4, .ref h5, .int 1, .int 3, .int 50, .int (-1), .int (-1), .int (-1), .int (-1), .int 0, .int 100, .int 1000, .long (-1475183105359877907)])), (h3, .inr (4, [.int 0, .ref (E.2.2 0), .int 0])), (q2, .inl (E.2.1 0, 0, .inl (va_cpy (fun _ => 0) (fun _ => 0) 6 0 0)))] H locs := hw
  refine lv_aload hx hb dX7_ofChangeNow_64 (lv_at hl 0 rfl) ?_
  refine rc_alen hx hb hAm hw 3 0 rfl rfl 0 rfl dX7_ofChangeNow_66 ?_
  refine lv_iconst (v := 1) hx hb dX7_ofChangeNow_67 (by decide) ?_
  refine lv_isub hx hb dX7_ofChangeNow_68 ?_
  refine rc_topi (-1) (by decide) ?_
  refine lv_istore (lv' := [(5, .int (-1)), (4, .ref q2), (3, .int 0), (0, .ref h0), (1, .int 0), (2, .int 2)]) hx hb dX7_ofChangeNow_69 hl (by decide) rfl (fun ls hl => ?_)
  refine lv_iload_n hx hb dX7_ofChangeNow_71 rfl (lv_at hl 5 rfl) ?_
  refine lv_tableIn (tgt := 114) hx hb dX7_ofChangeNow_72 (by decide) (by decide) rfl (by decide) ?_
  refine lv_iload hx hb dX7_ofChangeNow_114 (lv_at hl 0 rfl) ?_
  refine lv_if_ge (tgt := 123) hx hb dX7_ofChangeNow_116 (by decide) (fun c9 => absurd c9 (by decide)) (fun _ => ?_)
  refine lv_iconst (v := (-1)) hx hb dX7_ofChangeNow_119 (by decide) ?_
  refine lv_goto (tgt := 130) hx hb dX7_ofChangeNow_120 (by decide) ?_
  exact rc_iret (v := (-1)) hx hb hr hlocks hw [(h0, .inr (12, [.int 0, .ref h1, .ref h2, .ref h3, .ref h4, .ref h5, .int 1, .int 3, .int 50, .int (-1), .int (-1), .int (-1), .int (-1), .int 0, .int 100, .int 1000, .long (-1475183105359877907)])), (h3, .inr (4, [.int 0, .ref (E.2.2 0), .int 0]))] (⟨rfl, rfl⟩) [1, 2] rfl (by decide) (Nat.le_of_ble_eq_true rfl) (Nat.le_of_ble_eq_true rfl) dX7_ofChangeNow_130
set_option maxHeartbeats 4000000 in
set_option maxRecDepth 100000 in
theorem cw_X7_add_12 (l : Launch) (E : rc_E) (sz : Nat) (h0 : Nat) (h1 : Nat) (h2 : Nat) (h3 : Nat) (h4 : Nat) (h5 : Nat) : rc_Mv l yX7_add [Cond.code yX7_add cX7_add 2 (none : Option FieldType)] { frames := 0, cells := 0, slots := 0, locals := 0 } E [.ref h0, .int (-1)] [(h0, .inr (12, [.int 0, .ref h1, .ref h2, .ref h3, .ref h4, .ref h5, .int 1, .int 3, .int 50, .int (-1), .int (-1), .int (-1), .int (-1), .int 0, .int 100, .int 1000, .long (-1475183105359877907)]))] sz (S := va_W) (fun (u : va_W) => (u = [(h0, .inr (12, [.int 0, .ref h1, .ref h2, .ref h3, .ref h4, .ref h5, .int 1, .int 3, .int 50, .int (-1), .int (-1), .int (-1), .int (-1), .int 0, .int 100, .int 1000, .long (-8837188118737111886)]))])) (fun u => u) 0 0 := by
  refine rc_inv (cc := cX7_add) (maxL := 2) (ret := (none : Option FieldType)) (by decide) rfl (Nat.le_of_ble_eq_true rfl) ?_
  intro p e s m args below meth c ls A hx hb hr hml _ hown hlocks hin hA hAm hw hl
  have hown : s.vm.findClass RX7 = some m.cls := hown
  have hl : lv_has ls 2 [(0, .ref h0), (1, .int (-1))] := hl
  refine lv_aload_n hx hb dX7_add_0 rfl (lv_at hl 0 rfl) ?_
  refine lv_aload_n hx hb dX7_add_1 rfl (lv_at hl 0 rfl) ?_
  refine rc_get (v := .long (-1475183105359877907)) hx hb hown hAm hw lyX7 0 rfl rfl 16 (by decide) qw_876 (fun _ h9 => h9) rfl dX7_add_2 ?_
  refine lv_ldc2 (v := 31) hx hb hown (hAm.wd qw_1470 rfl rfl) dX7_add_5 ?_
  refine lv_lmul hx hb dX7_add_8 ?_
  refine rc_topl (-8837188118737111885) (by decide) ?_
  refine lv_iload_n hx hb dX7_add_9 rfl (lv_at hl 1 rfl) ?_
  refine lv_i2l (v := (-1)) hx hb dX7_add_10 (by decide) ?_
  refine lv_ladd hx hb dX7_add_11 ?_
  refine rc_topl (-8837188118737111886) (by decide) ?_
  refine rc_put hx hb hown hAm hw lyX7 tyX7 tyX7_ok nmX7 0 rfl rfl 16 (by decide) qw_876 (fun _ h9 => h9) rfl rfl (by decide +kernel) (Nat.le_of_ble_eq_true rfl) [(h0, .inr (12, [.int 0, .ref h1, .ref h2, .ref h3, .ref h4, .ref h5, .int 1, .int 3, .int 50, .int (-1), .int (-1), .int (-1), .int (-1), .int 0, .int 100, .int 1000, .long (-8837188118737111886)]))] rfl dX7_add_12 (fun H locs hw => ?_)
  exact rc_vret hx hb hr hlocks hw [(h0, .inr (12, [.int 0, .ref h1, .ref h2, .ref h3, .ref h4, .ref h5, .int 1, .int 3, .int 50, .int (-1), .int (-1), .int (-1), .int (-1), .int 0, .int 100, .int 1000, .long (-8837188118737111886)]))] (rfl) [0] rfl (by decide) (Nat.le_of_ble_eq_true rfl) (Nat.le_of_ble_eq_true rfl) dX7_add_15
set_option maxHeartbeats 4000000 in
set_option maxRecDepth 100000 in
theorem cw_X7_sample_5 (l : Launch) (E : rc_E) (sz : Nat) (h0 : Nat) (h1 : Nat) (h2 : Nat) (h3 : Nat) (h4 : Nat) (h5 : Nat) : rc_Mr l yX7_sample [Cond.code yX7_sample cX7_sample 6 (some (FieldType.array FieldType.int))] { frames := 3, cells := 2, slots := 6, locals := 86 } E [.ref h0, .int 0, .int (-1)] [(h0, .inr (12, [.int 0, .ref h1, .ref h2, .ref h3, .ref h4, .ref h5, .int 1, .int 3, .int 50, .int (-1), .int (-1), .int (-1), .int (-1), .int 0, .int 100, .int 1000, .long (-8837188118737111886)])), (h3, .inr (4, [.int 0, .ref (E.2.2 0), .int 0]))] sz (S := va_W) (fun (u : va_W) (r : Nat) => (∃ q2 : Nat, q2 = r ∧ u = [(h0, .inr (12, [.int 0, .ref h1, .ref h2, .ref h3, .ref h4, .ref h5, .int 1, .int 3, .int 50, .int (-1), .int (-1), .int (-1), .int (-1), .int 0, .int 100, .int 1000, .long (-8837188118737111886)])), (h3, .inr (4, [.int 0, .ref (E.2.2 0), .int 0])), (q2, .inl (E.2.1 0, 0, .inl (va_cpy (fun _ => 0) (fun _ => 0) 6 0 0)))])) (fun u => u) 2 6 := by
  refine rc_inr (cc := cX7_sample) (maxL := 6) (ret := (some (FieldType.array FieldType.int))) (by decide) rfl (Nat.le_of_ble_eq_true rfl) ?_
  intro p e s m args below meth c ls A hx hb hr hml _ hown hlocks hin hA hAm hw hl
  have hown : s.vm.findClass RX7 = some m.cls := hown
  have hl : lv_has ls 6 [(0, .ref h0), (1, .int 0), (2, .int (-1))] := hl
  refine lv_bipush (v := 6) hx hb dX7_sample_0 (by decide) ?_
  refine rc_inew hx hb hAm hA hw qw_108 6 (by decide) (by decide) (Nat.le_of_ble_eq_true rfl) (Nat.le_of_ble_eq_true rfl) (Nat.le_of_ble_eq_true rfl) dX7_sample_2 (fun q1 H hw => ?_)
  have hw : rc_W E A s [(h0, .inr (12, [.int 0, .ref h1, .ref h2, .ref h3, .ref h4, .ref h5, .int 1, .int 3, .int 50, .int (-1), .int (-1), .int (-1), .int (-1), .int 0, .int 100, .int 1000, .long (-8837188118737111886)])), (h3, .inr (4, [.int 0, .ref (E.2.2 0), .int 0])), (q1, .inl (E.2.1 0, 6, .inl (fun _ => 0)))] H _ := hw
  refine lv_astore_n (lv' := [(3, .ref q1), (0, .ref h0), (1, .int 0), (2, .int (-1))]) hx hb dX7_sample_4 rfl hl (by decide) rfl (fun ls hl => ?_)
  refine lv_iconst (v := 0) hx hb dX7_sample_5 (by decide) ?_
  refine lv_istore (lv' := [(4, .int 0), (3, .ref q1), (0, .ref h0), (1, .int 0), (2, .int (-1))]) hx hb dX7_sample_6 hl (by decide) rfl (fun ls hl => ?_)
  refine lv_aload_n hx hb dX7_sample_8 rfl (lv_at hl 2 rfl) ?_
  refine rc_get (v := .ref h3) hx hb hown hAm hw lyX7 0 rfl rfl 3 (by decide) qw_863 (fun _ h9 => h9) rfl dX7_sample_9 ?_
  refine rc_calli (wr := [(h0, .inr (12, [.int 0, .ref h1, .ref h2, .ref h3, .ref h4, .ref h5, .int 1, .int 3, .int 50, .int (-1), .int (-1), .int (-1), .int (-1), .int 0, .int 100, .int 1000, .long (-8837188118737111886)])), (q1, .inl (E.2.1 0, 6, .inl (fun _ => 0)))]) (va_runV (As := []) (rest := []) (Ts := []) ⟨hx, hb, hml, hown, fun _ h9 => absurd h9 List.not_mem_nil⟩ (cw_Jx4a65c_size_8abf5 l E _ h3) (rc_cwV hAm qw_928 qw_4 qw_289 qw_287 qw_288 rfl rfl hd_Jx4a65c_size_8abf5 ⟨Nat.le_of_ble_eq_true rfl, Nat.le_of_ble_eq_true rfl⟩) (rc_preV hAm hA hw [1] rfl rfl 1 rfl (q := vwCl[4]) rfl) rfl rfl hl.1 rfl (lv_room (Nat.le_of_ble_eq_true rfl)) dX7_sample_12 ⟨Nat.le_of_ble_eq_true rfl, Nat.le_of_ble_eq_true rfl⟩) hA hw [1] [0, 2] rfl rfl rfl (by decide) (fun r_1 u_2 H locs hp hw => ?_)
  obtain ⟨rfl, rfl⟩ := hp
  have hw : rc_W E A s [(h0, .inr (12, [.int 0, .ref h1, .ref h2, .ref h3, .ref h4, .ref h5, .int 1, .int 3, .int 50, .int (-1), .int (-1), .int (-1), .int (-1), .int 0, .int 100, .int 1000, .long (-8837188118737111886)])), (q1, .inl (E.2.1 0, 6, .inl (fun _ => 0))), (h3, .inr (4, [.int 0, .ref (E.2.2 0), .int 0]))] H locs := hw
  refine lv_iconst (v := 1) hx hb dX7_sample_15 (by decide) ?_
  refine lv_isub hx hb dX7_sample_16 ?_
  refine rc_topi (-1) (by decide) ?_
  refine lv_istore (lv' := [(5, .int (-1)), (4, .int 0), (3, .ref q1), (0, .ref h0), (1, .int 0), (2, .int (-1))]) hx hb dX7_sample_17 hl (by decide) rfl (fun ls hl => ?_)
  refine lv_iload hx hb dX7_sample_19 (lv_at hl 0 rfl) ?_
  refine lv_if_lt (tgt := 102) hx hb dX7_sample_21 (by decide) (fun _ => ?_) (fun c9 => absurd (by decide) c9)
  refine lv_aload_n hx hb dX7_sample_102 rfl (lv_at hl 2 rfl) ?_
  refine lv_bipush (v := 6) hx hb dX7_sample_103 (by decide) ?_
  refine lv_iload hx hb dX7_sample_105 (lv_at hl 1 rfl) ?_
  refine lv_isub hx hb dX7_sample_107 ?_
  refine rc_topi 6 (by decide) ?_
  refine lv_bipush (v := 6) hx hb dX7_sample_108 (by decide) ?_
  refine rc_callr (wr := [(h0, .inr (12, [.int 0, .ref h1, .ref h2, .ref h3, .ref h4, .ref h5, .int 1, .int 3, .int 50, .int (-1), .int (-1), .int (-1), .int (-1), .int 0, .int 100, .int 1000, .long (-8837188118737111886)])), (h3, .inr (4, [.int 0, .ref (E.2.2 0), .int 0]))]) (va_runS (As := [.ref q1, .int 6, .int 6]) (rest := []) (Ts := []) ⟨hx, hb, hml, hown, fun _ h9 => absurd h9 List.not_mem_nil⟩ (cw_J7_copyOfRange_feecc l E _ q1) (rc_cwS hAm qw_992 qw_11 qw_994 qw_993 rfl rfl hd_J7_copyOfRange_feecc ⟨Nat.le_of_ble_eq_true rfl, Nat.le_of_ble_eq_true rfl⟩) (rc_preS hAm hA hw [1] rfl rfl) rfl rfl hl.1 rfl (lv_room (Nat.le_of_ble_eq_true rfl)) dX7_sample_110 ⟨Nat.le_of_ble_eq_true rfl, Nat.le_of_ble_eq_true rfl⟩) hA hw [1] [0, 2] rfl rfl rfl (by decide) (fun u_4 r_3 H locs hp hw => ?_)
  obtain ⟨q2, rfl, rfl⟩ := hp
  have hw : rc_W E A s [(h0, .inr (12, [.int 0, .ref h1, .ref h2, .ref h3, .ref h4, .ref h5, .int 1, .int 3, .int 50, .int (-1), .int (-1), .int (-1), .int (-1), .int 0, .int 100, .int 1000, .long (-8837188118737111886)])), (h3, .inr (4, [.int 0, .ref (E.2.2 0), .int 0])), (q1, .inl (E.2.1 0, 6, .inl (fun _ => 0))), (q2, .inl (E.2.1 0, 0, .inl (va_cpy (fun _ => 0) (fun _ => 0) 6 0 0)))] H locs := hw
  exact rc_aret (v := q2) hx hb hr (by first | exact Or.inl ⟨_, rfl⟩ | exact Or.inr ⟨_, rfl⟩) hlocks hw [(h0, .inr (12, [.int 0, .ref h1, .ref h2, .ref h3, .ref h4, .ref h5, .int 1, .int 3, .int 50, .int (-1), .int (-1), .int (-1), .int (-1), .int 0, .int 100, .int 1000, .long (-8837188118737111886)])), (h3, .inr (4, [.int 0, .ref (E.2.2 0), .int 0])), (q2, .inl (E.2.1 0, 0, .inl (va_cpy (fun _ => 0) (fun _ => 0) 6 0 0)))] (⟨q2, rfl, rfl⟩) [0, 1, 3] rfl (by decide) (Nat.le_of_ble_eq_true rfl) (Nat.le_of_ble_eq_true rfl) dX7_sample_113
set_option maxHeartbeats 4000000 in
set_option maxRecDepth 100000 in
theorem cw_X7_sample__5 (l : Launch) (E : rc_E) (sz : Nat) (h0 : Nat) (h1 : Nat) (h2 : Nat) (h3 : Nat) (h4 : Nat) (h5 : Nat) : rc_Mr l yX7_sample_ [Cond.code yX7_sample_ cX7_sample_ 2 (some (FieldType.array FieldType.int))] { frames := 4, cells := 2, slots := 6, locals := 111 } E [.ref h0, .int 0] [(h0, .inr (12, [.int 0, .ref h1, .ref h2, .ref h3, .ref h4, .ref h5, .int 1, .int 3, .int 50, .int (-1), .int (-1), .int (-1), .int (-1), .int 0, .int 100, .int 1000, .long (-8837188118737111886)])), (h3, .inr (4, [.int 0, .ref (E.2.2 0), .int 0]))] sz (S := va_W) (fun (u : va_W) (r : Nat) => (∃ q1 : Nat, q1 = r ∧ u = [(h0, .inr (12, [.int 0, .ref h1, .ref h2, .ref h3, .ref h4, .ref h5, .int 1, .int 3, .int 50, .int (-1), .int (-1), .int (-1), .int (-1), .int 0, .int 100, .int 1000, .long (-8837188118737111886)])), (h3, .inr (4, [.int 0, .ref (E.2.2 0), .int 0])), (q1, .inl (E.2.1 0, 0, .inl (va_cpy (fun _ => 0) (fun _ => 0) 6 0 0)))])) (fun u => u) 2 6 := by
  refine rc_inr (cc := cX7_sample_) (maxL := 2) (ret := (some (FieldType.array FieldType.int))) (by decide) rfl (Nat.le_of_ble_eq_true rfl) ?_
  intro p e s m args below meth c ls A hx hb hr hml _ hown hlocks hin hA hAm hw hl
  have hown : s.vm.findClass RX7 = some m.cls := hown
  have hl : lv_has ls 2 [(0, .ref h0), (1, .int 0)] := hl
  refine lv_aload_n hx hb dX7_sample__0 rfl (lv_at hl 0 rfl) ?_
  refine lv_iload_n hx hb dX7_sample__1 rfl (lv_at hl 1 rfl) ?_
  refine lv_iconst (v := (-1)) hx hb dX7_sample__2 (by decide) ?_
  refine rc_callr (wr := []) (va_runV (As := [.int 0, .int (-1)]) (rest := []) (Ts := []) ⟨hx, hb, hml, hown, fun _ h9 => absurd h9 List.not_mem_nil⟩ (cw_X7_sample_5 l E _ h0 h1 h2 h3 h4 h5) (rc_cwV hAm qw_971 qw_13 qw_974 qw_973 qs_55 rfl rfl hd_X7_sample ⟨Nat.le_of_ble_eq_true rfl, Nat.le_of_ble_eq_true rfl⟩) (rc_preV hAm hA hw [0, 1] rfl rfl 0 rfl (q := vwCl[12]) rfl) rfl rfl hl.1 rfl (lv_room (Nat.le_of_ble_eq_true rfl)) dX7_sample__3 ⟨Nat.le_of_ble_eq_true rfl, Nat.le_of_ble_eq_true rfl⟩) hA hw [0, 1] [] rfl rfl rfl (by decide) (fun u_2 r_1 H locs hp hw => ?_)
  obtain ⟨q1, rfl, rfl⟩ := hp
  have hw : rc_W E A s [(h0, .inr (12, [.int 0, .ref h1, .ref h2, .ref h3, .ref h4, .ref h5, .int 1, .int 3, .int 50, .int (-1), .int (-1), .int (-1), .int (-1), .int 0, .int 100, .int 1000, .long (-8837188118737111886)])), (h3, .inr (4, [.int 0, .ref (E.2.2 0), .int 0])), (q1, .inl (E.2.1 0, 0, .inl (va_cpy (fun _ => 0) (fun _ => 0) 6 0 0)))] H locs := hw
  exact rc_aret (v := q1) hx hb hr (by first | exact Or.inl ⟨_, rfl⟩ | exact Or.inr ⟨_, rfl⟩) hlocks hw [(h0, .inr (12, [.int 0, .ref h1, .ref h2, .ref h3, .ref h4, .ref h5, .int 1, .int 3, .int 50, .int (-1), .int (-1), .int (-1), .int (-1), .int 0, .int 100, .int 1000, .long (-8837188118737111886)])), (h3, .inr (4, [.int 0, .ref (E.2.2 0), .int 0])), (q1, .inl (E.2.1 0, 0, .inl (va_cpy (fun _ => 0) (fun _ => 0) 6 0 0)))] (⟨q1, rfl, rfl⟩) [0, 1, 2] rfl (by decide) (Nat.le_of_ble_eq_true rfl) (Nat.le_of_ble_eq_true rfl) dX7_sample__6
set_option maxHeartbeats 4000000 in
set_option maxRecDepth 100000 in
theorem cw_X7_ofChangeNow_5 (l : Launch) (E : rc_E) (sz : Nat) (h0 : Nat) (h1 : Nat) (h2 : Nat) (h3 : Nat) (h4 : Nat) (h5 : Nat) : rc_Mi l yX7_ofChangeNow [Cond.code yX7_ofChangeNow cX7_ofChangeNow 6 (some FieldType.int)] { frames := 5, cells := 3, slots := 10, locals := 132 } E [.ref h0, .int 0, .int 3] [(h0, .inr (12, [.int 0, .ref h1, .ref h2, .ref h3, .ref h4, .ref h5, .int 1, .int 3, .int 50, .int (-1), .int (-1), .int (-1), .int (-1), .int 0, .int 100, .int 1000, .long (-8837188118737111886)])), (h3, .inr (4, [.int 0, .ref (E.2.2 0), .int 0]))] sz (S := va_W) (fun (r : Int32) (u : va_W) => ((-1) = r ∧ u = [(h0, .inr (12, [.int 0, .ref h1, .ref h2, .ref h3, .ref h4, .ref h5, .int 1, .int 3, .int 50, .int (-1), .int (-1), .int (-1), .int (-1), .int 0, .int 100, .int 1000, .long (-8837188118737111886)])), (h3, .inr (4, [.int 0, .ref (E.2.2 0), .int 0]))])) (fun u => u) 3 10 := by
  refine rc_ini (cc := cX7_ofChangeNow) (maxL := 6) (ret := (some FieldType.int)) (by decide) rfl (Nat.le_of_ble_eq_true rfl) ?_
  intro p e s m args below meth c ls A hx hb hr hml _ hown hlocks hin hA hAm hw hl
  have hown : s.vm.findClass RX7 = some m.cls := hown
  have hl : lv_has ls 6 [(0, .ref h0), (1, .int 0), (2, .int 3)] := hl
  refine lv_iconst (v := 0) hx hb dX7_ofChangeNow_0 (by decide) ?_
  refine lv_istore_n (lv' := [(3, .int 0), (0, .ref h0), (1, .int 0), (2, .int 3)]) hx hb dX7_ofChangeNow_1 rfl hl (by decide) rfl (fun ls hl => ?_)
  refine lv_aload_n hx hb dX7_ofChangeNow_2 rfl (lv_at hl 1 rfl) ?_
  refine rc_get (v := .ref h3) hx hb hown hAm hw lyX7 0 rfl rfl 3 (by decide) qw_863 (fun _ h9 => h9) rfl dX7_ofChangeNow_3 ?_
  refine rc_callr (wr := [(h0, .inr (12, [.int 0, .ref h1, .ref h2, .ref h3, .ref h4, .ref h5, .int 1, .int 3, .int 50, .int (-1), .int (-1), .int (-1), .int (-1), .int 0, .int 100, .int 1000, .long (-8837188118737111886)]))]) (va_runV (As := []) (rest := []) (Ts := []) ⟨hx, hb, hml, hown, fun _ h9 => absurd h9 List.not_mem_nil⟩ (cw_Jx4a65c_iterator_32c93 l E _ h3) (rc_cwV hAm qw_1295 qw_4 qw_1298 qw_1296 qw_1297 rfl rfl hd_Jx4a65c_iterator_32c93 ⟨Nat.le_of_ble_eq_true rfl, Nat.le_of_ble_eq_true rfl⟩) (rc_preV hAm hA hw [1] rfl rfl 1 rfl (q := vwCl[4]) rfl) rfl rfl hl.1 rfl (lv_room (Nat.le_of_ble_eq_true rfl)) dX7_ofChangeNow_6 ⟨Nat.le_of_ble_eq_true rfl, Nat.le_of_ble_eq_true rfl⟩) hA hw [1] [0] rfl rfl rfl (by decide) (fun u_2 r_1 H locs hp hw => ?_)
  obtain ⟨q1, rfl, rfl⟩ := hp
  have hw : rc_W E A s [(h0, .inr (12, [.int 0, .ref h1, .ref h2, .ref h3, .ref h4, .ref h5, .int 1, .int 3, .int 50, .int (-1), .int (-1), .int (-1), .int (-1), .int 0, .int 100, .int 1000, .long (-8837188118737111886)])), (h3, .inr (4, [.int 0, .ref (E.2.2 0), .int 0])), (q1, .inr (3, [.int 0, .int (-1), .int 0, .ref h3]))] H locs := hw
  refine lv_astore (lv' := [(4, .ref q1), (3, .int 0), (0, .ref h0), (1, .int 0), (2, .int 3)]) hx hb dX7_ofChangeNow_9 hl (by decide) rfl (fun ls hl => ?_)
  refine lv_aload hx hb dX7_ofChangeNow_11 (lv_at hl 0 rfl) ?_
  refine rc_callFi (wr := [(h0, .inr (12, [.int 0, .ref h1, .ref h2, .ref h3, .ref h4, .ref h5, .int 1, .int 3, .int 50, .int (-1), .int (-1), .int (-1), .int (-1), .int 0, .int 100, .int 1000, .long (-8837188118737111886)]))]) (va_runF (As := []) (rest := []) (Ts := []) ((hAm.K.1 3 _ rfl).2) ⟨hx, hb, hml, hown, fun _ h9 => absurd h9 List.not_mem_nil⟩ (cw_Jx35411_hasNext_aae02 l E _ q1 h3) (rc_cwF (C := "java/util/ArrayList$Itr") (n := 0) hAm qw_1319 qw_32 qw_1327 qw_1325 qw_1323 qw_1321 qw_1320 (by decide +kernel) qw_1326 qw_1324 qw_1322 rfl rfl (by decide +kernel) ⟨Nat.le_of_ble_eq_true rfl, Nat.le_of_ble_eq_true rfl⟩) (rc_preV hAm hA hw [2, 1] rfl rfl 2 rfl (q := vwCl[3]) rfl) rfl rfl hl.1 rfl (lv_room (Nat.le_of_ble_eq_true rfl)) dX7_ofChangeNow_13 ⟨Nat.le_of_ble_eq_true rfl, Nat.le_of_ble_eq_true rfl⟩) hA hw [2, 1] [0] rfl rfl rfl (by decide) (fun r_3 u_4 H locs hp hw => ?_)
  obtain ⟨rfl, rfl⟩ := hp
  have hw : rc_W E A s [(h0, .inr (12, [.int 0, .ref h1, .ref h2, .ref h3, .ref h4, .ref h5, .int 1, .int 3, .int 50, .int (-1), .int (-1), .int (-1), .int (-1), .int 0, .int 100, .int 1000, .long (-8837188118737111886)])), (q1, .inr (3, [.int 0, .int (-1), .int 0, .ref h3])), (h3, .inr (4, [.int 0, .ref (E.2.2 0), .int 0]))] H locs := hw
  refine lv_if_eq (tgt := 52) hx hb dX7_ofChangeNow_18 (by decide) (fun _ => ?_) (fun c9 => absurd (by decide) c9)
  refine lv_aload_n hx hb dX7_ofChangeNow_52 rfl (lv_at hl 2 rfl) ?_
  refine lv_iload_n hx hb dX7_ofChangeNow_53 rfl (lv_at hl 3 rfl) ?_
  refine rc_callr (wr := [(q1, .inr (3, [.int 0, .int (-1), .int 0, .ref h3]))]) (va_runV (As := [.int 0]) (rest := []) (Ts := []) ⟨hx, hb, hml, hown, fun _ h9 => absurd h9 List.not_mem_nil⟩ (cw_X7_sample__5 l E _ h0 h1 h2 h3 h4 h5) (rc_cwV hAm qw_967 qw_13 qw_970 qw_969 qs_54 rfl rfl hd_X7_sample_ ⟨Nat.le_of_ble_eq_true rfl, Nat.le_of_ble_eq_true rfl⟩) (rc_preV hAm hA hw [0, 2] rfl rfl 0 rfl (q := vwCl[12]) rfl) rfl rfl hl.1 rfl (lv_room (Nat.le_of_ble_eq_true rfl)) dX7_ofChangeNow_54 ⟨Nat.le_of_ble_eq_true rfl, Nat.le_of_ble_eq_true rfl⟩) hA hw [0, 2] [1] rfl rfl rfl (by decide) (fun u_6 r_5 H locs hp hw => ?_)
  obtain ⟨q2, rfl, rfl⟩ := hp
  have hw : rc_W E A s [(q1, .inr (3, [.int 0, .int (-1), .int 0, .ref h3])), (h0, .inr (12, [.int 0, .ref h1, .ref h2, .ref h3, .ref h4, .ref h5, .int 1, .int 3, .int 50, .int (-1), .int (-1), .int (-1), .int (-1), .int 0, .int 100, .int 1000, .long (-8837188118737111886)])), (h3, .inr (4, [.int 0, .ref (E.2.2 0), .int 0])), (q2, .inl (E.2.1 0, 0, .inl (va_cpy (fun _ => 0) (fun _ => 0) 6 0 0)))] H locs := hw
  refine lv_astore (lv' := [(4, .ref q2), (3, .int 0), (0, .ref h0), (1, .int 0), (2, .int 3)]) hx hb dX7_ofChangeNow_57 hl (by decide) rfl (fun ls hl => ?_)
  refine lv_aload hx hb dX7_ofChangeNow_59 (lv_at hl 0 rfl) ?_
  refine rc_callv (wr := [(q1, .inr (3, [.int 0, .int (-1), .int 0, .ref h3])), (h0, .inr (12, [.int 0, .ref h1, .ref h2, .ref h3, .ref h4, .ref h5, .int 1, .int 3, .int 50, .int (-1), .int (-1), .int (-1), .int (-1), .int 0, .int 100, .int 1000, .long (-8837188118737111886)])), (h3, .inr (4, [.int 0, .ref (E.2.2 0), .int 0]))]) (va_runS (As := [.ref q2]) (rest := []) (Ts := []) ⟨hx, hb, hml, hown, fun _ h9 => absurd h9 List.not_mem_nil⟩ (cw_J7_sort_2022b l E _ q2 (va_cpy (fun _ => 0) (fun _ => 0) 6 0 0)) (rc_cwS hAm qw_1241 qw_11 qw_1243 qw_1242 rfl rfl hd_J7_sort_2022b ⟨Nat.le_of_ble_eq_true rfl, Nat.le_of_ble_eq_true rfl⟩) (rc_preS hAm hA hw [3] rfl rfl) rfl rfl hl.1 rfl (lv_room (Nat.le_of_ble_eq_true rfl)) dX7_ofChangeNow_61 ⟨Nat.le_of_ble_eq_true rfl, Nat.le_of_ble_eq_true rfl⟩) hA hw [3] [0, 1, 2] rfl rfl rfl (by decide) (fun u_8 H locs hp hw => ?_)
  obtain ⟨rfl⟩ := hp
  have hw : rc_W E A s [(q1, .inr (3, [.int 0, .int (-1), .int 0, .ref h3])), (h0, .inr (12, [.int 0, .ref h1, .ref h2, .ref h3, .ref h4, .ref h5, .int 1, .int 3, .int 50, .int (-1), .int (-1), .int (-1), .int (-1), .int 0, .int 100, .int 1000, .long (-8837188118737111886)])), (h3, .inr (4, [.int 0, .ref (E.2.2 0), .int 0])), (q2, .inl (E.2.1 0, 0, .inl (va_cpy (fun _ => 0) (fun _ => 0) 6 0 0)))] H locs := hw
  refine lv_aload hx hb dX7_ofChangeNow_64 (lv_at hl 0 rfl) ?_
  refine rc_alen hx hb hAm hw 3 0 rfl rfl 0 rfl dX7_ofChangeNow_66 ?_
  refine lv_iconst (v := 1) hx hb dX7_ofChangeNow_67 (by decide) ?_
  refine lv_isub hx hb dX7_ofChangeNow_68 ?_
  refine rc_topi (-1) (by decide) ?_
  refine lv_istore (lv' := [(5, .int (-1)), (4, .ref q2), (3, .int 0), (0, .ref h0), (1, .int 0), (2, .int 3)]) hx hb dX7_ofChangeNow_69 hl (by decide) rfl (fun ls hl => ?_)
  refine lv_iload_n hx hb dX7_ofChangeNow_71 rfl (lv_at hl 5 rfl) ?_
  refine lv_tableIn (tgt := 131) hx hb dX7_ofChangeNow_72 (by decide) (by decide) rfl (by decide) ?_
  refine lv_iload hx hb dX7_ofChangeNow_131 (lv_at hl 0 rfl) ?_
  refine lv_if_ge (tgt := 140) hx hb dX7_ofChangeNow_133 (by decide) (fun c9 => absurd c9 (by decide)) (fun _ => ?_)
  refine lv_iconst (v := (-1)) hx hb dX7_ofChangeNow_136 (by decide) ?_
  refine lv_goto (tgt := 144) hx hb dX7_ofChangeNow_137 (by decide) ?_
  exact rc_iret (v := (-1)) hx hb hr hlocks hw [(h0, .inr (12, [.int 0, .ref h1, .ref h2, .ref h3, .ref h4, .ref h5, .int 1, .int 3, .int 50, .int (-1), .int (-1), .int (-1), .int (-1), .int 0, .int 100, .int 1000, .long (-8837188118737111886)])), (h3, .inr (4, [.int 0, .ref (E.2.2 0), .int 0]))] (⟨rfl, rfl⟩) [1, 2] rfl (by decide) (Nat.le_of_ble_eq_true rfl) (Nat.le_of_ble_eq_true rfl) dX7_ofChangeNow_144
set_option maxHeartbeats 4000000 in
set_option maxRecDepth 100000 in
theorem cw_X7_add_13 (l : Launch) (E : rc_E) (sz : Nat) (h0 : Nat) (h1 : Nat) (h2 : Nat) (h3 : Nat) (h4 : Nat) (h5 : Nat) : rc_Mv l yX7_add [Cond.code yX7_add cX7_add 2 (none : Option FieldType)] { frames := 0, cells := 0, slots := 0, locals := 0 } E [.ref h0, .int (-1)] [(h0, .inr (12, [.int 0, .ref h1, .ref h2, .ref h3, .ref h4, .ref h5, .int 1, .int 3, .int 50, .int (-1), .int (-1), .int (-1), .int (-1), .int 0, .int 100, .int 1000, .long (-8837188118737111886)]))] sz (S := va_W) (fun (u : va_W) => (u = [(h0, .inr (12, [.int 0, .ref h1, .ref h2, .ref h3, .ref h4, .ref h5, .int 1, .int 3, .int 50, .int (-1), .int (-1), .int (-1), .int (-1), .int 0, .int 100, .int 1000, .long 2748329424792805773]))])) (fun u => u) 0 0 := by
  refine rc_inv (cc := cX7_add) (maxL := 2) (ret := (none : Option FieldType)) (by decide) rfl (Nat.le_of_ble_eq_true rfl) ?_
  intro p e s m args below meth c ls A hx hb hr hml _ hown hlocks hin hA hAm hw hl
  have hown : s.vm.findClass RX7 = some m.cls := hown
  have hl : lv_has ls 2 [(0, .ref h0), (1, .int (-1))] := hl
  refine lv_aload_n hx hb dX7_add_0 rfl (lv_at hl 0 rfl) ?_
  refine lv_aload_n hx hb dX7_add_1 rfl (lv_at hl 0 rfl) ?_
  refine rc_get (v := .long (-8837188118737111886)) hx hb hown hAm hw lyX7 0 rfl rfl 16 (by decide) qw_876 (fun _ h9 => h9) rfl dX7_add_2 ?_
  refine lv_ldc2 (v := 31) hx hb hown (hAm.wd qw_1470 rfl rfl) dX7_add_5 ?_
  refine lv_lmul hx hb dX7_add_8 ?_
  refine rc_topl 2748329424792805774 (by decide) ?_
  refine lv_iload_n hx hb dX7_add_9 rfl (lv_at hl 1 rfl) ?_
  refine lv_i2l (v := (-1)) hx hb dX7_add_10 (by decide) ?_
  refine lv_ladd hx hb dX7_add_11 ?_
  refine rc_topl 2748329424792805773 (by decide) ?_
  refine rc_put hx hb hown hAm hw lyX7 tyX7 tyX7_ok nmX7 0 rfl rfl 16 (by decide) qw_876 (fun _ h9 => h9) rfl rfl (by decide +kernel) (Nat.le_of_ble_eq_true rfl) [(h0, .inr (12, [.int 0, .ref h1, .ref h2, .ref h3, .ref h4, .ref h5, .int 1, .int 3, .int 50, .int (-1), .int (-1), .int (-1), .int (-1), .int 0, .int 100, .int 1000, .long 2748329424792805773]))] rfl dX7_add_12 (fun H locs hw => ?_)
  exact rc_vret hx hb hr hlocks hw [(h0, .inr (12, [.int 0, .ref h1, .ref h2, .ref h3, .ref h4, .ref h5, .int 1, .int 3, .int 50, .int (-1), .int (-1), .int (-1), .int (-1), .int 0, .int 100, .int 1000, .long 2748329424792805773]))] (rfl) [0] rfl (by decide) (Nat.le_of_ble_eq_true rfl) (Nat.le_of_ble_eq_true rfl) dX7_add_15
set_option maxHeartbeats 4000000 in
set_option maxRecDepth 100000 in
theorem cw_X7_sample_6 (l : Launch) (E : rc_E) (sz : Nat) (h0 : Nat) (h1 : Nat) (h2 : Nat) (h3 : Nat) (h4 : Nat) (h5 : Nat) : rc_Mr l yX7_sample [Cond.code yX7_sample cX7_sample 6 (some (FieldType.array FieldType.int))] { frames := 3, cells := 2, slots := 6, locals := 86 } E [.ref h0, .int 0, .int (-1)] [(h0, .inr (12, [.int 0, .ref h1, .ref h2, .ref h3, .ref h4, .ref h5, .int 1, .int 3, .int 50, .int (-1), .int (-1), .int (-1), .int (-1), .int 0, .int 100, .int 1000, .long 2748329424792805773])), (h3, .inr (4, [.int 0, .ref (E.2.2 0), .int 0]))] sz (S := va_W) (fun (u : va_W) (r : Nat) => (∃ q2 : Nat, q2 = r ∧ u = [(h0, .inr (12, [.int 0, .ref h1, .ref h2, .ref h3, .ref h4, .ref h5, .int 1, .int 3, .int 50, .int (-1), .int (-1), .int (-1), .int (-1), .int 0, .int 100, .int 1000, .long 2748329424792805773])), (h3, .inr (4, [.int 0, .ref (E.2.2 0), .int 0])), (q2, .inl (E.2.1 0, 0, .inl (va_cpy (fun _ => 0) (fun _ => 0) 6 0 0)))])) (fun u => u) 2 6 := by
  refine rc_inr (cc := cX7_sample) (maxL := 6) (ret := (some (FieldType.array FieldType.int))) (by decide) rfl (Nat.le_of_ble_eq_true rfl) ?_
  intro p e s m args below meth c ls A hx hb hr hml _ hown hlocks hin hA hAm hw hl
  have hown : s.vm.findClass RX7 = some m.cls := hown
  have hl : lv_has ls 6 [(0, .ref h0), (1, .int 0), (2, .int (-1))] := hl
  refine lv_bipush (v := 6) hx hb dX7_sample_0 (by decide) ?_
  refine rc_inew hx hb hAm hA hw qw_108 6 (by decide) (by decide) (Nat.le_of_ble_eq_true rfl) (Nat.le_of_ble_eq_true rfl) (Nat.le_of_ble_eq_true rfl) dX7_sample_2 (fun q1 H hw => ?_)
  have hw : rc_W E A s [(h0, .inr (12, [.int 0, .ref h1, .ref h2, .ref h3, .ref h4, .ref h5, .int 1, .int 3, .int 50, .int (-1), .int (-1), .int (-1), .int (-1), .int 0, .int 100, .int 1000, .long 2748329424792805773])), (h3, .inr (4, [.int 0, .ref (E.2.2 0), .int 0])), (q1, .inl (E.2.1 0, 6, .inl (fun _ => 0)))] H _ := hw
  refine lv_astore_n (lv' := [(3, .ref q1), (0, .ref h0), (1, .int 0), (2, .int (-1))]) hx hb dX7_sample_4 rfl hl (by decide) rfl (fun ls hl => ?_)
  refine lv_iconst (v := 0) hx hb dX7_sample_5 (by decide) ?_
  refine lv_istore (lv' := [(4, .int 0), (3, .ref q1), (0, .ref h0), (1, .int 0), (2, .int (-1))]) hx hb dX7_sample_6 hl (by decide) rfl (fun ls hl => ?_)
  refine lv_aload_n hx hb dX7_sample_8 rfl (lv_at hl 2 rfl) ?_
  refine rc_get (v := .ref h3) hx hb hown hAm hw lyX7 0 rfl rfl 3 (by decide) qw_863 (fun _ h9 => h9) rfl dX7_sample_9 ?_
  refine rc_calli (wr := [(h0, .inr (12, [.int 0, .ref h1, .ref h2, .ref h3, .ref h4, .ref h5, .int 1, .int 3, .int 50, .int (-1), .int (-1), .int (-1), .int (-1), .int 0, .int 100, .int 1000, .long 2748329424792805773])), (q1, .inl (E.2.1 0, 6, .inl (fun _ => 0)))]) (va_runV (As := []) (rest := []) (Ts := []) ⟨hx, hb, hml, hown, fun _ h9 => absurd h9 List.not_mem_nil⟩ (cw_Jx4a65c_size_8abf5 l E _ h3) (rc_cwV hAm qw_928 qw_4 qw_289 qw_287 qw_288 rfl rfl hd_Jx4a65c_size_8abf5 ⟨Nat.le_of_ble_eq_true rfl, Nat.le_of_ble_eq_true rfl⟩) (rc_preV hAm hA hw [1] rfl rfl 1 rfl (q := vwCl[4]) rfl) rfl rfl hl.1 rfl (lv_room (Nat.le_of_ble_eq_true rfl)) dX7_sample_12 ⟨Nat.le_of_ble_eq_true rfl, Nat.le_of_ble_eq_true rfl⟩) hA hw [1] [0, 2] rfl rfl rfl (by decide) (fun r_1 u_2 H locs hp hw => ?_)
  obtain ⟨rfl, rfl⟩ := hp
  have hw : rc_W E A s [(h0, .inr (12, [.int 0, .ref h1, .ref h2, .ref h3, .ref h4, .ref h5, .int 1, .int 3, .int 50, .int (-1), .int (-1), .int (-1), .int (-1), .int 0, .int 100, .int 1000, .long 2748329424792805773])), (q1, .inl (E.2.1 0, 6, .inl (fun _ => 0))), (h3, .inr (4, [.int 0, .ref (E.2.2 0), .int 0]))] H locs := hw
  refine lv_iconst (v := 1) hx hb dX7_sample_15 (by decide) ?_
  refine lv_isub hx hb dX7_sample_16 ?_
  refine rc_topi (-1) (by decide) ?_
  refine lv_istore (lv' := [(5, .int (-1)), (4, .int 0), (3, .ref q1), (0, .ref h0), (1, .int 0), (2, .int (-1))]) hx hb dX7_sample_17 hl (by decide) rfl (fun ls hl => ?_)
  refine lv_iload hx hb dX7_sample_19 (lv_at hl 0 rfl) ?_
  refine lv_if_lt (tgt := 102) hx hb dX7_sample_21 (by decide) (fun _ => ?_) (fun c9 => absurd (by decide) c9)
  refine lv_aload_n hx hb dX7_sample_102 rfl (lv_at hl 2 rfl) ?_
  refine lv_bipush (v := 6) hx hb dX7_sample_103 (by decide) ?_
  refine lv_iload hx hb dX7_sample_105 (lv_at hl 1 rfl) ?_
  refine lv_isub hx hb dX7_sample_107 ?_
  refine rc_topi 6 (by decide) ?_
  refine lv_bipush (v := 6) hx hb dX7_sample_108 (by decide) ?_
  refine rc_callr (wr := [(h0, .inr (12, [.int 0, .ref h1, .ref h2, .ref h3, .ref h4, .ref h5, .int 1, .int 3, .int 50, .int (-1), .int (-1), .int (-1), .int (-1), .int 0, .int 100, .int 1000, .long 2748329424792805773])), (h3, .inr (4, [.int 0, .ref (E.2.2 0), .int 0]))]) (va_runS (As := [.ref q1, .int 6, .int 6]) (rest := []) (Ts := []) ⟨hx, hb, hml, hown, fun _ h9 => absurd h9 List.not_mem_nil⟩ (cw_J7_copyOfRange_feecc l E _ q1) (rc_cwS hAm qw_992 qw_11 qw_994 qw_993 rfl rfl hd_J7_copyOfRange_feecc ⟨Nat.le_of_ble_eq_true rfl, Nat.le_of_ble_eq_true rfl⟩) (rc_preS hAm hA hw [1] rfl rfl) rfl rfl hl.1 rfl (lv_room (Nat.le_of_ble_eq_true rfl)) dX7_sample_110 ⟨Nat.le_of_ble_eq_true rfl, Nat.le_of_ble_eq_true rfl⟩) hA hw [1] [0, 2] rfl rfl rfl (by decide) (fun u_4 r_3 H locs hp hw => ?_)
  obtain ⟨q2, rfl, rfl⟩ := hp
  have hw : rc_W E A s [(h0, .inr (12, [.int 0, .ref h1, .ref h2, .ref h3, .ref h4, .ref h5, .int 1, .int 3, .int 50, .int (-1), .int (-1), .int (-1), .int (-1), .int 0, .int 100, .int 1000, .long 2748329424792805773])), (h3, .inr (4, [.int 0, .ref (E.2.2 0), .int 0])), (q1, .inl (E.2.1 0, 6, .inl (fun _ => 0))), (q2, .inl (E.2.1 0, 0, .inl (va_cpy (fun _ => 0) (fun _ => 0) 6 0 0)))] H locs := hw
  exact rc_aret (v := q2) hx hb hr (by first | exact Or.inl ⟨_, rfl⟩ | exact Or.inr ⟨_, rfl⟩) hlocks hw [(h0, .inr (12, [.int 0, .ref h1, .ref h2, .ref h3, .ref h4, .ref h5, .int 1, .int 3, .int 50, .int (-1), .int (-1), .int (-1), .int (-1), .int 0, .int 100, .int 1000, .long 2748329424792805773])), (h3, .inr (4, [.int 0, .ref (E.2.2 0), .int 0])), (q2, .inl (E.2.1 0, 0, .inl (va_cpy (fun _ => 0) (fun _ => 0) 6 0 0)))] (⟨q2, rfl, rfl⟩) [0, 1, 3] rfl (by decide) (Nat.le_of_ble_eq_true rfl) (Nat.le_of_ble_eq_true rfl) dX7_sample_113
set_option maxHeartbeats 4000000 in
set_option maxRecDepth 100000 in
theorem cw_X7_sample__6 (l : Launch) (E : rc_E) (sz : Nat) (h0 : Nat) (h1 : Nat) (h2 : Nat) (h3 : Nat) (h4 : Nat) (h5 : Nat) : rc_Mr l yX7_sample_ [Cond.code yX7_sample_ cX7_sample_ 2 (some (FieldType.array FieldType.int))] { frames := 4, cells := 2, slots := 6, locals := 111 } E [.ref h0, .int 0] [(h0, .inr (12, [.int 0, .ref h1, .ref h2, .ref h3, .ref h4, .ref h5, .int 1, .int 3, .int 50, .int (-1), .int (-1), .int (-1), .int (-1), .int 0, .int 100, .int 1000, .long 2748329424792805773])), (h3, .inr (4, [.int 0, .ref (E.2.2 0), .int 0]))] sz (S := va_W) (fun (u : va_W) (r : Nat) => (∃ q1 : Nat, q1 = r ∧ u = [(h0, .inr (12, [.int 0, .ref h1, .ref h2, .ref h3, .ref h4, .ref h5, .int 1, .int 3, .int 50, .int (-1), .int (-1), .int (-1), .int (-1), .int 0, .int 100, .int 1000, .long 2748329424792805773])), (h3, .inr (4, [.int 0, .ref (E.2.2 0), .int 0])), (q1, .inl (E.2.1 0, 0, .inl (va_cpy (fun _ => 0) (fun _ => 0) 6 0 0)))])) (fun u => u) 2 6 := by
  refine rc_inr (cc := cX7_sample_) (maxL := 2) (ret := (some (FieldType.array FieldType.int))) (by decide) rfl (Nat.le_of_ble_eq_true rfl) ?_
  intro p e s m args below meth c ls A hx hb hr hml _ hown hlocks hin hA hAm hw hl
  have hown : s.vm.findClass RX7 = some m.cls := hown
  have hl : lv_has ls 2 [(0, .ref h0), (1, .int 0)] := hl
  refine lv_aload_n hx hb dX7_sample__0 rfl (lv_at hl 0 rfl) ?_
  refine lv_iload_n hx hb dX7_sample__1 rfl (lv_at hl 1 rfl) ?_
  refine lv_iconst (v := (-1)) hx hb dX7_sample__2 (by decide) ?_
  refine rc_callr (wr := []) (va_runV (As := [.int 0, .int (-1)]) (rest := []) (Ts := []) ⟨hx, hb, hml, hown, fun _ h9 => absurd h9 List.not_mem_nil⟩ (cw_X7_sample_6 l E _ h0 h1 h2 h3 h4 h5) (rc_cwV hAm qw_971 qw_13 qw_974 qw_973 qs_55 rfl rfl hd_X7_sample ⟨Nat.le_of_ble_eq_true rfl, Nat.le_of_ble_eq_true rfl⟩) (rc_preV hAm hA hw [0, 1] rfl rfl 0 rfl (q := vwCl[12]) rfl) rfl rfl hl.1 rfl (lv_room (Nat.le_of_ble_eq_true rfl)) dX7_sample__3 ⟨Nat.le_of_ble_eq_true rfl, Nat.le_of_ble_eq_true rfl⟩) hA hw [0, 1] [] rfl rfl rfl (by decide) (fun u_2 r_1 H locs hp hw => ?_)
  obtain ⟨q1, rfl, rfl⟩ := hp
  have hw : rc_W E A s [(h0, .inr (12, [.int 0, .ref h1, .ref h2, .ref h3, .ref h4, .ref h5, .int 1, .int 3, .int 50, .int (-1), .int (-1), .int (-1), .int (-1), .int 0, .int 100, .int 1000, .long 2748329424792805773])), (h3, .inr (4, [.int 0, .ref (E.2.2 0), .int 0])), (q1, .inl (E.2.1 0, 0, .inl (va_cpy (fun _ => 0) (fun _ => 0) 6 0 0)))] H locs := hw
  exact rc_aret (v := q1) hx hb hr (by first | exact Or.inl ⟨_, rfl⟩ | exact Or.inr ⟨_, rfl⟩) hlocks hw [(h0, .inr (12, [.int 0, .ref h1, .ref h2, .ref h3, .ref h4, .ref h5, .int 1, .int 3, .int 50, .int (-1), .int (-1), .int (-1), .int (-1), .int 0, .int 100, .int 1000, .long 2748329424792805773])), (h3, .inr (4, [.int 0, .ref (E.2.2 0), .int 0])), (q1, .inl (E.2.1 0, 0, .inl (va_cpy (fun _ => 0) (fun _ => 0) 6 0 0)))] (⟨q1, rfl, rfl⟩) [0, 1, 2] rfl (by decide) (Nat.le_of_ble_eq_true rfl) (Nat.le_of_ble_eq_true rfl) dX7_sample__6
set_option maxHeartbeats 4000000 in
set_option maxRecDepth 100000 in
theorem cw_X7_ofChangeNow_6 (l : Launch) (E : rc_E) (sz : Nat) (h0 : Nat) (h1 : Nat) (h2 : Nat) (h3 : Nat) (h4 : Nat) (h5 : Nat) : rc_Mi l yX7_ofChangeNow [Cond.code yX7_ofChangeNow cX7_ofChangeNow 6 (some FieldType.int)] { frames := 5, cells := 3, slots := 10, locals := 132 } E [.ref h0, .int 0, .int 4] [(h0, .inr (12, [.int 0, .ref h1, .ref h2, .ref h3, .ref h4, .ref h5, .int 1, .int 3, .int 50, .int (-1), .int (-1), .int (-1), .int (-1), .int 0, .int 100, .int 1000, .long 2748329424792805773])), (h3, .inr (4, [.int 0, .ref (E.2.2 0), .int 0]))] sz (S := va_W) (fun (r : Int32) (u : va_W) => ((-1) = r ∧ u = [(h0, .inr (12, [.int 0, .ref h1, .ref h2, .ref h3, .ref h4, .ref h5, .int 1, .int 3, .int 50, .int (-1), .int (-1), .int (-1), .int (-1), .int 0, .int 100, .int 1000, .long 2748329424792805773])), (h3, .inr (4, [.int 0, .ref (E.2.2 0), .int 0]))])) (fun u => u) 3 10 := by
  refine rc_ini (cc := cX7_ofChangeNow) (maxL := 6) (ret := (some FieldType.int)) (by decide) rfl (Nat.le_of_ble_eq_true rfl) ?_
  intro p e s m args below meth c ls A hx hb hr hml _ hown hlocks hin hA hAm hw hl
  have hown : s.vm.findClass RX7 = some m.cls := hown
  have hl : lv_has ls 6 [(0, .ref h0), (1, .int 0), (2, .int 4)] := hl
  refine lv_iconst (v := 0) hx hb dX7_ofChangeNow_0 (by decide) ?_
  refine lv_istore_n (lv' := [(3, .int 0), (0, .ref h0), (1, .int 0), (2, .int 4)]) hx hb dX7_ofChangeNow_1 rfl hl (by decide) rfl (fun ls hl => ?_)
  refine lv_aload_n hx hb dX7_ofChangeNow_2 rfl (lv_at hl 1 rfl) ?_
  refine rc_get (v := .ref h3) hx hb hown hAm hw lyX7 0 rfl rfl 3 (by decide) qw_863 (fun _ h9 => h9) rfl dX7_ofChangeNow_3 ?_
  refine rc_callr (wr := [(h0, .inr (12, [.int 0, .ref h1, .ref h2, .ref h3, .ref h4, .ref h5, .int 1, .int 3, .int 50, .int (-1), .int (-1), .int (-1), .int (-1), .int 0, .int 100, .int 1000, .long 2748329424792805773]))]) (va_runV (As := []) (rest := []) (Ts := []) ⟨hx, hb, hml, hown, fun _ h9 => absurd h9 List.not_mem_nil⟩ (cw_Jx4a65c_iterator_32c93 l E _ h3) (rc_cwV hAm qw_1295 qw_4 qw_1298 qw_1296 qw_1297 rfl rfl hd_Jx4a65c_iterator_32c93 ⟨Nat.le_of_ble_eq_true rfl, Nat.le_of_ble_eq_true rfl⟩) (rc_preV hAm hA hw [1] rfl rfl 1 rfl (q := vwCl[4]) rfl) rfl rfl hl.1 rfl (lv_room (Nat.le_of_ble_eq_true rfl)) dX7_ofChangeNow_6 ⟨Nat.le_of_ble_eq_true rfl, Nat.le_of_ble_eq_true rfl⟩) hA hw [1] [0] rfl rfl rfl (by decide) (fun u_2 r_1 H locs hp hw => ?_)
  obtain ⟨q1, rfl, rfl⟩ := hp
  have hw : rc_W E A s [(h0, .inr (12, [.int 0, .ref h1, .ref h2, .ref h3, .ref h4, .ref h5, .int 1, .int 3, .int 50, .int (-1), .int (-1), .int (-1), .int (-1), .int 0, .int 100, .int 1000, .long 2748329424792805773])), (h3, .inr (4, [.int 0, .ref (E.2.2 0), .int 0])), (q1, .inr (3, [.int 0, .int (-1), .int 0, .ref h3]))] H locs := hw
  refine lv_astore (lv' := [(4, .ref q1), (3, .int 0), (0, .ref h0), (1, .int 0), (2, .int 4)]) hx hb dX7_ofChangeNow_9 hl (by decide) rfl (fun ls hl => ?_)
  refine lv_aload hx hb dX7_ofChangeNow_11 (lv_at hl 0 rfl) ?_
  refine rc_callFi (wr := [(h0, .inr (12, [.int 0, .ref h1, .ref h2, .ref h3, .ref h4, .ref h5, .int 1, .int 3, .int 50, .int (-1), .int (-1), .int (-1), .int (-1), .int 0, .int 100, .int 1000, .long 2748329424792805773]))]) (va_runF (As := []) (rest := []) (Ts := []) ((hAm.K.1 3 _ rfl).2) ⟨hx, hb, hml, hown, fun _ h9 => absurd h9 List.not_mem_nil⟩ (cw_Jx35411_hasNext_aae02 l E _ q1 h3) (rc_cwF (C := "java/util/ArrayList$Itr") (n := 0) hAm qw_1319 qw_32 qw_1327 qw_1325 qw_1323 qw_1321 qw_1320 (by decide +kernel) qw_1326 qw_1324 qw_1322 rfl rfl (by decide +kernel) ⟨Nat.le_of_ble_eq_true rfl, Nat.le_of_ble_eq_true rfl⟩) (rc_preV hAm hA hw [2, 1] rfl rfl 2 rfl (q := vwCl[3]) rfl) rfl rfl hl.1 rfl (lv_room (Nat.le_of_ble_eq_true rfl)) dX7_ofChangeNow_13 ⟨Nat.le_of_ble_eq_true rfl, Nat.le_of_ble_eq_true rfl⟩) hA hw [2, 1] [0] rfl rfl rfl (by decide) (fun r_3 u_4 H locs hp hw => ?_)
  obtain ⟨rfl, rfl⟩ := hp
  have hw : rc_W E A s [(h0, .inr (12, [.int 0, .ref h1, .ref h2, .ref h3, .ref h4, .ref h5, .int 1, .int 3, .int 50, .int (-1), .int (-1), .int (-1), .int (-1), .int 0, .int 100, .int 1000, .long 2748329424792805773])), (q1, .inr (3, [.int 0, .int (-1), .int 0, .ref h3])), (h3, .inr (4, [.int 0, .ref (E.2.2 0), .int 0]))] H locs := hw
  refine lv_if_eq (tgt := 52) hx hb dX7_ofChangeNow_18 (by decide) (fun _ => ?_) (fun c9 => absurd (by decide) c9)
  refine lv_aload_n hx hb dX7_ofChangeNow_52 rfl (lv_at hl 2 rfl) ?_
  refine lv_iload_n hx hb dX7_ofChangeNow_53 rfl (lv_at hl 3 rfl) ?_
  refine rc_callr (wr := [(q1, .inr (3, [.int 0, .int (-1), .int 0, .ref h3]))]) (va_runV (As := [.int 0]) (rest := []) (Ts := []) ⟨hx, hb, hml, hown, fun _ h9 => absurd h9 List.not_mem_nil⟩ (cw_X7_sample__6 l E _ h0 h1 h2 h3 h4 h5) (rc_cwV hAm qw_967 qw_13 qw_970 qw_969 qs_54 rfl rfl hd_X7_sample_ ⟨Nat.le_of_ble_eq_true rfl, Nat.le_of_ble_eq_true rfl⟩) (rc_preV hAm hA hw [0, 2] rfl rfl 0 rfl (q := vwCl[12]) rfl) rfl rfl hl.1 rfl (lv_room (Nat.le_of_ble_eq_true rfl)) dX7_ofChangeNow_54 ⟨Nat.le_of_ble_eq_true rfl, Nat.le_of_ble_eq_true rfl⟩) hA hw [0, 2] [1] rfl rfl rfl (by decide) (fun u_6 r_5 H locs hp hw => ?_)
  obtain ⟨q2, rfl, rfl⟩ := hp
  have hw : rc_W E A s [(q1, .inr (3, [.int 0, .int (-1), .int 0, .ref h3])), (h0, .inr (12, [.int 0, .ref h1, .ref h2, .ref h3, .ref h4, .ref h5, .int 1, .int 3, .int 50, .int (-1), .int (-1), .int (-1), .int (-1), .int 0, .int 100, .int 1000, .long 2748329424792805773])), (h3, .inr (4, [.int 0, .ref (E.2.2 0), .int 0])), (q2, .inl (E.2.1 0, 0, .inl (va_cpy (fun _ => 0) (fun _ => 0) 6 0 0)))] H locs := hw
  refine lv_astore (lv' := [(4, .ref q2), (3, .int 0), (0, .ref h0), (1, .int 0), (2, .int 4)]) hx hb dX7_ofChangeNow_57 hl (by decide) rfl (fun ls hl => ?_)
  refine lv_aload hx hb dX7_ofChangeNow_59 (lv_at hl 0 rfl) ?_
  refine rc_callv (wr := [(q1, .inr (3, [.int 0, .int (-1), .int 0, .ref h3])), (h0, .inr (12, [.int 0, .ref h1, .ref h2, .ref h3, .ref h4, .ref h5, .int 1, .int 3, .int 50, .int (-1), .int (-1), .int (-1), .int (-1), .int 0, .int 100, .int 1000, .long 2748329424792805773])), (h3, .inr (4, [.int 0, .ref (E.2.2 0), .int 0]))]) (va_runS (As := [.ref q2]) (rest := []) (Ts := []) ⟨hx, hb, hml, hown, fun _ h9 => absurd h9 List.not_mem_nil⟩ (cw_J7_sort_2022b l E _ q2 (va_cpy (fun _ => 0) (fun _ => 0) 6 0 0)) (rc_cwS hAm qw_1241 qw_11 qw_1243 qw_1242 rfl rfl hd_J7_sort_2022b ⟨Nat.le_of_ble_eq_true rfl, Nat.le_of_ble_eq_true rfl⟩) (rc_preS hAm hA hw [3] rfl rfl) rfl rfl hl.1 rfl (lv_room (Nat.le_of_ble_eq_true rfl)) dX7_ofChangeNow_61 ⟨Nat.le_of_ble_eq_true rfl, Nat.le_of_ble_eq_true rfl⟩) hA hw [3] [0, 1, 2] rfl rfl rfl (by decide) (fun u_8 H locs hp hw => ?_)
  obtain ⟨rfl⟩ := hp
  have hw : rc_W E A s [(q1, .inr (3, [.int 0, .int (-1), .int 0, .ref h3])), (h0, .inr (12, [.int 0, .ref h1, .ref h2, .ref h3, .ref h4, .ref h5, .int 1, .int 3, .int 50, .int (-1), .int (-1), .int (-1), .int (-1), .int 0, .int 100, .int 1000, .long 2748329424792805773])), (h3, .inr (4, [.int 0, .ref (E.2.2 0), .int 0])), (q2, .inl (E.2.1 0, 0, .inl (va_cpy (fun _ => 0) (fun _ => 0) 6 0 0)))] H locs := hw
  refine lv_aload hx hb dX7_ofChangeNow_64 (lv_at hl 0 rfl) ?_
  refine rc_alen hx hb hAm hw 3 0 rfl rfl 0 rfl dX7_ofChangeNow_66 ?_
  refine lv_iconst (v := 1) hx hb dX7_ofChangeNow_67 (by decide) ?_
  refine lv_isub hx hb dX7_ofChangeNow_68 ?_
  refine rc_topi (-1) (by decide) ?_
  refine lv_istore (lv' := [(5, .int (-1)), (4, .ref q2), (3, .int 0), (0, .ref h0), (1, .int 0), (2, .int 4)]) hx hb dX7_ofChangeNow_69 hl (by decide) rfl (fun ls hl => ?_)
  refine lv_iload_n hx hb dX7_ofChangeNow_71 rfl (lv_at hl 5 rfl) ?_
  refine lv_tableIn (tgt := 145) hx hb dX7_ofChangeNow_72 (by decide) (by decide) rfl (by decide) ?_
  refine lv_iload hx hb dX7_ofChangeNow_145 (lv_at hl 0 rfl) ?_
  refine lv_if_ge (tgt := 154) hx hb dX7_ofChangeNow_147 (by decide) (fun c9 => absurd c9 (by decide)) (fun _ => ?_)
  refine lv_iconst (v := (-1)) hx hb dX7_ofChangeNow_150 (by decide) ?_
  refine lv_goto (tgt := 159) hx hb dX7_ofChangeNow_151 (by decide) ?_
  exact rc_iret (v := (-1)) hx hb hr hlocks hw [(h0, .inr (12, [.int 0, .ref h1, .ref h2, .ref h3, .ref h4, .ref h5, .int 1, .int 3, .int 50, .int (-1), .int (-1), .int (-1), .int (-1), .int 0, .int 100, .int 1000, .long 2748329424792805773])), (h3, .inr (4, [.int 0, .ref (E.2.2 0), .int 0]))] (⟨rfl, rfl⟩) [1, 2] rfl (by decide) (Nat.le_of_ble_eq_true rfl) (Nat.le_of_ble_eq_true rfl) dX7_ofChangeNow_159
