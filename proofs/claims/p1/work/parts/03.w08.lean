set_option maxHeartbeats 4000000 in
set_option maxRecDepth 100000 in
theorem cw_X7_sample__3 (l : Launch) (E : rc_E) (sz : Nat) (h0 : Nat) (h1 : Nat) (h2 : Nat) (h3 : Nat) (h4 : Nat) (h5 : Nat) : rc_Mr l yX7_sample_ [Cond.code yX7_sample_ cX7_sample_ 2 (some (FieldType.array FieldType.int))] { frames := 4, cells := 2, slots := 6, locals := 111 } E [.ref h0, .int 0] [(h0, .inr (12, [.int 0, .ref h1, .ref h2, .ref h3, .ref h4, .ref h5, .int 1, .int 3, .int 50, .int (-1), .int (-1), .int (-1), .int (-1), .int 0, .int 100, .int 1000, .long 4712863531752146291])), (h3, .inr (4, [.int 0, .ref (E.2.2 0), .int 0]))] sz (S := va_W) (fun (u : va_W) (r : Nat) => (∃ q1 : Nat, q1 = r ∧ u = [(h0, .inr (12, [.int 0, .ref h1, .ref h2, .ref h3, .ref h4, .ref h5, .int 1, .int 3, .int 50, .int (-1), .int (-1), .int (-1), .int (-1), .int 0, .int 100, .int 1000, .long 4712863531752146291])), (h3, .inr (4, [.int 0, .ref (E.2.2 0), .int 0])), (q1, .inl (E.2.1 0, 0, .inl (va_cpy (fun _ => 0) (fun _ => 0) 6 0 0)))])) (fun u => u) 2 6 := by
  refine rc_inr (cc := cX7_sample_) (maxL := 2) (ret := (some (FieldType.array FieldType.int))) (by decide) rfl (Nat.le_of_ble_eq_true rfl) ?_
  intro p e s m args below meth c ls A hx hb hr hml _ hown hlocks hin hA hAm hw hl
  have hown : s.vm.findClass RX7 = some m.cls := hown
  have hl : lv_has ls 2 [(0, .ref h0), (1, .int 0)] := hl
  refine lv_aload_n hx hb dX7_sample__0 rfl (lv_at hl 0 rfl) ?_
  refine lv_iload_n hx hb dX7_sample__1 rfl (lv_at hl 1 rfl) ?_
  refine lv_iconst (v := (-1)) hx hb dX7_sample__2 (by decide) ?_
  refine rc_callr (wr := []) (va_runV (As := [.int 0, .int (-1)]) (rest := []) (Ts := []) ⟨hx, hb, hml, hown, fun _ h9 => absurd h9 List.not_mem_nil⟩ (cw_X7_sample_3 l E _ h0 h1 h2 h3 h4 h5) (rc_cwV hAm qw_971 qw_13 qw_974 qw_973 qs_55 rfl rfl hd_X7_sample ⟨Nat.le_of_ble_eq_true rfl, Nat.le_of_ble_eq_true rfl⟩) (rc_preV hAm hA hw [0, 1] rfl rfl 0 rfl (q := vwCl[12]) rfl) rfl rfl hl.1 rfl (lv_room (Nat.le_of_ble_eq_true rfl)) dX7_sample__3 ⟨Nat.le_of_ble_eq_true rfl, Nat.le_of_ble_eq_true rfl⟩) hA hw [0, 1] [] rfl rfl rfl (by decide) (fun u_2 r_1 H locs hp hw => ?_)
  obtain ⟨q1, rfl, rfl⟩ := hp
  have hw : rc_W E A s [(h0, .inr (12, [.int 0, .ref h1, .ref h2, .ref h3, .ref h4, .ref h5, .int 1, .int 3, .int 50, .int (-1), .int (-1), .int (-1), .int (-1), .int 0, .int 100, .int 1000, .long 4712863531752146291])), (h3, .inr (4, [.int 0, .ref (E.2.2 0), .int 0])), (q1, .inl (E.2.1 0, 0, .inl (va_cpy (fun _ => 0) (fun _ => 0) 6 0 0)))] H locs := hw
  exact rc_aret (v := q1) hx hb hr (by first | exact Or.inl ⟨_, rfl⟩ | exact Or.inr ⟨_, rfl⟩) hlocks hw [(h0, .inr (12, [.int 0, .ref h1, .ref h2, .ref h3, .ref h4, .ref h5, .int 1, .int 3, .int 50, .int (-1), .int (-1), .int (-1), .int (-1), .int 0, .int 100, .int 1000, .long 4712863531752146291])), (h3, .inr (4, [.int 0, .ref (E.2.2 0), .int 0])), (q1, .inl (E.2.1 0, 0, .inl (va_cpy (fun _ => 0) (fun _ => 0) 6 0 0)))] (⟨q1, rfl, rfl⟩) [0, 1, 2] rfl (by decide) (Nat.le_of_ble_eq_true rfl) (Nat.le_of_ble_eq_true rfl) dX7_sample__6
set_option maxHeartbeats 4000000 in
set_option maxRecDepth 100000 in
theorem cw_X7_ofChangeNow_3 (l : Launch) (E : rc_E) (sz : Nat) (h0 : Nat) (h1 : Nat) (h2 : Nat) (h3 : Nat) (h4 : Nat) (h5 : Nat) : rc_Mi l yX7_ofChangeNow [Cond.code yX7_ofChangeNow cX7_ofChangeNow 6 (some FieldType.int)] { frames := 5, cells := 3, slots := 10, locals := 132 } E [.ref h0, .int 0, .int 1] [(h0, .inr (12, [.int 0, .ref h1, .ref h2, .ref h3, .ref h4, .ref h5, .int 1, .int 3, .int 50, .int (-1), .int (-1), .int (-1), .int (-1), .int 0, .int 100, .int 1000, .long 4712863531752146291])), (h3, .inr (4, [.int 0, .ref (E.2.2 0), .int 0]))] sz (S := va_W) (fun (r : Int32) (u : va_W) => (0 = r ∧ u = [(h0, .inr (12, [.int 0, .ref h1, .ref h2, .ref h3, .ref h4, .ref h5, .int 1, .int 3, .int 50, .int (-1), .int (-1), .int (-1), .int (-1), .int 0, .int 100, .int 1000, .long 4712863531752146291])), (h3, .inr (4, [.int 0, .ref (E.2.2 0), .int 0]))])) (fun u => u) 3 10 := by
  refine rc_ini (cc := cX7_ofChangeNow) (maxL := 6) (ret := (some FieldType.int)) (by decide) rfl (Nat.le_of_ble_eq_true rfl) ?_
  intro p e s m args below meth c ls A hx hb hr hml _ hown hlocks hin hA hAm hw hl
  have hown : s.vm.findClass RX7 = some m.cls := hown
  have hl : lv_has ls 6 [(0, .ref h0), (1, .int 0), (2, .int 1)] := hl
  refine lv_iconst (v := 0) hx hb dX7_ofChangeNow_0 (by decide) ?_
  refine lv_istore_n (lv' := [(3, .int 0), (0, .ref h0), (1, .int 0), (2, .int 1)]) hx hb dX7_ofChangeNow_1 rfl hl (by decide) rfl (fun ls hl => ?_)
  refine lv_aload_n hx hb dX7_ofChangeNow_2 rfl (lv_at hl 1 rfl) ?_
  refine rc_get (v := .ref h3) hx hb hown hAm hw lyX7 0 rfl rfl 3 (by decide) qw_863 (fun _ h9 => h9) rfl dX7_ofChangeNow_3 ?_
  refine rc_callr (wr := [(h0, .inr (12, [.int 0, .ref h1, .ref h2, .ref h3, .ref h4, .ref h5, .int 1, .int 3, .int 50, .int (-1), .int (-1), .int (-1), .int (-1), .int 0, .int 100, .int 1000, .long 4712863531752146291]))]) (va_runV (As := []) (rest := []) (Ts := []) ⟨hx, hb, hml, hown, fun _ h9 => absurd h9 List.not_mem_nil⟩ (cw_Jx4a65c_iterator_32c93 l E _ h3) (rc_cwV hAm qw_1295 qw_4 qw_1298 qw_1296 qw_1297 rfl rfl hd_Jx4a65c_iterator_32c93 ⟨Nat.le_of_ble_eq_true rfl, Nat.le_of_ble_eq_true rfl⟩) (rc_preV hAm hA hw [1] rfl rfl 1 rfl (q := vwCl[4]) rfl) rfl rfl hl.1 rfl (lv_room (Nat.le_of_ble_eq_true rfl)) dX7_ofChangeNow_6 ⟨Nat.le_of_ble_eq_true rfl, Nat.le_of_ble_eq_true rfl⟩) hA hw [1] [0] rfl rfl rfl (by decide) (fun u_2 r_1 H locs hp hw => ?_)
  obtain ⟨q1, rfl, rfl⟩ := hp
  have hw : rc_W E A s [(h0, .inr (12, [.int 0, .ref h1, .ref h2, .ref h3, .ref h4, .ref h5, .int 1, .int 3, .int 50, .int (-1), .int (-1), .int (-1), .int (-1), .int 0, .int 100, .int 1000, .long 4712863531752146291])), (h3, .inr (4, [.int 0, .ref (E.2.2 0), .int 0])), (q1, .inr (3, [.int 0, .int (-1), .int 0, .ref h3]))] H locs := hw
  refine lv_astore (lv' := [(4, .ref q1), (3, .int 0), (0, .ref h0), (1, .int 0), (2, .int 1)]) hx hb dX7_ofChangeNow_9 hl (by decide) rfl (fun ls hl => ?_)
  refine lv_aload hx hb dX7_ofChangeNow_11 (lv_at hl 0 rfl) ?_
  refine rc_callFi (wr := [(h0, .inr (12, [.int 0, .ref h1, .ref h2, .ref h3, .ref h4, .ref h5, .int 1, .int 3, .int 50, .int (-1), .int (-1), .int (-1), .int (-1), .int 0, .int 100, .int 1000, .long 4712863531752146291]))]) (va_runF (As := []) (rest := []) (Ts := []) ((hAm.K.1 3 _ rfl).2) ⟨hx, hb, hml, hown, fun _ h9 => absurd h9 List.not_mem_nil⟩ (cw_Jx35411_hasNext_aae02 l E _ q1 h3) (rc_cwF (C := "java/util/ArrayList$Itr") (n := 0) hAm qw_1319 qw_32 qw_1327 qw_1325 qw_1323 qw_1321 qw_1320 (by decide +kernel) qw_1326 qw_1324 qw_1322 rfl rfl (by decide +kernel) ⟨Nat.le_of_ble_eq_true rfl, Nat.le_of_ble_eq_true rfl⟩) (rc_preV hAm hA hw [2, 1] rfl rfl 2 rfl (q := vwCl[3]) rfl) rfl rfl hl.1 rfl (lv_room (Nat.le_of_ble_eq_true rfl)) dX7_ofChangeNow_13 ⟨Nat.le_of_ble_eq_true rfl, Nat.le_of_ble_eq_true rfl⟩) hA hw [2, 1] [0] rfl rfl rfl (by decide) (fun r_3 u_4 H locs hp hw => ?_)
  obtain ⟨rfl, rfl⟩ := hp
  have hw : rc_W E A s [(h0, .inr (12, [.int 0, .ref h1, .ref h2, .ref h3, .ref h4, .ref h5, .int 1, .int 3, .int 50, .int (-1), .int (-1), .int (-1), .int (-1), .int 0, .int 100, .int 1000, .long 4712863531752146291])), (q1, .inr (3, [.int 0, .int (-1), .int 0, .ref h3])), (h3, .inr (4, [.int 0, .ref (E.2.2 0), .int 0]))] H locs := hw
  refine lv_if_eq (tgt := 52) hx hb dX7_ofChangeNow_18 (by decide) (fun _ => ?_) (fun c9 => absurd (by decide) c9)
  refine lv_aload_n hx hb dX7_ofChangeNow_52 rfl (lv_at hl 2 rfl) ?_
  refine lv_iload_n hx hb dX7_ofChangeNow_53 rfl (lv_at hl 3 rfl) ?_
  refine rc_callr (wr := [(q1, .inr (3, [.int 0, .int (-1), .int 0, .ref h3]))]) (va_runV (As := [.int 0]) (rest := []) (Ts := []) ⟨hx, hb, hml, hown, fun _ h9 => absurd h9 List.not_mem_nil⟩ (cw_X7_sample__3 l E _ h0 h1 h2 h3 h4 h5) (rc_cwV hAm qw_967 qw_13 qw_970 qw_969 qs_54 rfl rfl hd_X7_sample_ ⟨Nat.le_of_ble_eq_true rfl, Nat.le_of_ble_eq_true rfl⟩) (rc_preV hAm hA hw [0, 2] rfl rfl 0 rfl (q := vwCl[12]) rfl) rfl rfl hl.1 rfl (lv_room (Nat.le_of_ble_eq_true rfl)) dX7_ofChangeNow_54 ⟨Nat.le_of_ble_eq_true rfl, Nat.le_of_ble_eq_true rfl⟩) hA hw [0, 2] [1] rfl rfl rfl (by decide) (fun u_6 r_5 H locs hp hw => ?_)
  obtain ⟨q2, rfl, rfl⟩ := hp
  have hw : rc_W E A s [(q1, .inr (3, [.int 0, .int (-1), .int 0, .ref h3])), (h0, .inr (12, [.int 0, .ref h1, .ref h2, .ref h3, .ref h4, .ref h5, .int 1, .int 3, .int 50, .int (-1), .int (-1), .int (-1), .int (-1), .int 0, .int 100, .int 1000, .long 4712863531752146291])), (h3, .inr (4, [.int 0, .ref (E.2.2 0), .int 0])), (q2, .inl (E.2.1 0, 0, .inl (va_cpy (fun _ => 0) (fun _ => 0) 6 0 0)))] H locs := hw
  refine lv_astore (lv' := [(4, .ref q2), (3, .int 0), (0, .ref h0), (1, .int 0), (2, .int 1)]) hx hb dX7_ofChangeNow_57 hl (by decide) rfl (fun ls hl => ?_)
  refine lv_aload hx hb dX7_ofChangeNow_59 (lv_at hl 0 rfl) ?_
  refine rc_callv (wr := [(q1, .inr (3, [.int 0, .int (-1), .int 0, .ref h3])), (h0, .inr (12, [.int 0, .ref h1, .ref h2, .ref h3, .ref h4, .ref h5, .int 1, .int 3, .int 50, .int (-1), .int (-1), .int (-1), .int (-1), .int 0, .int 100, .int 1000, .long 4712863531752146291])), (h3, .inr (4, [.int 0, .ref (E.2.2 0), .int 0]))]) (va_runS (As := [.ref q2]) (rest := []) (Ts := []) ⟨hx, hb, hml, hown, fun _ h9 => absurd h9 List.not_mem_nil⟩ (cw_J7_sort_2022b l E _ q2 (va_cpy (fun _ => 0) (fun _ => 0) 6 0 0)) (rc_cwS hAm qw_1241 qw_11 qw_1243 qw_1242 rfl rfl hd_J7_sort_2022b ⟨Nat.le_of_ble_eq_true rfl, Nat.le_of_ble_eq_true rfl⟩) (rc_preS hAm hA hw [3] rfl rfl) rfl rfl hl.1 rfl (lv_room (Nat.le_of_ble_eq_true rfl)) dX7_ofChangeNow_61 ⟨Nat.le_of_ble_eq_true rfl, Nat.le_of_ble_eq_true rfl⟩) hA hw [3] [0, 1, 2] rfl rfl rfl (by decide) (fun u_8 H locs hp hw => ?_)
  obtain ⟨rfl⟩ := hp
  have hw : rc_W E A s [(q1, .inr (3, [.int 0, .int (-1), .int 0, .ref h3])), (h0, .inr (12, [.int 0, .ref h1, .ref h2, .ref h3, .ref h4, .ref h5, .int 1, .int 3, .int 50, .int (-1), .int (-1), .int (-1), .int (-1), .int 0, .int 100, .int 1000, .long 4712863531752146291])), (h3, .inr (4, [.int 0, .ref (E.2.2 0), .int 0])), (q2, .inl (E.2.1 0, 0, .inl (va_cpy (fun _ => 0) (fun _ => 0) 6 0 0)))] H locs := hw
  refine lv_aload hx hb dX7_ofChangeNow_64 (lv_at hl 0 rfl) ?_
  refine rc_alen hx hb hAm hw 3 0 rfl rfl 0 rfl dX7_ofChangeNow_66 ?_
  refine lv_iconst (v := 1) hx hb dX7_ofChangeNow_67 (by decide) ?_
  refine lv_isub hx hb dX7_ofChangeNow_68 ?_
  refine rc_topi (-1) (by decide) ?_
  refine lv_istore (lv' := [(5, .int (-1)), (4, .ref q2), (3, .int 0), (0, .ref h0), (1, .int 0), (2, .int 1)]) hx hb dX7_ofChangeNow_69 hl (by decide) rfl (fun ls hl => ?_)
  refine lv_iload_n hx hb dX7_ofChangeNow_71 rfl (lv_at hl 5 rfl) ?_
  refine lv_tableIn (tgt := 110) hx hb dX7_ofChangeNow_72 (by decide) (by decide) rfl (by decide) ?_
  refine lv_aload hx hb dX7_ofChangeNow_110 (lv_at hl 1 rfl) ?_
  refine rc_alen hx hb hAm hw 3 0 rfl rfl 0 rfl dX7_ofChangeNow_112 ?_
  exact rc_iret (v := 0) hx hb hr hlocks hw [(h0, .inr (12, [.int 0, .ref h1, .ref h2, .ref h3, .ref h4, .ref h5, .int 1, .int 3, .int 50, .int (-1), .int (-1), .int (-1), .int (-1), .int 0, .int 100, .int 1000, .long 4712863531752146291])), (h3, .inr (4, [.int 0, .ref (E.2.2 0), .int 0]))] (⟨rfl, rfl⟩) [1, 2] rfl (by decide) (Nat.le_of_ble_eq_true rfl) (Nat.le_of_ble_eq_true rfl) dX7_ofChangeNow_113
set_option maxHeartbeats 4000000 in
set_option maxRecDepth 100000 in
theorem cw_X7_add_11 (l : Launch) (E : rc_E) (sz : Nat) (h0 : Nat) (h1 : Nat) (h2 : Nat) (h3 : Nat) (h4 : Nat) (h5 : Nat) : rc_Mv l yX7_add [Cond.code yX7_add cX7_add 2 (none : Option FieldType)] { frames := 0, cells := 0, slots := 0, locals := 0 } E [.ref h0, .int 0] [(h0, .inr (12, [.int 0, .ref h1, .ref h2, .ref h3, .ref h4, .ref h5, .int 1, .int 3, .int 50, .int (-1), .int (-1), .int (-1), .int (-1), .int 0, .int 100, .int 1000, .long 4712863531752146291]))] sz (S := va_W) (fun (u : va_W) => (u = [(h0, .inr (12, [.int 0, .ref h1, .ref h2, .ref h3, .ref h4, .ref h5, .int 1, .int 3, .int 50, .int (-1), .int (-1), .int (-1), .int (-1), .int 0, .int 100, .int 1000, .long (-1475183105359877907)]))])) (fun u => u) 0 0 := by
  refine rc_inv (cc := cX7_add) (maxL := 2) (ret := (none : Option FieldType)) (by decide) rfl (Nat.le_of_ble_eq_true rfl) ?_
  intro p e s m args below meth c ls A hx hb hr hml _ hown hlocks hin hA hAm hw hl
  have hown : s.vm.findClass RX7 = some m.cls := hown
  have hl : lv_has ls 2 [(0, .ref h0), (1, .int 0)] := hl
  refine lv_aload_n hx hb dX7_add_0 rfl (lv_at hl 0 rfl) ?_
  refine lv_aload_n hx hb dX7_add_1 rfl (lv_at hl 0 rfl) ?_
  refine rc_get (v := .long 4712863531752146291) hx hb hown hAm hw lyX7 0 rfl rfl 16 (by decide) qw_876 (fun _ h9 => h9) rfl dX7_add_2 ?_
  refine lv_ldc2 (v := 31) hx hb hown (hAm.wd qw_1470 rfl rfl) dX7_add_5 ?_
  refine lv_lmul hx hb dX7_add_8 ?_
  refine rc_topl (-1475183105359877907) (by decide) ?_
  refine lv_iload_n hx hb dX7_add_9 rfl (lv_at hl 1 rfl) ?_
  refine lv_i2l (v := 0) hx hb dX7_add_10 (by decide) ?_
  refine lv_ladd hx hb dX7_add_11 ?_
  refine rc_topl (-1475183105359877907) (by decide) ?_
  refine rc_put hx hb hown hAm hw lyX7 tyX7 tyX7_ok nmX7 0 rfl rfl 16 (by decide) qw_876 (fun _ h9 => h9) rfl rfl (by decide +kernel) (Nat.le_of_ble_eq_true rfl) [(h0, .inr (12, [.int 0, .ref h1, .ref h2, .ref h3, .ref h4, .ref h5, .int 1, .int 3, .int 50, .int (-1), .int (-1), .int (-1), .int (-1), .int 0, .int 100, .int 1000, .long (-1475183105359877907)]))] rfl dX7_add_12 (fun H locs hw => ?_)
  exact rc_vret hx hb hr hlocks hw [(h0, .inr (12, [.int 0, .ref h1, .ref h2, .ref h3, .ref h4, .ref h5, .int 1, .int 3, .int 50, .int (-1), .int (-1), .int (-1), .int (-1), .int 0, .int 100, .int 1000, .long (-1475183105359877907)]))] (rfl) [0] rfl (by decide) (Nat.le_of_ble_eq_true rfl) (Nat.le_of_ble_eq_true rfl) dX7_add_15
set_option maxHeartbeats 4000000 in
set_option maxRecDepth 100000 in
theorem cw_X7_sample_4 (l : Launch) (E : rc_E) (sz : Nat) (h0 : Nat) (h1 : Nat) (h2 : Nat) (h3 : Nat) (h4 : Nat) (h5 : Nat) : rc_Mr l yX7_sample [Cond.code yX7_sample cX7_sample 6 (some (FieldType.array FieldType.int))] { frames := 3, cells := 2, slots := 6, locals := 86 } E [.ref h0, .int 0, .int (-1)] [(h0, .inr (12, [.int 0, .ref h1, .ref h2, .ref h3, .ref h4, .ref h5, .int 1, .int 3, .int 50, .int (-1), .int (-1), .int (-1), .int (-1), .int 0, .int 100, .int 1000, .long (-1475183105359877907)])), (h3, .inr (4, [.int 0, .ref (E.2.2 0), .int 0]))] sz (S := va_W) (fun (u : va_W) (r : Nat) => (∃ q2 : Nat, q2 = r ∧ u = [(h0, .inr (12, [.int 0, .ref h1, .ref h2, .ref h3, .ref h4, .ref h5, .int 1, .int 3, .int 50, .int (-1), .int (-1), .int (-1), .int (-1), .int 0, .int 100, .int 1000, .long (-1475183105359877907)])), (h3, .inr (4, [.int 0, .ref (E.2.2 0), .int 0])), (q2, .inl (E.2.1 0, 0, .inl (va_cpy (fun _ => 0) (fun _ => 0) 6 0 0)))])) (fun u => u) 2 6 := by
  refine rc_inr (cc := cX7_sample) (maxL := 6) (ret := (some (FieldType.array FieldType.int))) (by decide) rfl (Nat.le_of_ble_eq_true rfl) ?_
  intro p e s m args below meth c ls A hx hb hr hml _ hown hlocks hin hA hAm hw hl
  have hown : s.vm.findClass RX7 = some m.cls := hown
  have hl : lv_has ls 6 [(0, .ref h0), (1, .int 0), (2, .int (-1))] := hl
  refine lv_bipush (v := 6) hx hb dX7_sample_0 (by decide) ?_
  refine rc_inew hx hb hAm hA hw qw_108 6 (by decide) (by decide) (Nat.le_of_ble_eq_true rfl) (Nat.le_of_ble_eq_true rfl) (Nat.le_of_ble_eq_true rfl) dX7_sample_2 (fun q1 H hw => ?_)
  have hw : rc_W E A s [(h0, .inr (12, [.int 0, .ref h1, .ref h2, .ref h3, .ref h4, .ref h5, .int 1, .int 3, .int 50, .int (-1), .int (-1), .int (-1), .int (-1), .int 0, .int 100, .int 1000, .long (-1475183105359877907)])), (h3, .inr (4, [.int 0, .ref (E.2.2 0), .int 0])), (q1, .inl (E.2.1 0, 6, .inl (fun _ => 0)))] H _ := hw
  refine lv_astore_n (lv' := [(3, .ref q1), (0, .ref h0), (1, .int 0), (2, .int (-1))]) hx hb dX7_sample_4 rfl hl (by decide) rfl (fun ls hl => ?_)
  refine lv_iconst (v := 0) hx hb dX7_sample_5 (by decide) ?_
  refine lv_istore (lv' := [(4, .int 0), (3, .ref q1), (0, .ref h0), (1, .int 0), (2, .int (-1))]) hx hb dX7_sample_6 hl (by decide) rfl (fun ls hl => ?_)
  refine lv_aload_n hx hb dX7_sample_8 rfl (lv_at hl 2 rfl) ?_
  refine rc_get (v := .ref h3) hx hb hown hAm hw lyX7 0 rfl rfl 3 (by decide) qw_863 (fun _ h9 => h9) rfl dX7_sample_9 ?_
  refine rc_calli (wr := [(h0, .inr (12, [.int 0, .ref h1, .ref h2, .ref h3, .ref h4, .ref h5, .int 1, .int 3, .int 50, .int (-1), .int (-1), .int (-1), .int (-1), .int 0, .int 100, .int 1000, .long (-1475183105359877907)])), (q1, .inl (E.2.1 0, 6, .inl (fun _ => 0)))]) (va_runV (As := []) (rest := []) (Ts := []) ⟨hx, hb, hml, hown, fun _ h9 => absurd h9 List.not_mem_nil⟩ (cw_Jx4a65c_size_8abf5 l E _ h3) (rc_cwV hAm qw_928 qw_4 qw_289 qw_287 qw_288 rfl rfl hd_Jx4a65c_size_8abf5 ⟨Nat.le_of_ble_eq_true rfl, Nat.le_of_ble_eq_true rfl⟩) (rc_preV hAm hA hw [1] rfl rfl 1 rfl (q := vwCl[4]) rfl) rfl rfl hl.1 rfl (lv_room (Nat.le_of_ble_eq_true rfl)) dX7_sample_12 ⟨Nat.le_of_ble_eq_true rfl, Nat.le_of_ble_eq_true rfl⟩) hA hw [1] [0, 2] rfl rfl rfl (by decide) (fun r_1 u_2 H locs hp hw => ?_)
  obtain ⟨rfl, rfl⟩ := hp
  have hw : rc_W E A s [(h0, .inr (12, [.int 0, .ref h1, .ref h2, .ref h3, .ref h4, .ref h5, .int 1, .int 3, .int 50, .int (-1), .int (-1), .int (-1), .int (-1), .int 0, .int 100, .int 1000, .long (-1475183105359877907)])), (q1, .inl (E.2.1 0, 6, .inl (fun _ => 0))), (h3, .inr (4, [.int 0, .ref (E.2.2 0), .int 0]))] H locs := hw
  refine lv_iconst (v := 1) hx hb dX7_sample_15 (by decide) ?_
  refine lv_isub hx hb dX7_sample_16 ?_
  refine rc_topi (-1) (by decide) ?_
  refine lv_istore (lv' := [(5, .int (-1)), (4, .int 0), (3, .ref q1), (0, .ref h0), (1, .int 0), (2, .int (-1))]) hx hb dX7_sample_17 hl (by decide) rfl (fun ls hl => ?_)
  refine lv_iload hx hb dX7_sample_19 (lv_at hl 0 rfl) ?_
  refine lv_if_lt (tgt := 102) hx hb dX7_sample_21 (by decide) (fun _ => ?_) (fun c9 => absurd (by decide) c9)
  refine lv_aload_n hx hb dX7_sample_102 rfl (lv_at hl 2 rfl) ?_
  refine lv_bipush (v := 6) hx hb dX7_sample_103 (by decide) ?_
  refine lv_iload hx hb dX7_sample_105 (lv_at hl 1 rfl) ?_
  refine lv_isub hx hb dX7_sample_107 ?_
  refine rc_topi 6 (by decide) ?_
  refine lv_bipush (v := 6) hx hb dX7_sample_108 (by decide) ?_
  refine rc_callr (wr := [(h0, .inr (12, [.int 0, .ref h1, .ref h2, .ref h3, .ref h4, .ref h5, .int 1, .int 3, .int 50, .int (-1), .int (-1), .int (-1), .int (-1), .int 0, .int 100, .int 1000, .long (-1475183105359877907)])), (h3, .inr (4, [.int 0, .ref (E.2.2 0), .int 0]))]) (va_runS (As := [.ref q1, .int 6, .int 6]) (rest := []) (Ts := []) ⟨hx, hb, hml, hown, fun _ h9 => absurd h9 List.not_mem_nil⟩ (cw_J7_copyOfRange_feecc l E _ q1) (rc_cwS hAm qw_992 qw_11 qw_994 qw_993 rfl rfl hd_J7_copyOfRange_feecc ⟨Nat.le_of_ble_eq_true rfl, Nat.le_of_ble_eq_true rfl⟩) (rc_preS hAm hA hw [1] rfl rfl) rfl rfl hl.1 rfl (lv_room (Nat.le_of_ble_eq_true rfl)) dX7_sample_110 ⟨Nat.le_of_ble_eq_true rfl, Nat.le_of_ble_eq_true rfl⟩) hA hw [1] [0, 2] rfl rfl rfl (by decide) (fun u_4 r_3 H locs hp hw => ?_)
  obtain ⟨q2, rfl, rfl⟩ := hp
  have hw : rc_W E A s [(h0, .inr (12, [.int 0, .ref h1, .ref h2, .ref h3, .ref h4, .ref h5, .int 1, .int 3, .int 50, .int (-1), .int (-1), .int (-1), .int (-1), .int 0, .int 100, .int 1000, .long (-1475183105359877907)])), (h3, .inr (4, [.int 0, .ref (E.2.2 0), .int 0])), (q1, .inl (E.2.1 0, 6, .inl (fun _ => 0))), (q2, .inl (E.2.1 0, 0, .inl (va_cpy (fun _ => 0) (fun _ => 0) 6 0 0)))] H locs := hw
  exact rc_aret (v := q2) hx hb hr (by first | exact Or.inl ⟨_, rfl⟩ | exact Or.inr ⟨_, rfl⟩) hlocks hw [(h0, .inr (12, [.int 0, .ref h1, .ref h2, .ref h3, .ref h4, .ref h5, .int 1, .int 3, .int 50, .int (-1), .int (-1), .int (-1), .int (-1), .int 0, .int 100, .int 1000, .long (-1475183105359877907)])), (h3, .inr (4, [.int 0, .ref (E.2.2 0), .int 0])), (q2, .inl (E.2.1 0, 0, .inl (va_cpy (fun _ => 0) (fun _ => 0) 6 0 0)))] (⟨q2, rfl, rfl⟩) [0, 1, 3] rfl (by decide) (Nat.le_of_ble_eq_true rfl) (Nat.le_of_ble_eq_true rfl) dX7_sample_113
set_option maxHeartbeats 4000000 in
set_option maxRecDepth 100000 in
theorem cw_X7_sample__4 (l : Launch) (E : rc_E) (sz : Nat) (h0 : Nat) (h1 : Nat) (h2 : Nat) (h3 : Nat) (h4 : Nat) (h5 : Nat) : rc_Mr l yX7_sample_ [Cond.code yX7_sample_ cX7_sample_ 2 (some (FieldType.array FieldType.int))] { frames := 4, cells := 2, slots := 6, locals := 111 } E [.ref h0, .int 0] [(h0, .inr (12, [.int 0, .ref h1, .ref h2, .ref h3, .ref h4, .ref h5, .int 1, .int 3, .int 50, .int (-1), .int (-1), .int (-1), .int (-1), .int 0, .int 100, .int 1000, .long (-1475183105359877907)])), (h3, .inr (4, [.int 0, .ref (E.2.2 0), .int 0]))] sz (S := va_W) (fun (u : va_W) (r : Nat) => (∃ q1 : Nat, q1 = r ∧ u = [(h0, .inr (12, [.int 0, .ref h1, .ref h2, .ref h3, .ref h4, .ref h5, .int 1, .int 3, .int 50, .int (-1), .int (-1), .int (-1), .int (-1), .int 0, .int 100, .int 1000, .long (-1475183105359877907)])), (h3, .inr (4, [.int 0, .ref (E.2.2 0), .int 0])), (q1, .inl (E.2.1 0, 0, .inl (va_cpy (fun _ => 0) (fun _ => 0) 6 0 0)))])) (fun u => u) 2 6 := by
  refine rc_inr (cc := cX7_sample_) (maxL := 2) (ret := (some (FieldType.array FieldType.int))) (by decide) rfl (Nat.le_of_ble_eq_true rfl) ?_
  intro p e s m args below meth c ls A hx hb hr hml _ hown hlocks hin hA hAm hw hl
  have hown : s.vm.findClass RX7 = some m.cls := hown
  have hl : lv_has ls 2 [(0, .ref h0), (1, .int 0)] := hl
  refine lv_aload_n hx hb dX7_sample__0 rfl (lv_at hl 0 rfl) ?_
  refine lv_iload_n hx hb dX7_sample__1 rfl (lv_at hl 1 rfl) ?_
  refine lv_iconst (v := (-1)) hx hb dX7_sample__2 (by decide) ?_
  refine rc_callr (wr := []) (va_runV (As := [.int 0, .int (-1)]) (rest := []) (Ts := []) ⟨hx, hb, hml, hown, fun _ h9 => absurd h9 List.not_mem_nil⟩ (cw_X7_sample_4 l E _ h0 h1 h2 h3 h4 h5) (rc_cwV hAm qw_971 qw_13 qw_974 qw_973 qs_55 rfl rfl hd_X7_sample ⟨Nat.le_of_ble_eq_true rfl, Nat.le_of_ble_eq_true rfl⟩) (rc_preV hAm hA hw [0, 1] rfl rfl 0 rfl (q := vwCl[12]) rfl) rfl rfl hl.1 rfl (lv_room (Nat.le_of_ble_eq_true rfl)) dX7_sample__3 ⟨Nat.le_of_ble_eq_true rfl, Nat.le_of_ble_eq_true rfl⟩) hA hw [0, 1] [] rfl rfl rfl (by decide) (fun u_2 r_1 H locs hp hw => ?_)
  obtain ⟨q1, rfl, rfl⟩ := hp
  have hw : rc_W E A s [(h0, .inr (12, [.int 0, .ref h1, .ref h2, .ref h3, .ref h4, .ref h5, .int 1, .int 3, .int 50, .int (-1), .int (-1), .int (-1), .int (-1), .int 0, .int 100, .int 1000, .long (-1475183105359877907)])), (h3, .inr (4, [.int 0, .ref (E.2.2 0), .int 0])), (q1, .inl (E.2.1 0, 0, .inl (va_cpy (fun _ => 0) (fun _ => 0) 6 0 0)))] H locs := hw
  exact rc_aret (v := q1) hx hb hr (by first | exact Or.inl ⟨_, rfl⟩ | exact Or.inr ⟨_, rfl⟩) hlocks hw [(h0, .inr (12, [.int 0, .ref h1, .ref h2, .ref h3, .ref h4, .ref h5, .int 1, .int 3, .int 50, .int (-1), .int (-1), .int (-1), .int (-1), .int 0, .int 100, .int 1000, .long (-1475183105359877907)])), (h3, .inr (4, [.int 0, .ref (E.2.2 0), .int 0])), (q1, .inl (E.2.1 0, 0, .inl (va_cpy (fun _ => 0) (fun _ => 0) 6 0 0)))] (⟨q1, rfl, rfl⟩) [0, 1, 2] rfl (by decide) (Nat.le_of_ble_eq_true rfl) (Nat.le_of_ble_eq_true rfl) dX7_sample__6
set_option maxHeartbeats 4000000 in
set_option maxRecDepth 100000 in
theorem cw_X7_ofChangeNow_4 (l : Launch) (E : rc_E) (sz : Nat) (h0 : Nat) (h1 : Nat) (h2 : Nat) (h3 : Nat) (h4 : Nat) (h5 : Nat) : rc_Mi l yX7_ofChangeNow [Cond.code yX7_ofChangeNow cX7_ofChangeNow 6 (some FieldType.int)] { frames := 5, cells := 3, slots := 10, locals := 132 } E [.ref h0, .int 0, .int 2] [(h0, .inr (12, [.int 0, .ref h1, .ref h2, .ref h3, .ref h4, .ref h5, .int 1, .int 3, .int 50, .int (-1), .int (-1), .int (-1), .int (-1), .int 0, .int 100, .int 1000, .long (-1475183105359877907)])), (h3, .inr (4, [.int 0, .ref (E.2.2 0), .int 0]))] sz (S := va_W) (fun (r : Int32) (u : va_W) => ((-1) = r ∧ u = [(h0, .inr (12, [.int 0, .ref h1, .ref h2, .ref h3, .ref h4, .ref h5, .int 1, .int 3, .int 50, .int (-1), .int (-1), .int (-1), .int (-1), .int 0, .int 100, .int 1000, .long (-1475183105359877907)])), (h3, .inr (4, [.int 0, .ref (E.2.2 0), .int 0]))])) (fun u => u) 3 10 := by
  refine rc_ini (cc := cX7_ofChangeNow) (maxL := 6) (ret := (some FieldType.int)) (by decide) rfl (Nat.le_of_ble_eq_true rfl) ?_
  intro p e s m args below meth c ls A hx hb hr hml _ hown hlocks hin hA hAm hw hl
  have hown : s.vm.findClass RX7 = some m.cls := hown
  have hl : lv_has ls 6 [(0, .ref h0), (1, .int 0), (2, .int 2)] := hl
  refine lv_iconst (v := 0) hx hb dX7_ofChangeNow_0 (by decide) ?_
  refine lv_istore_n (lv' := [(3, .int 0), (0, .ref h0), (1, .int 0), (2, .int 2)]) hx hb dX7_ofChangeNow_1 rfl hl (by decide) rfl (fun ls hl => ?_)
  refine lv_aload_n hx hb dX7_ofChangeNow_2 rfl (lv_at hl 1 rfl) ?_
  refine rc_get (v := .ref h3) hx hb hown hAm hw lyX7 0 rfl rfl 3 (by decide) qw_863 (fun _ h9 => h9) rfl dX7_ofChangeNow_3 ?_
  refine rc_callr (wr := [(h0, .inr (12, [.int 0, .ref h1, .ref h2, .ref h3, .ref h4, .ref h5, .int 1, .int 3, .int 50, .int (-1), .int (-1), .int (-1), .int (-1), .int 0, .int 100, .int 1000, .long (-1475183105359877907)]))]) (va_runV (As := []) (rest := []) (Ts := []) ⟨hx, hb, hml, hown, fun _ h9 => absurd h9 List.not_mem_nil⟩ (cw_Jx4a65c_iterator_32c93 l E _ h3) (rc_cwV hAm qw_1295 qw_4 qw_1298 qw_1296 qw_1297 rfl rfl hd_Jx4a65c_iterator_32c93 ⟨Nat.le_of_ble_eq_true rfl, Nat.le_of_ble_eq_true rfl⟩) (rc_preV hAm hA hw [1] rfl rfl 1 rfl (q := vwCl[4]) rfl) rfl rfl hl.1 rfl (lv_room (Nat.le_of_ble_eq_true rfl)) dX7_ofChangeNow_6 ⟨Nat.le_of_ble_eq_true rfl, Nat.le_of_ble_eq_true rfl⟩) hA hw [1] [0] rfl rfl rfl (by decide) (fun u_2 r_1 H locs hp hw => ?_)
  obtain ⟨q1, rfl, rfl⟩ := hp
  have hw : rc_W E A s [(h0, .inr (12, [.int 0, .ref h1, .ref h2, .ref h3, .ref h4, .ref h5, .int 1, .int 3, .int 50, .int (-1), .int (-1), .int (-1), .int (-1), .int 0, .int 100, .int 1000, .long (-1475183105359877907)])), (h3, .inr (4, [.int 0, .ref (E.2.2 0), .int 0])), (q1, .inr (3, [.int 0, .int (-1), .int 0, .ref h3]))] H locs := hw
  refine lv_astore (lv' := [(4, .ref q1), (3, .int 0), (0, .ref h0), (1, .int 0), (2, .int 2)]) hx hb dX7_ofChangeNow_9 hl (by decide) rfl (fun ls hl => ?_)
  refine lv_aload hx hb dX7_ofChangeNow_11 (lv_at hl 0 rfl) ?_
  refine rc_callFi (wr := [(h0, .inr (12, [.int 0, .ref h1, .ref h2, .ref h3, .ref h4, .ref h5, .int 1, .int 3, .int 50, .int (-1), .int (-1), .int (-1), .int (-1), .int 0, .int 100, .int 1000, .long (-1475183105359877907)]))]) (va_runF (As := []) (rest := []) (Ts := []) ((hAm.K.1 3 _ rfl).2) ⟨hx, hb, hml, hown, fun _ h9 => absurd h9 List.not_mem_nil⟩ (cw_Jx35411_hasNext_aae02 l E _ q1 h3) (rc_cwF (C := "java/util/ArrayList$Itr") (n := 0) hAm qw_1319 qw_32 qw_1327 qw_1325 qw_1323 qw_1321 qw_1320 (by decide +kernel) qw_1326 qw_1324 qw_1322 rfl rfl (by decide +kernel) ⟨Nat.le_of_ble_eq_true rfl, Nat.le_of_ble_eq_true rfl⟩) (rc_preV hAm hA hw [2, 1] rfl rfl 2 rfl (q := vwCl[3]) rfl) rfl rfl hl.1 rfl (lv_room (Nat.le_of_ble_eq_true rfl)) dX7_ofChangeNow_13 ⟨Nat.le_of_ble_eq_true rfl, Nat.le_of_ble_eq_true rfl⟩) hA hw [2, 1] [0] rfl rfl rfl (by decide) (fun r_3 u_4 H locs hp hw => ?_)
  obtain ⟨rfl, rfl⟩ := hp
  have hw : rc_W E A s [(h0, .inr (12, [.int 0, .ref h1, .ref h2, .ref h3, .ref h4, .ref h5, .int 1, .int 3, .int 50, .int (-1), .int (-1), .int (-1), .int (-1), .int 0, .int 100, .int 1000, .long (-1475183105359877907)])), (q1, .inr (3, [.int 0, .int (-1), .int 0, .ref h3])), (h3, .inr (4, [.int 0, .ref (E.2.2 0), .int 0]))] H locs := hw
  refine lv_if_eq (tgt := 52) hx hb dX7_ofChangeNow_18 (by decide) (fun _ => ?_) (fun c9 => absurd (by decide) c9)
  refine lv_aload_n hx hb dX7_ofChangeNow_52 rfl (lv_at hl 2 rfl) ?_
  refine lv_iload_n hx hb dX7_ofChangeNow_53 rfl (lv_at hl 3 rfl) ?_
  refine rc_callr (wr := [(q1, .inr (3, [.int 0, .int (-1), .int 0, .ref h3]))]) (va_runV (As := [.int 0]) (rest := []) (Ts := []) ⟨hx, hb, hml, hown, fun _ h9 => absurd h9 List.not_mem_nil⟩ (cw_X7_sample__4 l E _ h0 h1 h2 h3 h4 h5) (rc_cwV hAm qw_967 qw_13 qw_970 qw_969 qs_54 rfl rfl hd_X7_sample_ ⟨Nat.le_of_ble_eq_true rfl, Nat.le_of_ble_eq_true rfl⟩) (rc_preV hAm hA hw [0, 2] rfl rfl 0 rfl (q := vwCl[12]) rfl) rfl rfl hl.1 rfl (lv_room (Nat.le_of_ble_eq_true rfl)) dX7_ofChangeNow_54 ⟨Nat.le_of_ble_eq_true rfl, Nat.le_of_ble_eq_true rfl⟩) hA hw [0, 2] [1] rfl rfl rfl (by decide) (fun u_6 r_5 H locs hp hw => ?_)
  obtain ⟨q2, rfl, rfl⟩ := hp
  have hw : rc_W E A s [(q1, .inr (3, [.int 0, .int (-1), .int 0, .ref h3])), (h0, .inr (12, [.int 0, .ref h1, .ref h2, .ref h3, .ref h4, .ref h5, .int 1, .int 3, .int 50, .int (-1), .int (-1), .int (-1), .int (-1), .int 0, .int 100, .int 1000, .long (-1475183105359877907)])), (h3, .inr (4, [.int 0, .ref (E.2.2 0), .int 0])), (q2, .inl (E.2.1 0, 0, .inl (va_cpy (fun _ => 0) (fun _ => 0) 6 0 0)))] H locs := hw
  refine lv_astore (lv' := [(4, .ref q2), (3, .int 0), (0, .ref h0), (1, .int 0), (2, .int 2)]) hx hb dX7_ofChangeNow_57 hl (by decide) rfl (fun ls hl => ?_)
  refine lv_aload hx hb dX7_ofChangeNow_59 (lv_at hl 0 rfl) ?_
  refine rc_callv (wr := [(q1, .inr (3, [.int 0, .int (-1), .int 0, .ref h3])), (h0, .inr (12, [.int 0, .ref h1, .ref h2, .ref h3, .ref h4, .ref h5, .int 1, .int 3, .int 50, .int (-1), .int (-1), .int (-1), .int (-1), .int 0, .int 100, .int 1000, .long (-1475183105359877907)])), (h3, .inr (4, [.int 0, .ref (E.2.2 0), .int 0]))]) (va_runS (As := [.ref q2]) (rest := []) (Ts := []) ⟨hx, hb, hml, hown, fun _ h9 => absurd h9 List.not_mem_nil⟩ (cw_J7_sort_2022b l E _ q2 (va_cpy (fun _ => 0) (fun _ => 0) 6 0 0)) (rc_cwS hAm qw_1241 qw_11 qw_1243 qw_1242 rfl rfl hd_J7_sort_2022b ⟨Nat.le_of_ble_eq_true rfl, Nat.le_of_ble_eq_true rfl⟩) (rc_preS hAm hA hw [3] rfl rfl) rfl rfl hl.1 rfl (lv_room (Nat.le_of_ble_eq_true rfl)) dX7_ofChangeNow_61 ⟨Nat.le_of_ble_eq_true rfl, Nat.le_of_ble_eq_true rfl⟩) hA hw [3] [0, 1, 2] rfl rfl rfl (by decide) (fun u_8 H locs hp hw => ?_)
  obtain ⟨rfl⟩ := hp
  have hw : rc_W E A s [(q1, .inr (3, [.int 0, .int (-1), .int 0, .ref h3])), (h0, .inr (12, [.int 0, .ref h1, .ref h2, .ref h3, .ref h4, .ref h5, .int 1, .int 3, .int 50, .int (-1), .int (-1), .int (-1), .int (-1), .int 0, .int 100, .int 1000, .long (-1475183105359877907)])), (h3, .inr (4, [.int 0, .ref (E.2.2 0), .int 0])), (q2, .inl (E.2.1 0, 0, .inl (va_cpy (fun _ => 0) (fun _ => 0) 6 0 0)))] H locs := hw
  refine lv_aload hx hb dX7_ofChangeNow_64 (lv_at hl 0 rfl) ?_
  refine rc_alen hx hb hAm hw 3 0 rfl rfl 0 rfl dX7_ofChangeNow_66 ?_
  refine lv_iconst (v := 1) hx hb dX7_ofChangeNow_67 (by decide) ?_
  refine lv_isub hx hb dX7_ofChangeNow_68 ?_
  refine rc_topi (-1) (by decide) ?_
  refine lv_istore (lv' := [(5, .int (-1)), (4, .ref q2), (3, .int 0), (0, .ref h0), (1, .int 0), (2, .int 2)]) hx hb dX7_ofChangeNow_69 hl (by decide) rfl (fun ls hl => ?_)
  refine lv_iload_n hx hb dX7_ofChangeNow_71 rfl (lv_at hl 5 rfl) ?_
  refine lv_tableIn (tgt := 114) hx hb dX7_ofChangeNow_72 (by decide) (by decide) rfl (by decide) ?_
  refine lv_iload hx hb dX7_ofChangeNow_114 (lv_at hl 0 rfl) ?_
  refine lv_if_ge (tgt := 123) hx hb dX7_ofChangeNow_116 (by decide) (fun c9 => absurd c9 (by decide)) (fun _ => ?_)
  refine lv_iconst (v := (-1)) hx hb dX7_ofChangeNow_119 (by decide) ?_
  refine lv_goto (tgt := 130) hx hb dX7_ofChangeNow_120 (by decide) ?_
  exact rc_iret (v := (-1)) hx hb hr hlocks hw [(h0, .inr (12, [.int 0, .ref h1, .ref h2, .ref h3, .ref h4, .ref h5, .int 1, .int 3, .int 50, .int (-1), .int (-1), .int (-1), .int (-1), .int 0, .int 100, .int 1000, .long (-1475183105359877907)])), (h3, .inr (4, [.int 0, .ref (E.2.2 0), .int 0]))] (⟨rfl, rfl⟩) [1, 2] rfl (by decide) (Nat.le_of_ble_eq_true rfl) (Nat.le_of_ble_eq_true rfl) dX7_ofChangeNow_130
set_option maxHeartbeats 4000000 in
set_option maxRecDepth 100000 in
theorem cw_X7_add_12 (l : Launch) (E : rc_E) (sz : Nat) (h0 : Nat) (h1 : Nat) (h2 : Nat) (h3 : Nat) (h4 : Nat) (h5 : Nat) : rc_Mv l yX7_add [Cond.code yX7_add cX7_add 2 (none : Option FieldType)] { frames := 0, cells := 0, slots := 0, locals := 0 } E [.ref h0, .int (-1)] [(h0, .inr (12, [.int 0, .ref h1, .ref h2, .ref h3, .ref h4, .ref h5, .int 1, .int 3, .int 50, .int (-1), .int (-1), .int (-1), .int (-1), .int 0, .int 100, .int 1000, .long (-1475183105359877907)]))] sz (S := va_W) (fun (u : va_W) => (u = [(h0, .inr (12, [.int 0, .ref h1, .ref h2, .ref h3, .ref h4, .ref h5, .int 1, .int 3, .int 50, .int (-1), .int (-1), .int (-1), .int (-1), .int 0, .int 100, .int 1000, .long (-8837188118737111886)]))])) (fun u => u) 0 0 := by
  refine rc_inv (cc := cX7_add) (maxL := 2) (ret := (none : Option FieldType)) (by decide) rfl (Nat.le_of_ble_eq_true rfl) ?_
  intro p e s m args below meth c ls A hx hb hr hml _ hown hlocks hin hA hAm hw hl
  have hown : s.vm.findClass RX7 = some m.cls := hown
  have hl : lv_has ls 2 [(0, .ref h0), (1, .int (-1))] := hl
  refine lv_aload_n hx hb dX7_add_0 rfl (lv_at hl 0 rfl) ?_
  refine lv_aload_n hx hb dX7_add_1 rfl (lv_at hl 0 rfl) ?_
  refine rc_get (v := .long (-1475183105359877907)) hx hb hown hAm hw lyX7 0 rfl rfl 16 (by decide) qw_876 (fun _ h9 => h9) rfl dX7_add_2 ?_
  refine lv_ldc2 (v := 31) hx hb hown (hAm.wd qw_1470 rfl rfl) dX7_add_5 ?_
  refine lv_lmul hx hb dX7_add_8 ?_
  refine rc_topl (-8837188118737111885) (by decide) ?_
  refine lv_iload_n hx hb dX7_add_9 rfl (lv_at hl 1 rfl) ?_
  refine lv_i2l (v := (-1)) hx hb dX7_add_10 (by decide) ?_
  refine lv_ladd hx hb dX7_add_11 ?_
  refine rc_topl (-8837188118737111886) (by decide) ?_
  refine rc_put hx hb hown hAm hw lyX7 tyX7 tyX7_ok nmX7 0 rfl rfl 16 (by decide) qw_876 (fun _ h9 => h9) rfl rfl (by decide +kernel) (Nat.le_of_ble_eq_true rfl) [(h0, .inr (12, [.int 0, .ref h1, .ref h2, .ref h3, .ref h4, .ref h5, .int 1, .int 3, .int 50, .int (-1), .int (-1), .int (-1), .int (-1), .int 0, .int 100, .int 1000, .long (-8837188118737111886)]))] rfl dX7_add_12 (fun H locs hw => ?_)
  exact rc_vret hx hb hr hlocks hw [(h0, .inr (12, [.int 0, .ref h1, .ref h2, .ref h3, .ref h4, .ref h5, .int 1, .int 3, .int 50, .int (-1), .int (-1), .int (-1), .int (-1), .int 0, .int 100, .int 1000, .long (-8837188118737111886)]))] (rfl) [0] rfl (by decide) (Nat.le_of_ble_eq_true rfl) (Nat.le_of_ble_eq_true rfl) dX7_add_15
set_option maxHeartbeats 4000000 in
set_option maxRecDepth 100000 in
theorem cw_X7_sample_5 (l : Launch) (E : rc_E) (sz : Nat) (h0 : Nat) (h1 : Nat) (h2 : Nat) (h3 : Nat) (h4 : Nat) (h5 : Nat) : rc_Mr l yX7_sample [Cond.code yX7_sample cX7_sample 6 (some (FieldType.array FieldType.int))] { frames := 3, cells := 2, slots := 6, locals := 86 } E [.ref h0, .int 0, .int (-1)] [(h0, .inr (12, [.int 0, .ref h1, .ref h2, .ref h3, .ref h4, .ref h5, .int 1, .int 3, .int 50, .int (-1), .int (-1), .int (-1), .int (-1), .int 0, .int 100, .int 1000, .long (-8837188118737111886)])), (h3, .inr (4, [.int 0, .ref (E.2.2 0), .int 0]))] sz (S := va_W) (fun (u : va_W) (r : Nat) => (∃ q2 : Nat, q2 = r ∧ u = [(h0, .inr (12, [.int 0, .ref h1, .ref h2, .ref h3, .ref h4, .ref h5, .int 1, .int 3, .int 50, .int (-1), .int (-1), .int (-1), .int (-1), .int 0, .int 100, .int 1000, .long (-8837188118737111886)])), (h3, .inr (4, [.int 0, .ref (E.2.2 0), .int 0])), (q2, .inl (E.2.1 0, 0, .inl (va_cpy (fun _ => 0) (fun _ => 0) 6 0 0)))])) (fun u => u) 2 6 := by
  refine rc_inr (cc := cX7_sample) (maxL := 6) (ret := (some (FieldType.array FieldType.int))) (by decide) rfl (Nat.le_of_ble_eq_true rfl) ?_
  intro p e s m args below meth c ls A hx hb hr hml _ hown hlocks hin hA hAm hw hl
  have hown : s.vm.findClass RX7 = some m.cls := hown
  have hl : lv_has ls 6 [(0, .ref h0), (1, .int 0), (2, .int (-1))] := hl
  refine lv_bipush (v := 6) hx hb dX7_sample_0 (by decide) ?_
  refine rc_inew hx hb hAm hA hw qw_108 6 (by decide) (by decide) (Nat.le_of_ble_eq_true rfl) (Nat.le_of_ble_eq_true rfl) (Nat.le_of_ble_eq_true rfl) dX7_sample_2 (fun q1 H hw => ?_)
  have hw : rc_W E A s [(h0, .inr (12, [.int 0, .ref h1, .ref h2, .ref h3, .ref h4, .ref h5, .int 1, .int 3, .int 50, .int (-1), .int (-1), .int (-1), .int (-1), .int 0, .int 100, .int 1000, .long (-8837188118737111886)])), (h3, .inr (4, [.int 0, .ref (E.2.2 0), .int 0])), (q1, .inl (E.2.1 0, 6, .inl (fun _ => 0)))] H _ := hw
  refine lv_astore_n (lv' := [(3, .ref q1), (0, .ref h0), (1, .int 0), (2, .int (-1))]) hx hb dX7_sample_4 rfl hl (by decide) rfl (fun ls hl => ?_)
  refine lv_iconst (v := 0) hx hb dX7_sample_5 (by decide) ?_
  refine lv_istore (lv' := [(4, .int 0), (3, .ref q1), (0, .ref h0), (1, .int 0), (2, .int (-1))]) hx hb dX7_sample_6 hl (by decide) rfl (fun ls hl => ?_)
  refine lv_aload_n hx hb dX7_sample_8 rfl (lv_at hl 2 rfl) ?_
  refine rc_get (v := .ref h3) hx hb hown hAm hw lyX7 0 rfl rfl 3 (by decide) qw_863 (fun _ h9 => h9) rfl dX7_sample_9 ?_
  refine rc_calli (wr := [(h0, .inr (12, [.int 0, .ref h1, .ref h2, .ref h3, .ref h4, .ref h5, .int 1, .int 3, .int 50, .int (-1), .int (-1), .int (-1), .int (-1), .int 0, .int 100, .int 1000, .long (-8837188118737111886)])), (q1, .inl (E.2.1 0, 6, .inl (fun _ => 0)))]) (va_runV (As := []) (rest := []) (Ts := []) ⟨hx, hb, hml, hown, fun _ h9 => absurd h9 List.not_mem_nil⟩ (cw_Jx4a65c_size_8abf5 l E _ h3) (rc_cwV hAm qw_928 qw_4 qw_289 qw_287 qw_288 rfl rfl hd_Jx4a65c_size_8abf5 ⟨Nat.le_of_ble_eq_true rfl, Nat.le_of_ble_eq_true rfl⟩) (rc_preV hAm hA hw [1] rfl rfl 1 rfl (q := vwCl[4]) rfl) rfl rfl hl.1 rfl (lv_room (Nat.le_of_ble_eq_true rfl)) dX7_sample_12 ⟨Nat.le_of_ble_eq_true rfl, Nat.le_of_ble_eq_true rfl⟩) hA hw [1] [0, 2] rfl rfl rfl (by decide) (fun r_1 u_2 H locs hp hw => ?_)
  obtain ⟨rfl, rfl⟩ := hp
  have hw : rc_W E A s [(h0, .inr (12, [.int 0, .ref h1, .ref h2, .ref h3, .ref h4, .ref h5, .int 1, .int 3, .int 50, .int (-1), .int (-1), .int (-1), .int (-1), .int 0, .int 100, .int 1000, .long (-8837188118737111886)])), (q1, .inl (E.2.1 0, 6, .inl (fun _ => 0))), (h3, .inr (4, [.int 0, .ref (E.2.2 0), .int 0]))] H locs := hw
  refine lv_iconst (v := 1) hx hb dX7_sample_15 (by decide) ?_
  refine lv_isub hx hb dX7_sample_16 ?_
  refine rc_topi (-1) (by decide) ?_
  refine lv_istore (lv' := [(5, .int (-1)), (4, .int 0), (3, .ref q1), (0, .ref h0), (1, .int 0), (2, .int (-1))]) hx hb dX7_sample_17 hl (by decide) rfl (fun ls hl => ?_)
  refine lv_iload hx hb dX7_sample_19 (lv_at hl 0 rfl) ?_
  refine lv_if_lt (tgt := 102) hx hb dX7_sample_21 (by decide) (fun _ => ?_) (fun c9 => absurd (by decide) c9)
  refine lv_aload_n hx hb dX7_sample_102 rfl (lv_at hl 2 rfl) ?_
  refine lv_bipush (v := 6) hx hb dX7_sample_103 (by decide) ?_
  refine lv_iload hx hb dX7_sample_105 (lv_at hl 1 rfl) ?_
  refine lv_isub hx hb dX7_sample_107 ?_
  refine rc_topi 6 (by decide) ?_
  refine lv_bipush (v := 6) hx hb dX7_sample_108 (by decide) ?_
  refine rc_callr (wr := [(h0, .inr (12, [.int 0, .ref h1, .ref h2, .ref h3, .ref h4, .ref h5, .int 1, .int 3, .int 50, .int (-1), .int (-1), .int (-1), .int (-1), .int 0, .int 100, .int 1000, .long (-8837188118737111886)])), (h3, .inr (4, [.int 0, .ref (E.2.2 0), .int 0]))]) (va_runS (As := [.ref q1, .int 6, .int 6]) (rest := []) (Ts := []) ⟨hx, hb, hml, hown, fun _ h9 => absurd h9 List.not_mem_nil⟩ (cw_J7_copyOfRange_feecc l E _ q1) (rc_cwS hAm qw_992 qw_11 qw_994 qw_993 rfl rfl hd_J7_copyOfRange_feecc ⟨Nat.le_of_ble_eq_true rfl, Nat.le_of_ble_eq_true rfl⟩) (rc_preS hAm hA hw [1] rfl rfl) rfl rfl hl.1 rfl (lv_room (Nat.le_of_ble_eq_true rfl)) dX7_sample_110 ⟨Nat.le_of_ble_eq_true rfl, Nat.le_of_ble_eq_true rfl⟩) hA hw [1] [0, 2] rfl rfl rfl (by decide) (fun u_4 r_3 H locs hp hw => ?_)
  obtain ⟨q2, rfl, rfl⟩ := hp
  have hw : rc_W E A s [(h0, .inr (12, [.int 0, .ref h1, .ref h2, .ref h3, .ref h4, .ref h5, .int 1, .int 3, .int 50, .int (-1), .int (-1), .int (-1), .int (-1), .int 0, .int 100, .int 1000, .long (-8837188118737111886)])), (h3, .inr (4, [.int 0, .ref (E.2.2 0), .int 0])), (q1, .inl (E.2.1 0, 6, .inl (fun _ => 0))), (q2, .inl (E.2.1 0, 0, .inl (va_cpy (fun _ => 0) (fun _ => 0) 6 0 0)))] H locs := hw
  exact rc_aret (v := q2) hx hb hr (by first | exact Or.inl ⟨_, rfl⟩ | exact Or.inr ⟨_, rfl⟩) hlocks hw [(h0, .inr (12, [.int 0, .ref h1, .ref h2, .ref h3, .ref h4, .ref h5, .int 1, .int 3, .int 50, .int (-1), .int (-1), .int (-1), .int (-1), .int 0, .int 100, .int 1000, .long (-8837188118737111886)])), (h3, .inr (4, [.int 0, .ref (E.2.2 0), .int 0])), (q2, .inl (E.2.1 0, 0, .inl (va_cpy (fun _ => 0) (fun _ => 0) 6 0 0)))] (⟨q2, rfl, rfl⟩) [0, 1, 3] rfl (by decide) (Nat.le_of_ble_eq_true rfl) (Nat.le_of_ble_eq_true rfl) dX7_sample_113
set_option maxHeartbeats 4000000 in
set_option maxRecDepth 100000 in
theorem cw_X7_sample__5 (l : Launch) (E : rc_E) (sz : Nat) (h0 : Nat) (h1 : Nat) (h2 : Nat) (h3 : Nat) (h4 : Nat) (h5 : Nat) : rc_Mr l yX7_sample_ [Cond.code yX7_sample_ cX7_sample_ 2 (some (FieldType.array FieldType.int))] { frames := 4, cells := 2, slots := 6, locals := 111 } E [.ref h0, .int 0] [(h0, .inr (12, [.int 0, .ref h1, .ref h2, .ref h3, .ref h4, .ref h5, .int 1, .int 3, .int 50, .int (-1), .int (-1), .int (-1), .int (-1), .int 0, .int 100, .int 1000, .long (-8837188118737111886)])), (h3, .inr (4, [.int 0, .ref (E.2.2 0), .int 0]))] sz (S := va_W) (fun (u : va_W) (r : Nat) => (∃ q1 : Nat, q1 = r ∧ u = [(h0, .inr (12, [.int 0, .ref h1, .ref h2, .ref h3, .ref h4, .ref h5, .int 1, .int 3, .int 50, .int (-1), .int (-1), .int (-1), .int (-1), .int 0, .int 100, .int 1000, .long (-8837188118737111886)])), (h3, .inr (4, [.int 0, .ref (E.2.2 0), .int 0])), (q1, .inl (E.2.1 0, 0, .inl (va_cpy (fun _ => 0) (fun _ => 0) 6 0 0)))])) (fun u => u) 2 6 := by
  refine rc_inr (cc := cX7_sample_) (maxL := 2) (ret := (some (FieldType.array FieldType.int))) (by decide) rfl (Nat.le_of_ble_eq_true rfl) ?_
  intro p e s m args below meth c ls A hx hb hr hml _ hown hlocks hin hA hAm hw hl
  have hown : s.vm.findClass RX7 = some m.cls := hown
  have hl : lv_has ls 2 [(0, .ref h0), (1, .int 0)] := hl
  refine lv_aload_n hx hb dX7_sample__0 rfl (lv_at hl 0 rfl) ?_
  refine lv_iload_n hx hb dX7_sample__1 rfl (lv_at hl 1 rfl) ?_
  refine lv_iconst (v := (-1)) hx hb dX7_sample__2 (by decide) ?_
  refine rc_callr (wr := []) (va_runV (As := [.int 0, .int (-1)]) (rest := []) (Ts := []) ⟨hx, hb, hml, hown, fun _ h9 => absurd h9 List.not_mem_nil⟩ (cw_X7_sample_5 l E _ h0 h1 h2 h3 h4 h5) (rc_cwV hAm qw_971 qw_13 qw_974 qw_973 qs_55 rfl rfl hd_X7_sample ⟨Nat.le_of_ble_eq_true rfl, Nat.le_of_ble_eq_true rfl⟩) (rc_preV hAm hA hw [0, 1] rfl rfl 0 rfl (q := vwCl[12]) rfl) rfl rfl hl.1 rfl (lv_room (Nat.le_of_ble_eq_true rfl)) dX7_sample__3 ⟨Nat.le_of_ble_eq_true rfl, Nat.le_of_ble_eq_true rfl⟩) hA hw [0, 1] [] rfl rfl rfl (by decide) (fun u_2 r_1 H locs hp hw => ?_)
  obtain ⟨q1, rfl, rfl⟩ := hp
  have hw : rc_W E A s [(h0, .inr (12, [.int 0, .ref h1, .ref h2, .ref h3, .ref h4, .ref h5, .int 1, .int 3, .int 50, .int (-1), .int (-1), .int (-1), .int (-1), .int 0, .int 100, .int 1000, .long (-8837188118737111886)])), (h3, .inr (4, [.int 0, .ref (E.2.2 0), .int 0])), (q1, .inl (E.2.1 0, 0, .inl (va_cpy (fun _ => 0) (fun _ => 0) 6 0 0)))] H locs := hw
  exact rc_aret (v := q1) hx hb hr (by first | exact Or.inl ⟨_, rfl⟩ | exact Or.inr ⟨_, rfl⟩) hlocks hw [(h0, .inr (12, [.int 0, .ref h1, .ref h2, .ref h3, .ref h4, .ref h5, .int 1, .int 3, .int 50, .int (-1), .int (-1), .int (-1), .int (-1), .int 0, .int 100, .int 1000, .long (-8837188118737111886)])), (h3, .inr (4, [.int 0, .ref (E.2.2 0), .int 0])), (q1, .inl (E.2.1 0, 0, .inl (va_cpy (fun _ => 0) (fun _ => 0) 6 0 0)))] (⟨q1, rfl, rfl⟩) [0, 1, 2] rfl (by decide) (Nat.le_of_ble_eq_true rfl) (Nat.le_of_ble_eq_true rfl) dX7_sample__6
set_option maxHeartbeats 4000000 in
set_option maxRecDepth 100000 in
theorem cw_X7_ofChangeNow_5 (l : Launch) (E : rc_E) (sz : Nat) (h0 : Nat) (h1 : Nat) (h2 : Nat) (h3 : Nat) (h4 : Nat) (h5 : Nat) : rc_Mi l yX7_ofChangeNow [Cond.code yX7_ofChangeNow cX7_ofChangeNow 6 (some FieldType.int)] { frames := 5, cells := 3, slots := 10, locals := 132 } E [.ref h0, .int 0, .int 3] [(h0, .inr (12, [.int 0, .ref h1, .ref h2, .ref h3, .ref h4, .ref h5, .int 1, .int 3, .int 50, .int (-1), .int (-1), .int (-1), .int (-1), .int 0, .int 100, .int 1000, .long (-8837188118737111886)])), (h3, .inr (4, [.int 0, .ref (E.2.2 0), .int 0]))] sz (S := va_W) (fun (r : Int32) (u : va_W) => ((-1) = r ∧ u = [(h0, .inr (12, [.int 0, .ref h1, .ref h2, .ref h3, .ref h4, .ref h5, .int 1, .int 3, .int 50, .int (-1), .int (-1), .int (-1), .int (-1), .int 0, .int 100, .int 1000, .long (-8837188118737111886)])), (h3, .inr (4, [.int 0, .ref (E.2.2 0), .int 0]))])) (fun u => u) 3 10 := by
  refine rc_ini (cc := cX7_ofChangeNow) (maxL := 6) (ret := (some FieldType.int)) (by decide) rfl (Nat.le_of_ble_eq_true rfl) ?_
  intro p e s m args below meth c ls A hx hb hr hml _ hown hlocks hin hA hAm hw hl
  have hown : s.vm.findClass RX7 = some m.cls := hown
  have hl : lv_has ls 6 [(0, .ref h0), (1, .int 0), (2, .int 3)] := hl
  refine lv_iconst (v := 0) hx hb dX7_ofChangeNow_0 (by decide) ?_
  refine lv_istore_n (lv' := [(3, .int 0), (0, .ref h0), (1, .int 0), (2, .int 3)]) hx hb dX7_ofChangeNow_1 rfl hl (by decide) rfl (fun ls hl => ?_)
  refine lv_aload_n hx hb dX7_ofChangeNow_2 rfl (lv_at hl 1 rfl) ?_
  refine rc_get (v := .ref h3) hx hb hown hAm hw lyX7 0 rfl rfl 3 (by decide) qw_863 (fun _ h9 => h9) rfl dX7_ofChangeNow_3 ?_
  refine rc_callr (wr := [(h0, .inr (12, [.int 0, .ref h1, .ref h2, .ref h3, .ref h4, .ref h5, .int 1, .int 3, .int 50, .int (-1), .int (-1), .int (-1), .int (-1), .int 0, .int 100, .int 1000, .long (-8837188118737111886)]))]) (va_runV (As := []) (rest := []) (Ts := []) ⟨hx, hb, hml, hown, fun _ h9 => absurd h9 List.not_mem_nil⟩ (cw_Jx4a65c_iterator_32c93 l E _ h3) (rc_cwV hAm qw_1295 qw_4 qw_1298 qw_1296 qw_1297 rfl rfl hd_Jx4a65c_iterator_32c93 ⟨Nat.le_of_ble_eq_true rfl, Nat.le_of_ble_eq_true rfl⟩) (rc_preV hAm hA hw [1] rfl rfl 1 rfl (q := vwCl[4]) rfl) rfl rfl hl.1 rfl (lv_room (Nat.le_of_ble_eq_true rfl)) dX7_ofChangeNow_6 ⟨Nat.le_of_ble_eq_true rfl, Nat.le_of_ble_eq_true rfl⟩) hA hw [1] [0] rfl rfl rfl (by decide) (fun u_2 r_1 H locs hp hw => ?_)
  obtain ⟨q1, rfl, rfl⟩ := hp
  have hw : rc_W E A s [(h0, .inr (12, [.int 0, .ref h1, .ref h2, .ref h3, .ref h4, .ref h5, .int 1, .int 3, .int 50, .int (-1), .int (-1), .int (-1), .int (-1), .int 0, .int 100, .int 1000, .long (-8837188118737111886)])), (h3, .inr (4, [.int 0, .ref (E.2.2 0), .int 0])), (q1, .inr (3, [.int 0, .int (-1), .int 0, .ref h3]))] H locs := hw
  refine lv_astore (lv' := [(4, .ref q1), (3, .int 0), (0, .ref h0), (1, .int 0), (2, .int 3)]) hx hb dX7_ofChangeNow_9 hl (by decide) rfl (fun ls hl => ?_)
  refine lv_aload hx hb dX7_ofChangeNow_11 (lv_at hl 0 rfl) ?_
  refine rc_callFi (wr := [(h0, .inr (12, [.int 0, .ref h1, .ref h2, .ref h3, .ref h4, .ref h5, .int 1, .int 3, .int 50, .int (-1), .int (-1), .int (-1), .int (-1), .int 0, .int 100, .int 1000, .long (-8837188118737111886)]))]) (va_runF (As := []) (rest := []) (Ts := []) ((hAm.K.1 3 _ rfl).2) ⟨hx, hb, hml, hown, fun _ h9 => absurd h9 List.not_mem_nil⟩ (cw_Jx35411_hasNext_aae02 l E _ q1 h3) (rc_cwF (C := "java/util/ArrayList$Itr") (n := 0) hAm qw_1319 qw_32 qw_1327 qw_1325 qw_1323 qw_1321 qw_1320 (by decide +kernel) qw_1326 qw_1324 qw_1322 rfl rfl (by decide +kernel) ⟨Nat.le_of_ble_eq_true rfl, Nat.le_of_ble_eq_true rfl⟩) (rc_preV hAm hA hw [2, 1] rfl rfl 2 rfl (q := vwCl[3]) rfl) rfl rfl hl.1 rfl (lv_room (Nat.le_of_ble_eq_true rfl)) dX7_ofChangeNow_13 ⟨Nat.le_of_ble_eq_true rfl, Nat.le_of_ble_eq_true rfl⟩) hA hw [2, 1] [0] rfl rfl rfl (by decide) (fun r_3 u_4 H locs hp hw => ?_)
  obtain ⟨rfl, rfl⟩ := hp
  have hw : rc_W E A s [(h0, .inr (12, [.int 0, .ref h1, .ref h2, .ref h3, .ref h4, .ref h5, .int 1, .int 3, .int 50, .int (-1), .int (-1), .int (-1), .int (-1), .int 0, .int 100, .int 1000, .long (-8837188118737111886)])), (q1, .inr (3, [.int 0, .int (-1), .int 0, .ref h3])), (h3, .inr (4, [.int 0, .ref (E.2.2 0), .int 0]))] H locs := hw
  refine lv_if_eq (tgt := 52) hx hb dX7_ofChangeNow_18 (by decide) (fun _ => ?_) (fun c9 => absurd (by decide) c9)
  refine lv_aload_n hx hb dX7_ofChangeNow_52 rfl (lv_at hl 2 rfl) ?_
  refine lv_iload_n hx hb dX7_ofChangeNow_53 rfl (lv_at hl 3 rfl) ?_
  refine rc_callr (wr := [(q1, .inr (3, [.int 0, .int (-1), .int 0, .ref h3]))]) (va_runV (As := [.int 0]) (rest := []) (Ts := []) ⟨hx, hb, hml, hown, fun _ h9 => absurd h9 List.not_mem_nil⟩ (cw_X7_sample__5 l E _ h0 h1 h2 h3 h4 h5) (rc_cwV hAm qw_967 qw_13 qw_970 qw_969 qs_54 rfl rfl hd_X7_sample_ ⟨Nat.le_of_ble_eq_true rfl, Nat.le_of_ble_eq_true rfl⟩) (rc_preV hAm hA hw [0, 2] rfl rfl 0 rfl (q := vwCl[12]) rfl) rfl rfl hl.1 rfl (lv_room (Nat.le_of_ble_eq_true rfl)) dX7_ofChangeNow_54 ⟨Nat.le_of_ble_eq_true rfl, Nat.le_of_ble_eq_true rfl⟩) hA hw [0, 2] [1] rfl rfl rfl (by decide) (fun u_6 r_5 H locs hp hw => ?_)
  obtain ⟨q2, rfl, rfl⟩ := hp
  have hw : rc_W E A s [(q1, .inr (3, [.int 0, .int (-1), .int 0, .ref h3])), (h0, .inr (12, [.int 0, .ref h1, .ref h2, .ref h3, .ref h4, .ref h5, .int 1, .int 3, .int 50, .int (-1), .int (-1), .int (-1), .int (-1), .int 0, .int 100, .int 1000, .long (-8837188118737111886)])), (h3, .inr (4, [.int 0, .ref (E.2.2 0), .int 0])), (q2, .inl (E.2.1 0, 0, .inl (va_cpy (fun _ => 0) (fun _ => 0) 6 0 0)))] H locs := hw
  refine lv_astore (lv' := [(4, .ref q2), (3, .int 0), (0, .ref h0), (1, .int 0), (2, .int 3)]) hx hb dX7_ofChangeNow_57 hl (by decide) rfl (fun ls hl => ?_)
  refine lv_aload hx hb dX7_ofChangeNow_59 (lv_at hl 0 rfl) ?_
  refine rc_callv (wr := [(q1, .inr (3, [.int 0, .int (-1), .int 0, .ref h3])), (h0, .inr (12, [.int 0, .ref h1, .ref h2, .ref h3, .ref h4, .ref h5, .int 1, .int 3, .int 50, .int (-1), .int (-1), .int (-1), .int (-1), .int 0, .int 100, .int 1000, .long (-8837188118737111886)])), (h3, .inr (4, [.int 0, .ref (E.2.2 0), .int 0]))]) (va_runS (As := [.ref q2]) (rest := []) (Ts := []) ⟨hx, hb, hml, hown, fun _ h9 => absurd h9 List.not_mem_nil⟩ (cw_J7_sort_2022b l E _ q2 (va_cpy (fun _ => 0) (fun _ => 0) 6 0 0)) (rc_cwS hAm qw_1241 qw_11 qw_1243 qw_1242 rfl rfl hd_J7_sort_2022b ⟨Nat.le_of_ble_eq_true rfl, Nat.le_of_ble_eq_true rfl⟩) (rc_preS hAm hA hw [3] rfl rfl) rfl rfl hl.1 rfl (lv_room (Nat.le_of_ble_eq_true rfl)) dX7_ofChangeNow_61 ⟨Nat.le_of_ble_eq_true rfl, Nat.le_of_ble_eq_true rfl⟩) hA hw [3] [0, 1, 2] rfl rfl rfl (by decide) (fun u_8 H locs hp hw => ?_)
  obtain ⟨rfl⟩ := hp
  have hw : rc_W E A s [(q1, .inr (3, [.int 0, .int (-1), .int 0, .ref h3])), (h0, .inr (12, [.int 0, .ref h1, .ref h2, .ref h3, .ref h4, .ref h5, .int 1, .int 3, .int 50, .int (-1), .int (-1), .int (-1), .int (-1), .int 0, .int 100, .int 1000, .long (-8837188118737111886)])), (h3, .inr (4, [.int 0, .ref (E.2.2 0), .int 0])), (q2, .inl (E.2.1 0, 0, .inl (va_cpy (fun _ => 0) (fun _ => 0) 6 0 0)))] H locs := hw
  refine lv_aload hx hb dX7_ofChangeNow_64 (lv_at hl 0 rfl) ?_
  refine rc_alen hx hb hAm hw 3 0 rfl rfl 0 rfl dX7_ofChangeNow_66 ?_
  refine lv_iconst (v := 1) hx hb dX7_ofChangeNow_67 (by decide) ?_
  refine lv_isub hx hb dX7_ofChangeNow_68 ?_
  refine rc_topi (-1) (by decide) ?_
  refine lv_istore (lv' := [(5, .int (-1)), (4, .ref q2), (3, .int 0), (0, .ref h0), (1, .int 0), (2, .int 3)]) hx hb dX7_ofChangeNow_69 hl (by decide) rfl (fun ls hl => ?_)
  refine lv_iload_n hx hb dX7_ofChangeNow_71 rfl (lv_at hl 5 rfl) ?_
  refine lv_tableIn (tgt := 131) hx hb dX7_ofChangeNow_72 (by decide) (by decide) rfl (by decide) ?_
  refine lv_iload hx hb dX7_ofChangeNow_131 (lv_at hl 0 rfl) ?_
  refine lv_if_ge (tgt := 140) hx hb dX7_ofChangeNow_133 (by decide) (fun c9 => absurd c9 (by decide)) (fun _ => ?_)
  refine lv_iconst (v := (-1)) hx hb dX7_ofChangeNow_136 (by decide) ?_
  refine lv_goto (tgt := 144) hx hb dX7_ofChangeNow_137 (by decide) ?_
  exact rc_iret (v := (-1)) hx hb hr hlocks hw [(h0, .inr (12, [.int 0, .ref h1, .ref h2, .ref h3, .ref h4, .ref h5, .int 1, .int 3, .int 50, .int (-1), .int (-1), .int (-1), .int (-1), .int 0, .int 100, .int 1000, .long (-8837188118737111886)])), (h3, .inr (4, [.int 0, .ref (E.2.2 0), .int 0]))] (⟨rfl, rfl⟩) [1, 2] rfl (by decide) (Nat.le_of_ble_eq_true rfl) (Nat.le_of_ble_eq_true rfl) dX7_ofChangeNow_144
set_option maxHeartbeats 4000000 in
set_option maxRecDepth 100000 in
theorem cw_X7_add_13 (l : Launch) (E : rc_E) (sz : Nat) (h0 : Nat) (h1 : Nat) (h2 : Nat) (h3 : Nat) (h4 : Nat) (h5 : Nat) : rc_Mv l yX7_add [Cond.code yX7_add cX7_add 2 (none : Option FieldType)] { frames := 0, cells := 0, slots := 0, locals := 0 } E [.ref h0, .int (-1)] [(h0, .inr (12, [.int 0, .ref h1, .ref h2, .ref h3, .ref h4, .ref h5, .int 1, .int 3, .int 50, .int (-1), .int (-1), .int (-1), .int (-1), .int 0, .int 100, .int 1000, .long (-8837188118737111886)]))] sz (S := va_W) (fun (u : va_W) => (u = [(h0, .inr (12, [.int 0, .ref h1, .ref h2, .ref h3, .ref h4, .ref h5, .int 1, .int 3, .int 50, .int (-1), .int (-1), .int (-1), .int (-1), .int 0, .int 100, .int 1000, .long 2748329424792805773]))])) (fun u => u) 0 0 := by
  refine rc_inv (cc := cX7_add) (maxL := 2) (ret := (none : Option FieldType)) (by decide) rfl (Nat.le_of_ble_eq_true rfl) ?_
  intro p e s m args below meth c ls A hx hb hr hml _ hown hlocks hin hA hAm hw hl
  have hown : s.vm.findClass RX7 = some m.cls := hown
  have hl : lv_has ls 2 [(0, .ref h0), (1, .int (-1))] := hl
  refine lv_aload_n hx hb dX7_add_0 rfl (lv_at hl 0 rfl) ?_
  refine lv_aload_n hx hb dX7_add_1 rfl (lv_at hl 0 rfl) ?_
  refine rc_get (v := .long (-8837188118737111886)) hx hb hown hAm hw lyX7 0 rfl rfl 16 (by decide) qw_876 (fun _ h9 => h9) rfl dX7_add_2 ?_
  refine lv_ldc2 (v := 31) hx hb hown (hAm.wd qw_1470 rfl rfl) dX7_add_5 ?_
  refine lv_lmul hx hb dX7_add_8 ?_
  refine rc_topl 2748329424792805774 (by decide) ?_
  refine lv_iload_n hx hb dX7_add_9 rfl (lv_at hl 1 rfl) ?_
  refine lv_i2l (v := (-1)) hx hb dX7_add_10 (by decide) ?_
  refine lv_ladd hx hb dX7_add_11 ?_
  refine rc_topl 2748329424792805773 (by decide) ?_
  refine rc_put hx hb hown hAm hw lyX7 tyX7 tyX7_ok nmX7 0 rfl rfl 16 (by decide) qw_876 (fun _ h9 => h9) rfl rfl (by decide +kernel) (Nat.le_of_ble_eq_true rfl) [(h0, .inr (12, [.int 0, .ref h1, .ref h2, .ref h3, .ref h4, .ref h5, .int 1, .int 3, .int 50, .int (-1), .int (-1), .int (-1), .int (-1), .int 0, .int 100, .int 1000, .long 2748329424792805773]))] rfl dX7_add_12 (fun H locs hw => ?_)
  exact rc_vret hx hb hr hlocks hw [(h0, .inr (12, [.int 0, .ref h1, .ref h2, .ref h3, .ref h4, .ref h5, .int 1, .int 3, .int 50, .int (-1), .int (-1), .int (-1), .int (-1), .int 0, .int 100, .int 1000, .long 2748329424792805773]))] (rfl) [0] rfl (by decide) (Nat.le_of_ble_eq_true rfl) (Nat.le_of_ble_eq_true rfl) dX7_add_15
set_option maxHeartbeats 4000000 in
set_option maxRecDepth 100000 in
theorem cw_X7_sample_6 (l : Launch) (E : rc_E) (sz : Nat) (h0 : Nat) (h1 : Nat) (h2 : Nat) (h3 : Nat) (h4 : Nat) (h5 : Nat) : rc_Mr l yX7_sample [Cond.code yX7_sample cX7_sample 6 (some (FieldType.array FieldType.int))] { frames := 3, cells := 2, slots := 6, locals := 86 } E [.ref h0, .int 0, .int (-1)] [(h0, .inr (12, [.int 0, .ref h1, .ref h2, .ref h3, .ref h4, .ref h5, .int 1, .int 3, .int 50, .int (-1), .int (-1), .int (-1), .int (-1), .int 0, .int 100, .int 1000, .long 2748329424792805773])), (h3, .inr (4, [.int 0, .ref (E.2.2 0), .int 0]))] sz (S := va_W) (fun (u : va_W) (r : Nat) => (∃ q2 : Nat, q2 = r ∧ u = [(h0, .inr (12, [.int 0, .ref h1, .ref h2, .ref h3, .ref h4, .ref h5, .int 1, .int 3, .int 50, .int (-1), .int (-1), .int (-1), .int (-1), .int 0, .int 100, .int 1000, .long 2748329424792805773])), (h3, .inr (4, [.int 0, .ref (E.2.2 0), .int 0])), (q2, .inl (E.2.1 0, 0, .inl (va_cpy (fun _ => 0) (fun _ => 0) 6 0 0)))])) (fun u => u) 2 6 := by
  refine rc_inr (cc := cX7_sample) (maxL := 6) (ret := (some (FieldType.array FieldType.int))) (by decide) rfl (Nat.le_of_ble_eq_true rfl) ?_
  intro p e s m args below meth c ls A hx hb hr hml _ hown hlocks hin hA hAm hw hl
  have hown : s.vm.findClass RX7 = some m.cls := hown
  have hl : lv_has ls 6 [(0, .ref h0), (1, .int 0), (2, .int (-1))] := hl
  refine lv_bipush (v := 6) hx hb dX7_sample_0 (by decide) ?_
  refine rc_inew hx hb hAm hA hw qw_108 6 (by decide) (by decide) (Nat.le_of_ble_eq_true rfl) (Nat.le_of_ble_eq_true rfl) (Nat.le_of_ble_eq_true rfl) dX7_sample_2 (fun q1 H hw => ?_)
  have hw : rc_W E A s [(h0, .inr (12, [.int 0, .ref h1, .ref h2, .ref h3, .ref h4, .ref h5, .int 1, .int 3, .int 50, .int (-1), .int (-1), .int (-1), .int (-1), .int 0, .int 100, .int 1000, .long 2748329424792805773])), (h3, .inr (4, [.int 0, .ref (E.2.2 0), .int 0])), (q1, .inl (E.2.1 0, 6, .inl (fun _ => 0)))] H _ := hw
  refine lv_astore_n (lv' := [(3, .ref q1), (0, .ref h0), (1, .int 0), (2, .int (-1))]) hx hb dX7_sample_4 rfl hl (by decide) rfl (fun ls hl => ?_)
  refine lv_iconst (v := 0) hx hb dX7_sample_5 (by decide) ?_
  refine lv_istore (lv' := [(4, .int 0), (3, .ref q1), (0, .ref h0), (1, .int 0), (2, .int (-1))]) hx hb dX7_sample_6 hl (by decide) rfl (fun ls hl => ?_)
  refine lv_aload_n hx hb dX7_sample_8 rfl (lv_at hl 2 rfl) ?_
  refine rc_get (v := .ref h3) hx hb hown hAm hw lyX7 0 rfl rfl 3 (by decide) qw_863 (fun _ h9 => h9) rfl dX7_sample_9 ?_
  refine rc_calli (wr := [(h0, .inr (12, [.int 0, .ref h1, .ref h2, .ref h3, .ref h4, .ref h5, .int 1, .int 3, .int 50, .int (-1), .int (-1), .int (-1), .int (-1), .int 0, .int 100, .int 1000, .long 2748329424792805773])), (q1, .inl (E.2.1 0, 6, .inl (fun _ => 0)))]) (va_runV (As := []) (rest := []) (Ts := []) ⟨hx, hb, hml, hown, fun _ h9 => absurd h9 List.not_mem_nil⟩ (cw_Jx4a65c_size_8abf5 l E _ h3) (rc_cwV hAm qw_928 qw_4 qw_289 qw_287 qw_288 rfl rfl hd_Jx4a65c_size_8abf5 ⟨Nat.le_of_ble_eq_true rfl, Nat.le_of_ble_eq_true rfl⟩) (rc_preV hAm hA hw [1] rfl rfl 1 rfl (q := vwCl[4]) rfl) rfl rfl hl.1 rfl (lv_room (Nat.le_of_ble_eq_true rfl)) dX7_sample_12 ⟨Nat.le_of_ble_eq_true rfl, Nat.le_of_ble_eq_true rfl⟩) hA hw [1] [0, 2] rfl rfl rfl (by decide) (fun r_1 u_2 H locs hp hw => ?_)
  obtain ⟨rfl, rfl⟩ := hp
  have hw : rc_W E A s [(h0, .inr (12, [.int 0, .ref h1, .ref h2, .ref h3, .ref h4, .ref h5, .int 1, .int 3, .int 50, .int (-1), .int (-1), .int (-1), .int (-1), .int 0, .int 100, .int 1000, .long 2748329424792805773])), (q1, .inl (E.2.1 0, 6, .inl (fun _ => 0))), (h3, .inr (4, [.int 0, .ref (E.2.2 0), .int 0]))] H locs := hw
  refine lv_iconst (v := 1) hx hb dX7_sample_15 (by decide) ?_
  refine lv_isub hx hb dX7_sample_16 ?_
  refine rc_topi (-1) (by decide) ?_
  refine lv_istore (lv' := [(5, .int (-1)), (4, .int 0), (3, .ref q1), (0, .ref h0), (1, .int 0), (2, .int (-1))]) hx hb dX7_sample_17 hl (by decide) rfl (fun ls hl => ?_)
  refine lv_iload hx hb dX7_sample_19 (lv_at hl 0 rfl) ?_
  refine lv_if_lt (tgt := 102) hx hb dX7_sample_21 (by decide) (fun _ => ?_) (fun c9 => absurd (by decide) c9)
  refine lv_aload_n hx hb dX7_sample_102 rfl (lv_at hl 2 rfl) ?_
  refine lv_bipush (v := 6) hx hb dX7_sample_103 (by decide) ?_
  refine lv_iload hx hb dX7_sample_105 (lv_at hl 1 rfl) ?_
  refine lv_isub hx hb dX7_sample_107 ?_
  refine rc_topi 6 (by decide) ?_
  refine lv_bipush (v := 6) hx hb dX7_sample_108 (by decide) ?_
  refine rc_callr (wr := [(h0, .inr (12, [.int 0, .ref h1, .ref h2, .ref h3, .ref h4, .ref h5, .int 1, .int 3, .int 50, .int (-1), .int (-1), .int (-1), .int (-1), .int 0, .int 100, .int 1000, .long 2748329424792805773])), (h3, .inr (4, [.int 0, .ref (E.2.2 0), .int 0]))]) (va_runS (As := [.ref q1, .int 6, .int 6]) (rest := []) (Ts := []) ⟨hx, hb, hml, hown, fun _ h9 => absurd h9 List.not_mem_nil⟩ (cw_J7_copyOfRange_feecc l E _ q1) (rc_cwS hAm qw_992 qw_11 qw_994 qw_993 rfl rfl hd_J7_copyOfRange_feecc ⟨Nat.le_of_ble_eq_true rfl, Nat.le_of_ble_eq_true rfl⟩) (rc_preS hAm hA hw [1] rfl rfl) rfl rfl hl.1 rfl (lv_room (Nat.le_of_ble_eq_true rfl)) dX7_sample_110 ⟨Nat.le_of_ble_eq_true rfl, Nat.le_of_ble_eq_true rfl⟩) hA hw [1] [0, 2] rfl rfl rfl (by decide) (fun u_4 r_3 H locs hp hw => ?_)
  obtain ⟨q2, rfl, rfl⟩ := hp
  have hw : rc_W E A s [(h0, .inr (12, [.int 0, .ref h1, .ref h2, .ref h3, .ref h4, .ref h5, .int 1, .int 3, .int 50, .int (-1), .int (-1), .int (-1), .int (-1), .int 0, .int 100, .int 1000, .long 2748329424792805773])), (h3, .inr (4, [.int 0, .ref (E.2.2 0), .int 0])), (q1, .inl (E.2.1 0, 6, .inl (fun _ => 0))), (q2, .inl (E.2.1 0, 0, .inl (va_cpy (fun _ => 0) (fun _ => 0) 6 0 0)))] H locs := hw
  exact rc_aret (v := q2) hx hb hr (by first | exact Or.inl ⟨_, rfl⟩ | exact Or.inr ⟨_, rfl⟩) hlocks hw [(h0, .inr (12, [.int 0, .ref h1, .ref h2, .ref h3, .ref h4, .ref h5, .int 1, .int 3, .int 50, .int (-1), .int (-1), .int (-1), .int (-1), .int 0, .int 100, .int 1000, .long 2748329424792805773])), (h3, .inr (4, [.int 0, .ref (E.2.2 0), .int 0])), (q2, .inl (E.2.1 0, 0, .inl (va_cpy (fun _ => 0) (fun _ => 0) 6 0 0)))] (⟨q2, rfl, rfl⟩) [0, 1, 3] rfl (by decide) (Nat.le_of_ble_eq_true rfl) (Nat.le_of_ble_eq_true rfl) dX7_sample_113
set_option maxHeartbeats 4000000 in
set_option maxRecDepth 100000 in
theorem cw_X7_sample__6 (l : Launch) (E : rc_E) (sz : Nat) (h0 : Nat) (h1 : Nat) (h2 : Nat) (h3 : Nat) (h4 : Nat) (h5 : Nat) : rc_Mr l yX7_sample_ [Cond.code yX7_sample_ cX7_sample_ 2 (some (FieldType.array FieldType.int))] { frames := 4, cells := 2, slots := 6, locals := 111 } E [.ref h0, .int 0] [(h0, .inr (12, [.int 0, .ref h1, .ref h2, .ref h3, .ref h4, .ref h5, .int 1, .int 3, .int 50, .int (-1), .int (-1), .int (-1), .int (-1), .int 0, .int 100, .int 1000, .long 2748329424792805773])), (h3, .inr (4, [.int 0, .ref (E.2.2 0), .int 0]))] sz (S := va_W) (fun (u : va_W) (r : Nat) => (∃ q1 : Nat, q1 = r ∧ u = [(h0, .inr (12, [.int 0, .ref h1, .ref h2, .ref h3, .ref h4, .ref h5, .int 1, .int 3, .int 50, .int (-1), .int (-1), .int (-1), .int (-1), .int 0, .int 100, .int 1000, .long 2748329424792805773])), (h3, .inr (4, [.int 0, .ref (E.2.2 0), .int 0])), (q1, .inl (E.2.1 0, 0, .inl (va_cpy (fun _ => 0) (fun _ => 0) 6 0 0)))])) (fun u => u) 2 6 := by
  refine rc_inr (cc := cX7_sample_) (maxL := 2) (ret := (some (FieldType.array FieldType.int))) (by decide) rfl (Nat.le_of_ble_eq_true rfl) ?_
  intro p e s m args below meth c ls A hx hb hr hml _ hown hlocks hin hA hAm hw hl
  have hown : s.vm.findClass RX7 = some m.cls := hown
  have hl : lv_has ls 2 [(0, .ref h0), (1, .int 0)] := hl
  refine lv_aload_n hx hb dX7_sample__0 rfl (lv_at hl 0 rfl) ?_
  refine lv_iload_n hx hb dX7_sample__1 rfl (lv_at hl 1 rfl) ?_
  refine lv_iconst (v := (-1)) hx hb dX7_sample__2 (by decide) ?_
  refine rc_callr (wr := []) (va_runV (As := [.int 0, .int (-1)]) (rest := []) (Ts := []) ⟨hx, hb, hml, hown, fun _ h9 => absurd h9 List.not_mem_nil⟩ (cw_X7_sample_6 l E _ h0 h1 h2 h3 h4 h5) (rc_cwV hAm qw_971 qw_13 qw_974 qw_973 qs_55 rfl rfl hd_X7_sample ⟨Nat.le_of_ble_eq_true rfl, Nat.le_of_ble_eq_true rfl⟩) (rc_preV hAm hA hw [0, 1] rfl rfl 0 rfl (q := vwCl[12]) rfl) rfl rfl hl.1 rfl (lv_room (Nat.le_of_ble_eq_true rfl)) dX7_sample__3 ⟨Nat.le_of_ble_eq_true rfl, Nat.le_of_ble_eq_true rfl⟩) hA hw [0, 1] [] rfl rfl rfl (by decide) (fun u_2 r_1 H locs hp hw => ?_)
  obtain ⟨q1, rfl, rfl⟩ := hp
  have hw : rc_W E A s [(h0, .inr (12, [.int 0, .ref h1, .ref h2, .ref h3, .ref h4, .ref h5, .int 1, .int 3, .int 50, .int (-1), .int (-1), .int (-1), .int (-1), .int 0, .int 100, .int 1000, .long 2748329424792805773])), (h3, .inr (4, [.int 0, .ref (E.2.2 0), .int 0])), (q1, .inl (E.2.1 0, 0, .inl (va_cpy (fun _ => 0) (fun _ => 0) 6 0 0)))] H locs := hw
  exact rc_aret (v := q1) hx hb hr (by first | exact Or.inl ⟨_, rfl⟩ | exact Or.inr ⟨_, rfl⟩) hlocks hw [(h0, .inr (12, [.int 0, .ref h1, .ref h2, .ref h3, .ref h4, .ref h5, .int 1, .int 3, .int 50, .int (-1), .int (-1), .int (-1), .int (-1), .int 0, .int 100, .int 1000, .long 2748329424792805773])), (h3, .inr (4, [.int 0, .ref (E.2.2 0), .int 0])), (q1, .inl (E.2.1 0, 0, .inl (va_cpy (fun _ => 0) (fun _ => 0) 6 0 0)))] (⟨q1, rfl, rfl⟩) [0, 1, 2] rfl (by decide) (Nat.le_of_ble_eq_true rfl) (Nat.le_of_ble_eq_true rfl) dX7_sample__6
set_option maxHeartbeats 4000000 in
set_option maxRecDepth 100000 in
theorem cw_X7_ofChangeNow_6 (l : Launch) (E : rc_E) (sz : Nat) (h0 : Nat) (h1 : Nat) (h2 : Nat) (h3 : Nat) (h4 : Nat) (h5 : Nat) : rc_Mi l yX7_ofChangeNow [Cond.code yX7_ofChangeNow cX7_ofChangeNow 6 (some FieldType.int)] { frames := 5, cells := 3, slots := 10, locals := 132 } E [.ref h0, .int 0, .int 4] [(h0, .inr (12, [.int 0, .ref h1, .ref h2, .ref h3, .ref h4, .ref h5, .int 1, .int 3, .int 50, .int (-1), .int (-1), .int (-1), .int (-1), .int 0, .int 100, .int 1000, .long 2748329424792805773])), (h3, .inr (4, [.int 0, .ref (E.2.2 0), .int 0]))] sz (S := va_W) (fun (r : Int32) (u : va_W) => ((-1) = r ∧ u = [(h0, .inr (12, [.int 0, .ref h1, .ref h2, .ref h3, .ref h4, .ref h5, .int 1, .int 3, .int 50, .int (-1), .int (-1), .int (-1), .int (-1), .int 0, .int 100, .int 1000, .long 2748329424792805773])), (h3, .inr (4, [.int 0, .ref (E.2.2 0), .int 0]))])) (fun u => u) 3 10 := by
  refine rc_ini (cc := cX7_ofChangeNow) (maxL := 6) (ret := (some FieldType.int)) (by decide) rfl (Nat.le_of_ble_eq_true rfl) ?_
  intro p e s m args below meth c ls A hx hb hr hml _ hown hlocks hin hA hAm hw hl
  have hown : s.vm.findClass RX7 = some m.cls := hown
  have hl : lv_has ls 6 [(0, .ref h0), (1, .int 0), (2, .int 4)] := hl
  refine lv_iconst (v := 0) hx hb dX7_ofChangeNow_0 (by decide) ?_
  refine lv_istore_n (lv' := [(3, .int 0), (0, .ref h0), (1, .int 0), (2, .int 4)]) hx hb dX7_ofChangeNow_1 rfl hl (by decide) rfl (fun ls hl => ?_)
  refine lv_aload_n hx hb dX7_ofChangeNow_2 rfl (lv_at hl 1 rfl) ?_
  refine rc_get (v := .ref h3) hx hb hown hAm hw lyX7 0 rfl rfl 3 (by decide) qw_863 (fun _ h9 => h9) rfl dX7_ofChangeNow_3 ?_
  refine rc_callr (wr := [(h0, .inr (12, [.int 0, .ref h1, .ref h2, .ref h3, .ref h4, .ref h5, .int 1, .int 3, .int 50, .int (-1), .int (-1), .int (-1), .int (-1), .int 0, .int 100, .int 1000, .long 2748329424792805773]))]) (va_runV (As := []) (rest := []) (Ts := []) ⟨hx, hb, hml, hown, fun _ h9 => absurd h9 List.not_mem_nil⟩ (cw_Jx4a65c_iterator_32c93 l E _ h3) (rc_cwV hAm qw_1295 qw_4 qw_1298 qw_1296 qw_1297 rfl rfl hd_Jx4a65c_iterator_32c93 ⟨Nat.le_of_ble_eq_true rfl, Nat.le_of_ble_eq_true rfl⟩) (rc_preV hAm hA hw [1] rfl rfl 1 rfl (q := vwCl[4]) rfl) rfl rfl hl.1 rfl (lv_room (Nat.le_of_ble_eq_true rfl)) dX7_ofChangeNow_6 ⟨Nat.le_of_ble_eq_true rfl, Nat.le_of_ble_eq_true rfl⟩) hA hw [1] [0] rfl rfl rfl (by decide) (fun u_2 r_1 H locs hp hw => ?_)
  obtain ⟨q1, rfl, rfl⟩ := hp
  have hw : rc_W E A s [(h0, .inr (12, [.int 0, .ref h1, .ref h2, .ref h3, .ref h4, .ref h5, .int 1, .int 3, .int 50, .int (-1), .int (-1), .int (-1), .int (-1), .int 0, .int 100, .int 1000, .long 2748329424792805773])), (h3, .inr (4, [.int 0, .ref (E.2.2 0), .int 0])), (q1, .inr (3, [.int 0, .int (-1), .int 0, .ref h3]))] H locs := hw
  refine lv_astore (lv' := [(4, .ref q1), (3, .int 0), (0, .ref h0), (1, .int 0), (2, .int 4)]) hx hb dX7_ofChangeNow_9 hl (by decide) rfl (fun ls hl => ?_)
  refine lv_aload hx hb dX7_ofChangeNow_11 (lv_at hl 0 rfl) ?_
  refine rc_callFi (wr := [(h0, .inr (12, [.int 0, .ref h1, .ref h2, .ref h3, .ref h4, .ref h5, .int 1, .int 3, .int 50, .int (-1), .int (-1), .int (-1), .int (-1), .int 0, .int 100, .int 1000, .long 2748329424792805773]))]) (va_runF (As := []) (rest := []) (Ts := []) ((hAm.K.1 3 _ rfl).2) ⟨hx, hb, hml, hown, fun _ h9 => absurd h9 List.not_mem_nil⟩ (cw_Jx35411_hasNext_aae02 l E _ q1 h3) (rc_cwF (C := "java/util/ArrayList$Itr") (n := 0) hAm qw_1319 qw_32 qw_1327 qw_1325 qw_1323 qw_1321 qw_1320 (by decide +kernel) qw_1326 qw_1324 qw_1322 rfl rfl (by decide +kernel) ⟨Nat.le_of_ble_eq_true rfl, Nat.le_of_ble_eq_true rfl⟩) (rc_preV hAm hA hw [2, 1] rfl rfl 2 rfl (q := vwCl[3]) rfl) rfl rfl hl.1 rfl (lv_room (Nat.le_of_ble_eq_true rfl)) dX7_ofChangeNow_13 ⟨Nat.le_of_ble_eq_true rfl, Nat.le_of_ble_eq_true rfl⟩) hA hw [2, 1] [0] rfl rfl rfl (by decide) (fun r_3 u_4 H locs hp hw => ?_)
  obtain ⟨rfl, rfl⟩ := hp
  have hw : rc_W E A s [(h0, .inr (12, [.int 0, .ref h1, .ref h2, .ref h3, .ref h4, .ref h5, .int 1, .int 3, .int 50, .int (-1), .int (-1), .int (-1), .int (-1), .int 0, .int 100, .int 1000, .long 2748329424792805773])), (q1, .inr (3, [.int 0, .int (-1), .int 0, .ref h3])), (h3, .inr (4, [.int 0, .ref (E.2.2 0), .int 0]))] H locs := hw
  refine lv_if_eq (tgt := 52) hx hb dX7_ofChangeNow_18 (by decide) (fun _ => ?_) (fun c9 => absurd (by decide) c9)
  refine lv_aload_n hx hb dX7_ofChangeNow_52 rfl (lv_at hl 2 rfl) ?_
  refine lv_iload_n hx hb dX7_ofChangeNow_53 rfl (lv_at hl 3 rfl) ?_
  refine rc_callr (wr := [(q1, .inr (3, [.int 0, .int (-1), .int 0, .ref h3]))]) (va_runV (As := [.int 0]) (rest := []) (Ts := []) ⟨hx, hb, hml, hown, fun _ h9 => absurd h9 List.not_mem_nil⟩ (cw_X7_sample__6 l E _ h0 h1 h2 h3 h4 h5) (rc_cwV hAm qw_967 qw_13 qw_970 qw_969 qs_54 rfl rfl hd_X7_sample_ ⟨Nat.le_of_ble_eq_true rfl, Nat.le_of_ble_eq_true rfl⟩) (rc_preV hAm hA hw [0, 2] rfl rfl 0 rfl (q := vwCl[12]) rfl) rfl rfl hl.1 rfl (lv_room (Nat.le_of_ble_eq_true rfl)) dX7_ofChangeNow_54 ⟨Nat.le_of_ble_eq_true rfl, Nat.le_of_ble_eq_true rfl⟩) hA hw [0, 2] [1] rfl rfl rfl (by decide) (fun u_6 r_5 H locs hp hw => ?_)
  obtain ⟨q2, rfl, rfl⟩ := hp
  have hw : rc_W E A s [(q1, .inr (3, [.int 0, .int (-1), .int 0, .ref h3])), (h0, .inr (12, [.int 0, .ref h1, .ref h2, .ref h3, .ref h4, .ref h5, .int 1, .int 3, .int 50, .int (-1), .int (-1), .int (-1), .int (-1), .int 0, .int 100, .int 1000, .long 2748329424792805773])), (h3, .inr (4, [.int 0, .ref (E.2.2 0), .int 0])), (q2, .inl (E.2.1 0, 0, .inl (va_cpy (fun _ => 0) (fun _ => 0) 6 0 0)))] H locs := hw
  refine lv_astore (lv' := [(4, .ref q2), (3, .int 0), (0, .ref h0), (1, .int 0), (2, .int 4)]) hx hb dX7_ofChangeNow_57 hl (by decide) rfl (fun ls hl => ?_)
  refine lv_aload hx hb dX7_ofChangeNow_59 (lv_at hl 0 rfl) ?_
  refine rc_callv (wr := [(q1, .inr (3, [.int 0, .int (-1), .int 0, .ref h3])), (h0, .inr (12, [.int 0, .ref h1, .ref h2, .ref h3, .ref h4, .ref h5, .int 1, .int 3, .int 50, .int (-1), .int (-1), .int (-1), .int (-1), .int 0, .int 100, .int 1000, .long 2748329424792805773])), (h3, .inr (4, [.int 0, .ref (E.2.2 0), .int 0]))]) (va_runS (As := [.ref q2]) (rest := []) (Ts := []) ⟨hx, hb, hml, hown, fun _ h9 => absurd h9 List.not_mem_nil⟩ (cw_J7_sort_2022b l E _ q2 (va_cpy (fun _ => 0) (fun _ => 0) 6 0 0)) (rc_cwS hAm qw_1241 qw_11 qw_1243 qw_1242 rfl rfl hd_J7_sort_2022b ⟨Nat.le_of_ble_eq_true rfl, Nat.le_of_ble_eq_true rfl⟩) (rc_preS hAm hA hw [3] rfl rfl) rfl rfl hl.1 rfl (lv_room (Nat.le_of_ble_eq_true rfl)) dX7_ofChangeNow_61 ⟨Nat.le_of_ble_eq_true rfl, Nat.le_of_ble_eq_true rfl⟩) hA hw [3] [0, 1, 2] rfl rfl rfl (by decide) (fun u_8 H locs hp hw => ?_)
  obtain ⟨rfl⟩ := hp
  have hw : rc_W E A s [(q1, .inr (3, [.int 0, .int (-1), .int 0, .ref h3])), (h0, .inr (12, [.int 0, .ref h1, .ref h2, .ref h3, .ref h4, .ref h5, .int 1, .int 3, .int 50, .int (-1), .int (-1), .int (-1), .int (-1), .int 0, .int 100, .int 1000, .long 2748329424792805773])), (h3, .inr (4, [.int 0, .ref (E.2.2 0), .int 0])), (q2, .inl (E.2.1 0, 0, .inl (va_cpy (fun _ => 0) (fun _ => 0) 6 0 0)))] H locs := hw
  refine lv_aload hx hb dX7_ofChangeNow_64 (lv_at hl 0 rfl) ?_
  refine rc_alen hx hb hAm hw 3 0 rfl rfl 0 rfl dX7_ofChangeNow_66 ?_
  refine lv_iconst (v := 1) hx hb dX7_ofChangeNow_67 (by decide) ?_
  refine lv_isub hx hb dX7_ofChangeNow_68 ?_
  refine rc_topi (-1) (by decide) ?_
  refine lv_istore (lv' := [(5, .int (-1)), (4, .ref q2), (3, .int 0), (0, .ref h0), (1, .int 0), (2, .int 4)]) hx hb dX7_ofChangeNow_69 hl (by decide) rfl (fun ls hl => ?_)
  refine lv_iload_n hx hb dX7_ofChangeNow_71 rfl (lv_at hl 5 rfl) ?_
  refine lv_tableIn (tgt := 145) hx hb dX7_ofChangeNow_72 (by decide) (by decide) rfl (by decide) ?_
  refine lv_iload hx hb dX7_ofChangeNow_145 (lv_at hl 0 rfl) ?_
  refine lv_if_ge (tgt := 154) hx hb dX7_ofChangeNow_147 (by decide) (fun c9 => absurd c9 (by decide)) (fun _ => ?_)
  refine lv_iconst (v := (-1)) hx hb dX7_ofChangeNow_150 (by decide) ?_
  refine lv_goto (tgt := 159) hx hb dX7_ofChangeNow_151 (by decide) ?_
  exact rc_iret (v := (-1)) hx hb hr hlocks hw [(h0, .inr (12, [.int 0, .ref h1, .ref h2, .ref h3, .ref h4, .ref h5, .int 1, .int 3, .int 50, .int (-1), .int (-1), .int (-1), .int (-1), .int 0, .int 100, .int 1000, .long 2748329424792805773])), (h3, .inr (4, [.int 0, .ref (E.2.2 0), .int 0]))] (⟨rfl, rfl⟩) [1, 2] rfl (by decide) (Nat.le_of_ble_eq_true rfl) (Nat.le_of_ble_eq_true rfl) dX7_ofChangeNow_159
set_option maxHeartbeats 4000000 in
set_option maxRecDepth 100000 in
theorem cw_X7_add_14 (l : Launch) (E : rc_E) (sz : Nat) (h0 : Nat) (h1 : Nat) (h2 : Nat) (h3 : Nat) (h4 : Nat) (h5 : Nat) : rc_Mv l yX7_add [Cond.code yX7_add cX7_add 2 (none : Option FieldType)] { frames := 0, cells := 0, slots := 0, locals := 0 } E [.ref h0, .int (-1)] [(h0, .inr (12, [.int 0, .ref h1, .ref h2, .ref h3, .ref h4, .ref h5, .int 1, .int 3, .int 50, .int (-1), .int (-1), .int (-1), .int (-1), .int 0, .int 100, .int 1000, .long 2748329424792805773]))] sz (S := va_W) (fun (u : va_W) => (u = [(h0, .inr (12, [.int 0, .ref h1, .ref h2, .ref h3, .ref h4, .ref h5, .int 1, .int 3, .int 50, .int (-1), .int (-1), .int (-1), .int (-1), .int 0, .int 100, .int 1000, .long (-7035508199970779118)]))])) (fun u => u) 0 0 := by
  refine rc_inv (cc := cX7_add) (maxL := 2) (ret := (none : Option FieldType)) (by decide) rfl (Nat.le_of_ble_eq_true rfl) ?_
  intro p e s m args below meth c ls A hx hb hr hml _ hown hlocks hin hA hAm hw hl
  have hown : s.vm.findClass RX7 = some m.cls := hown
  have hl : lv_has ls 2 [(0, .ref h0), (1, .int (-1))] := hl
  refine lv_aload_n hx hb dX7_add_0 rfl (lv_at hl 0 rfl) ?_
  refine lv_aload_n hx hb dX7_add_1 rfl (lv_at hl 0 rfl) ?_
  refine rc_get (v := .long 2748329424792805773) hx hb hown hAm hw lyX7 0 rfl rfl 16 (by decide) qw_876 (fun _ h9 => h9) rfl dX7_add_2 ?_
  refine lv_ldc2 (v := 31) hx hb hown (hAm.wd qw_1470 rfl rfl) dX7_add_5 ?_
  refine lv_lmul hx hb dX7_add_8 ?_
  refine rc_topl (-7035508199970779117) (by decide) ?_
  refine lv_iload_n hx hb dX7_add_9 rfl (lv_at hl 1 rfl) ?_
  refine lv_i2l (v := (-1)) hx hb dX7_add_10 (by decide) ?_
  refine lv_ladd hx hb dX7_add_11 ?_
  refine rc_topl (-7035508199970779118) (by decide) ?_
  refine rc_put hx hb hown hAm hw lyX7 tyX7 tyX7_ok nmX7 0 rfl rfl 16 (by decide) qw_876 (fun _ h9 => h9) rfl rfl (by decide +kernel) (Nat.le_of_ble_eq_true rfl) [(h0, .inr (12, [.int 0, .ref h1, .ref h2, .ref h3, .ref h4, .ref h5, .int 1, .int 3, .int 50, .int (-1), .int (-1), .int (-1), .int (-1), .int 0, .int 100, .int 1000, .long (-7035508199970779118)]))] rfl dX7_add_12 (fun H locs hw => ?_)
  exact rc_vret hx hb hr hlocks hw [(h0, .inr (12, [.int 0, .ref h1, .ref h2, .ref h3, .ref h4, .ref h5, .int 1, .int 3, .int 50, .int (-1), .int (-1), .int (-1), .int (-1), .int 0, .int 100, .int 1000, .long (-7035508199970779118)]))] (rfl) [0] rfl (by decide) (Nat.le_of_ble_eq_true rfl) (Nat.le_of_ble_eq_true rfl) dX7_add_15
set_option maxHeartbeats 4000000 in
set_option maxRecDepth 100000 in
theorem cw_X7_sample_7 (l : Launch) (E : rc_E) (sz : Nat) (h0 : Nat) (h1 : Nat) (h2 : Nat) (h3 : Nat) (h4 : Nat) (h5 : Nat) : rc_Mr l yX7_sample [Cond.code yX7_sample cX7_sample 6 (some (FieldType.array FieldType.int))] { frames := 3, cells := 2, slots := 6, locals := 86 } E [.ref h0, .int 0, .int (-1)] [(h0, .inr (12, [.int 0, .ref h1, .ref h2, .ref h3, .ref h4, .ref h5, .int 1, .int 3, .int 50, .int (-1), .int (-1), .int (-1), .int (-1), .int 0, .int 100, .int 1000, .long (-7035508199970779118)])), (h3, .inr (4, [.int 0, .ref (E.2.2 0), .int 0]))] sz (S := va_W) (fun (u : va_W) (r : Nat) => (∃ q2 : Nat, q2 = r ∧ u = [(h0, .inr (12, [.int 0, .ref h1, .ref h2, .ref h3, .ref h4, .ref h5, .int 1, .int 3, .int 50, .int (-1), .int (-1), .int (-1), .int (-1), .int 0, .int 100, .int 1000, .long (-7035508199970779118)])), (h3, .inr (4, [.int 0, .ref (E.2.2 0), .int 0])), (q2, .inl (E.2.1 0, 0, .inl (va_cpy (fun _ => 0) (fun _ => 0) 6 0 0)))])) (fun u => u) 2 6 := by
  refine rc_inr (cc := cX7_sample) (maxL := 6) (ret := (some (FieldType.array FieldType.int))) (by decide) rfl (Nat.le_of_ble_eq_true rfl) ?_
  intro p e s m args below meth c ls A hx hb hr hml _ hown hlocks hin hA hAm hw hl
  have hown : s.vm.findClass RX7 = some m.cls := hown
  have hl : lv_has ls 6 [(0, .ref h0), (1, .int 0), (2, .int (-1))] := hl
  refine lv_bipush (v := 6) hx hb dX7_sample_0 (by decide) ?_
  refine rc_inew hx hb hAm hA hw qw_108 6 (by decide) (by decide) (Nat.le_of_ble_eq_true rfl) (Nat.le_of_ble_eq_true rfl) (Nat.le_of_ble_eq_true rfl) dX7_sample_2 (fun q1 H hw => ?_)
  have hw : rc_W E A s [(h0, .inr (12, [.int 0, .ref h1, .ref h2, .ref h3, .ref h4, .ref h5, .int 1, .int 3, .int 50, .int (-1), .int (-1), .int (-1), .int (-1), .int 0, .int 100, .int 1000, .long (-7035508199970779118)])), (h3, .inr (4, [.int 0, .ref (E.2.2 0), .int 0])), (q1, .inl (E.2.1 0, 6, .inl (fun _ => 0)))] H _ := hw
  refine lv_astore_n (lv' := [(3, .ref q1), (0, .ref h0), (1, .int 0), (2, .int (-1))]) hx hb dX7_sample_4 rfl hl (by decide) rfl (fun ls hl => ?_)
  refine lv_iconst (v := 0) hx hb dX7_sample_5 (by decide) ?_
  refine lv_istore (lv' := [(4, .int 0), (3, .ref q1), (0, .ref h0), (1, .int 0), (2, .int (-1))]) hx hb dX7_sample_6 hl (by decide) rfl (fun ls hl => ?_)
  refine lv_aload_n hx hb dX7_sample_8 rfl (lv_at hl 2 rfl) ?_
  refine rc_get (v := .ref h3) hx hb hown hAm hw lyX7 0 rfl rfl 3 (by decide) qw_863 (fun _ h9 => h9) rfl dX7_sample_9 ?_
  refine rc_calli (wr := [(h0, .inr (12, [.int 0, .ref h1, .ref h2, .ref h3, .ref h4, .ref h5, .int 1, .int 3, .int 50, .int (-1), .int (-1), .int (-1), .int (-1), .int 0, .int 100, .int 1000, .long (-7035508199970779118)])), (q1, .inl (E.2.1 0, 6, .inl (fun _ => 0)))]) (va_runV (As := []) (rest := []) (Ts := []) ⟨hx, hb, hml, hown, fun _ h9 => absurd h9 List.not_mem_nil⟩ (cw_Jx4a65c_size_8abf5 l E _ h3) (rc_cwV hAm qw_928 qw_4 qw_289 qw_287 qw_288 rfl rfl hd_Jx4a65c_size_8abf5 ⟨Nat.le_of_ble_eq_true rfl, Nat.le_of_ble_eq_true rfl⟩) (rc_preV hAm hA hw [1] rfl rfl 1 rfl (q := vwCl[4]) rfl) rfl rfl hl.1 rfl (lv_room (Nat.le_of_ble_eq_true rfl)) dX7_sample_12 ⟨Nat.le_of_ble_eq_true rfl, Nat.le_of_ble_eq_true rfl⟩) hA hw [1] [0, 2] rfl rfl rfl (by decide) (fun r_1 u_2 H locs hp hw => ?_)
  obtain ⟨rfl, rfl⟩ := hp
  have hw : rc_W E A s [(h0, .inr (12, [.int 0, .ref h1, .ref h2, .ref h3, .ref h4, .ref h5, .int 1, .int 3, .int 50, .int (-1), .int (-1), .int (-1), .int (-1), .int 0, .int 100, .int 1000, .long (-7035508199970779118)])), (q1, .inl (E.2.1 0, 6, .inl (fun _ => 0))), (h3, .inr (4, [.int 0, .ref (E.2.2 0), .int 0]))] H locs := hw
  refine lv_iconst (v := 1) hx hb dX7_sample_15 (by decide) ?_
  refine lv_isub hx hb dX7_sample_16 ?_
  refine rc_topi (-1) (by decide) ?_
  refine lv_istore (lv' := [(5, .int (-1)), (4, .int 0), (3, .ref q1), (0, .ref h0), (1, .int 0), (2, .int (-1))]) hx hb dX7_sample_17 hl (by decide) rfl (fun ls hl => ?_)
  refine lv_iload hx hb dX7_sample_19 (lv_at hl 0 rfl) ?_
  refine lv_if_lt (tgt := 102) hx hb dX7_sample_21 (by decide) (fun _ => ?_) (fun c9 => absurd (by decide) c9)
  refine lv_aload_n hx hb dX7_sample_102 rfl (lv_at hl 2 rfl) ?_
  refine lv_bipush (v := 6) hx hb dX7_sample_103 (by decide) ?_
  refine lv_iload hx hb dX7_sample_105 (lv_at hl 1 rfl) ?_
  refine lv_isub hx hb dX7_sample_107 ?_
  refine rc_topi 6 (by decide) ?_
  refine lv_bipush (v := 6) hx hb dX7_sample_108 (by decide) ?_
  refine rc_callr (wr := [(h0, .inr (12, [.int 0, .ref h1, .ref h2, .ref h3, .ref h4, .ref h5, .int 1, .int 3, .int 50, .int (-1), .int (-1), .int (-1), .int (-1), .int 0, .int 100, .int 1000, .long (-7035508199970779118)])), (h3, .inr (4, [.int 0, .ref (E.2.2 0), .int 0]))]) (va_runS (As := [.ref q1, .int 6, .int 6]) (rest := []) (Ts := []) ⟨hx, hb, hml, hown, fun _ h9 => absurd h9 List.not_mem_nil⟩ (cw_J7_copyOfRange_feecc l E _ q1) (rc_cwS hAm qw_992 qw_11 qw_994 qw_993 rfl rfl hd_J7_copyOfRange_feecc ⟨Nat.le_of_ble_eq_true rfl, Nat.le_of_ble_eq_true rfl⟩) (rc_preS hAm hA hw [1] rfl rfl) rfl rfl hl.1 rfl (lv_room (Nat.le_of_ble_eq_true rfl)) dX7_sample_110 ⟨Nat.le_of_ble_eq_true rfl, Nat.le_of_ble_eq_true rfl⟩) hA hw [1] [0, 2] rfl rfl rfl (by decide) (fun u_4 r_3 H locs hp hw => ?_)
  obtain ⟨q2, rfl, rfl⟩ := hp
  have hw : rc_W E A s [(h0, .inr (12, [.int 0, .ref h1, .ref h2, .ref h3, .ref h4, .ref h5, .int 1, .int 3, .int 50, .int (-1), .int (-1), .int (-1), .int (-1), .int 0, .int 100, .int 1000, .long (-7035508199970779118)])), (h3, .inr (4, [.int 0, .ref (E.2.2 0), .int 0])), (q1, .inl (E.2.1 0, 6, .inl (fun _ => 0))), (q2, .inl (E.2.1 0, 0, .inl (va_cpy (fun _ => 0) (fun _ => 0) 6 0 0)))] H locs := hw
  exact rc_aret (v := q2) hx hb hr (by first | exact Or.inl ⟨_, rfl⟩ | exact Or.inr ⟨_, rfl⟩) hlocks hw [(h0, .inr (12, [.int 0, .ref h1, .ref h2, .ref h3, .ref h4, .ref h5, .int 1, .int 3, .int 50, .int (-1), .int (-1), .int (-1), .int (-1), .int 0, .int 100, .int 1000, .long (-7035508199970779118)])), (h3, .inr (4, [.int 0, .ref (E.2.2 0), .int 0])), (q2, .inl (E.2.1 0, 0, .inl (va_cpy (fun _ => 0) (fun _ => 0) 6 0 0)))] (⟨q2, rfl, rfl⟩) [0, 1, 3] rfl (by decide) (Nat.le_of_ble_eq_true rfl) (Nat.le_of_ble_eq_true rfl) dX7_sample_113
set_option maxHeartbeats 4000000 in
set_option maxRecDepth 100000 in
theorem cw_X7_sample__7 (l : Launch) (E : rc_E) (sz : Nat) (h0 : Nat) (h1 : Nat) (h2 : Nat) (h3 : Nat) (h4 : Nat) (h5 : Nat) : rc_Mr l yX7_sample_ [Cond.code yX7_sample_ cX7_sample_ 2 (some (FieldType.array FieldType.int))] { frames := 4, cells := 2, slots := 6, locals := 111 } E [.ref h0, .int 0] [(h0, .inr (12, [.int 0, .ref h1, .ref h2, .ref h3, .ref h4, .ref h5, .int 1, .int 3, .int 50, .int (-1), .int (-1), .int (-1), .int (-1), .int 0, .int 100, .int 1000, .long (-7035508199970779118)])), (h3, .inr (4, [.int 0, .ref (E.2.2 0), .int 0]))] sz (S := va_W) (fun (u : va_W) (r : Nat) => (∃ q1 : Nat, q1 = r ∧ u = [(h0, .inr (12, [.int 0, .ref h1, .ref h2, .ref h3, .ref h4, .ref h5, .int 1, .int 3, .int 50, .int (-1), .int (-1), .int (-1), .int (-1), .int 0, .int 100, .int 1000, .long (-7035508199970779118)])), (h3, .inr (4, [.int 0, .ref (E.2.2 0), .int 0])), (q1, .inl (E.2.1 0, 0, .inl (va_cpy (fun _ => 0) (fun _ => 0) 6 0 0)))])) (fun u => u) 2 6 := by
  refine rc_inr (cc := cX7_sample_) (maxL := 2) (ret := (some (FieldType.array FieldType.int))) (by decide) rfl (Nat.le_of_ble_eq_true rfl) ?_
  intro p e s m args below meth c ls A hx hb hr hml _ hown hlocks hin hA hAm hw hl
  have hown : s.vm.findClass RX7 = some m.cls := hown
  have hl : lv_has ls 2 [(0, .ref h0), (1, .int 0)] := hl
  refine lv_aload_n hx hb dX7_sample__0 rfl (lv_at hl 0 rfl) ?_
  refine lv_iload_n hx hb dX7_sample__1 rfl (lv_at hl 1 rfl) ?_
  refine lv_iconst (v := (-1)) hx hb dX7_sample__2 (by decide) ?_
  refine rc_callr (wr := []) (va_runV (As := [.int 0, .int (-1)]) (rest := []) (Ts := []) ⟨hx, hb, hml, hown, fun _ h9 => absurd h9 List.not_mem_nil⟩ (cw_X7_sample_7 l E _ h0 h1 h2 h3 h4 h5) (rc_cwV hAm qw_971 qw_13 qw_974 qw_973 qs_55 rfl rfl hd_X7_sample ⟨Nat.le_of_ble_eq_true rfl, Nat.le_of_ble_eq_true rfl⟩) (rc_preV hAm hA hw [0, 1] rfl rfl 0 rfl (q := vwCl[12]) rfl) rfl rfl hl.1 rfl (lv_room (Nat.le_of_ble_eq_true rfl)) dX7_sample__3 ⟨Nat.le_of_ble_eq_true rfl, Nat.le_of_ble_eq_true rfl⟩) hA hw [0, 1] [] rfl rfl rfl (by decide) (fun u_2 r_1 H locs hp hw => ?_)
  obtain ⟨q1, rfl, rfl⟩ := hp
  have hw : rc_W E A s [(h0, .inr (12, [.int 0, .ref h1, .ref h2, .ref h3, .ref h4, .ref h5, .int 1, .int 3, .int 50, .int (-1), .int (-1), .int (-1), .int (-1), .int 0, .int 100, .int 1000, .long (-7035508199970779118)])), (h3, .inr (4, [.int 0, .ref (E.2.2 0), .int 0])), (q1, .inl (E.2.1 0, 0, .inl (va_cpy (fun _ => 0) (fun _ => 0) 6 0 0)))] H locs := hw
  exact rc_aret (v := q1) hx hb hr (by first | exact Or.inl ⟨_, rfl⟩ | exact Or.inr ⟨_, rfl⟩) hlocks hw [(h0, .inr (12, [.int 0, .ref h1, .ref h2, .ref h3, .ref h4, .ref h5, .int 1, .int 3, .int 50, .int (-1), .int (-1), .int (-1), .int (-1), .int 0, .int 100, .int 1000, .long (-7035508199970779118)])), (h3, .inr (4, [.int 0, .ref (E.2.2 0), .int 0])), (q1, .inl (E.2.1 0, 0, .inl (va_cpy (fun _ => 0) (fun _ => 0) 6 0 0)))] (⟨q1, rfl, rfl⟩) [0, 1, 2] rfl (by decide) (Nat.le_of_ble_eq_true rfl) (Nat.le_of_ble_eq_true rfl) dX7_sample__6
set_option maxHeartbeats 4000000 in
set_option maxRecDepth 100000 in
theorem cw_X7_ofChangeNow_7 (l : Launch) (E : rc_E) (sz : Nat) (h0 : Nat) (h1 : Nat) (h2 : Nat) (h3 : Nat) (h4 : Nat) (h5 : Nat) : rc_Mi l yX7_ofChangeNow [Cond.code yX7_ofChangeNow cX7_ofChangeNow 6 (some FieldType.int)] { frames := 5, cells := 3, slots := 10, locals := 132 } E [.ref h0, .int 0, .int 5] [(h0, .inr (12, [.int 0, .ref h1, .ref h2, .ref h3, .ref h4, .ref h5, .int 1, .int 3, .int 50, .int (-1), .int (-1), .int (-1), .int (-1), .int 0, .int 100, .int 1000, .long (-7035508199970779118)])), (h3, .inr (4, [.int 0, .ref (E.2.2 0), .int 0])), (h4, .inl (E.2.1 3, 40, .inl (fun _ => 0))), (h5, .inl (E.2.1 3, 40, .inl (fun _ => 0)))] sz (S := va_W) (fun (r : Int32) (u : va_W) => (0 = r ∧ u = [(h0, .inr (12, [.int 0, .ref h1, .ref h2, .ref h3, .ref h4, .ref h5, .int 1, .int 3, .int 50, .int (-1), .int (-1), .int (-1), .int (-1), .int 0, .int 100, .int 1000, .long (-7035508199970779118)])), (h3, .inr (4, [.int 0, .ref (E.2.2 0), .int 0])), (h4, .inl (E.2.1 3, 40, .inl (fun _ => 0))), (h5, .inl (E.2.1 3, 40, .inl (fun _ => 0)))])) (fun u => u) 3 10 := by
  refine rc_ini (cc := cX7_ofChangeNow) (maxL := 6) (ret := (some FieldType.int)) (by decide) rfl (Nat.le_of_ble_eq_true rfl) ?_
  intro p e s m args below meth c ls A hx hb hr hml _ hown hlocks hin hA hAm hw hl
  have hown : s.vm.findClass RX7 = some m.cls := hown
  have hl : lv_has ls 6 [(0, .ref h0), (1, .int 0), (2, .int 5)] := hl
  refine lv_iconst (v := 0) hx hb dX7_ofChangeNow_0 (by decide) ?_
  refine lv_istore_n (lv' := [(3, .int 0), (0, .ref h0), (1, .int 0), (2, .int 5)]) hx hb dX7_ofChangeNow_1 rfl hl (by decide) rfl (fun ls hl => ?_)
  refine lv_aload_n hx hb dX7_ofChangeNow_2 rfl (lv_at hl 1 rfl) ?_
  refine rc_get (v := .ref h3) hx hb hown hAm hw lyX7 0 rfl rfl 3 (by decide) qw_863 (fun _ h9 => h9) rfl dX7_ofChangeNow_3 ?_
  refine rc_callr (wr := [(h0, .inr (12, [.int 0, .ref h1, .ref h2, .ref h3, .ref h4, .ref h5, .int 1, .int 3, .int 50, .int (-1), .int (-1), .int (-1), .int (-1), .int 0, .int 100, .int 1000, .long (-7035508199970779118)])), (h4, .inl (E.2.1 3, 40, .inl (fun _ => 0))), (h5, .inl (E.2.1 3, 40, .inl (fun _ => 0)))]) (va_runV (As := []) (rest := []) (Ts := []) ⟨hx, hb, hml, hown, fun _ h9 => absurd h9 List.not_mem_nil⟩ (cw_Jx4a65c_iterator_32c93 l E _ h3) (rc_cwV hAm qw_1295 qw_4 qw_1298 qw_1296 qw_1297 rfl rfl hd_Jx4a65c_iterator_32c93 ⟨Nat.le_of_ble_eq_true rfl, Nat.le_of_ble_eq_true rfl⟩) (rc_preV hAm hA hw [1] rfl rfl 1 rfl (q := vwCl[4]) rfl) rfl rfl hl.1 rfl (lv_room (Nat.le_of_ble_eq_true rfl)) dX7_ofChangeNow_6 ⟨Nat.le_of_ble_eq_true rfl, Nat.le_of_ble_eq_true rfl⟩) hA hw [1] [0, 2, 3] rfl rfl rfl (by decide) (fun u_2 r_1 H locs hp hw => ?_)
  obtain ⟨q1, rfl, rfl⟩ := hp
  have hw : rc_W E A s [(h0, .inr (12, [.int 0, .ref h1, .ref h2, .ref h3, .ref h4, .ref h5, .int 1, .int 3, .int 50, .int (-1), .int (-1), .int (-1), .int (-1), .int 0, .int 100, .int 1000, .long (-7035508199970779118)])), (h4, .inl (E.2.1 3, 40, .inl (fun _ => 0))), (h5, .inl (E.2.1 3, 40, .inl (fun _ => 0))), (h3, .inr (4, [.int 0, .ref (E.2.2 0), .int 0])), (q1, .inr (3, [.int 0, .int (-1), .int 0, .ref h3]))] H locs := hw
  refine lv_astore (lv' := [(4, .ref q1), (3, .int 0), (0, .ref h0), (1, .int 0), (2, .int 5)]) hx hb dX7_ofChangeNow_9 hl (by decide) rfl (fun ls hl => ?_)
  refine lv_aload hx hb dX7_ofChangeNow_11 (lv_at hl 0 rfl) ?_
  refine rc_callFi (wr := [(h0, .inr (12, [.int 0, .ref h1, .ref h2, .ref h3, .ref h4, .ref h5, .int 1, .int 3, .int 50, .int (-1), .int (-1), .int (-1), .int (-1), .int 0, .int 100, .int 1000, .long (-7035508199970779118)])), (h4, .inl (E.2.1 3, 40, .inl (fun _ => 0))), (h5, .inl (E.2.1 3, 40, .inl (fun _ => 0)))]) (va_runF (As := []) (rest := []) (Ts := []) ((hAm.K.1 3 _ rfl).2) ⟨hx, hb, hml, hown, fun _ h9 => absurd h9 List.not_mem_nil⟩ (cw_Jx35411_hasNext_aae02 l E _ q1 h3) (rc_cwF (C := "java/util/ArrayList$Itr") (n := 0) hAm qw_1319 qw_32 qw_1327 qw_1325 qw_1323 qw_1321 qw_1320 (by decide +kernel) qw_1326 qw_1324 qw_1322 rfl rfl (by decide +kernel) ⟨Nat.le_of_ble_eq_true rfl, Nat.le_of_ble_eq_true rfl⟩) (rc_preV hAm hA hw [4, 3] rfl rfl 4 rfl (q := vwCl[3]) rfl) rfl rfl hl.1 rfl (lv_room (Nat.le_of_ble_eq_true rfl)) dX7_ofChangeNow_13 ⟨Nat.le_of_ble_eq_true rfl, Nat.le_of_ble_eq_true rfl⟩) hA hw [4, 3] [0, 1, 2] rfl rfl rfl (by decide) (fun r_3 u_4 H locs hp hw => ?_)
  obtain ⟨rfl, rfl⟩ := hp
  have hw : rc_W E A s [(h0, .inr (12, [.int 0, .ref h1, .ref h2, .ref h3, .ref h4, .ref h5, .int 1, .int 3, .int 50, .int (-1), .int (-1), .int (-1), .int (-1), .int 0, .int 100, .int 1000, .long (-7035508199970779118)])), (h4, .inl (E.2.1 3, 40, .inl (fun _ => 0))), (h5, .inl (E.2.1 3, 40, .inl (fun _ => 0))), (q1, .inr (3, [.int 0, .int (-1), .int 0, .ref h3])), (h3, .inr (4, [.int 0, .ref (E.2.2 0), .int 0]))] H locs := hw
  refine lv_if_eq (tgt := 52) hx hb dX7_ofChangeNow_18 (by decide) (fun _ => ?_) (fun c9 => absurd (by decide) c9)
  refine lv_aload_n hx hb dX7_ofChangeNow_52 rfl (lv_at hl 2 rfl) ?_
  refine lv_iload_n hx hb dX7_ofChangeNow_53 rfl (lv_at hl 3 rfl) ?_
  refine rc_callr (wr := [(h4, .inl (E.2.1 3, 40, .inl (fun _ => 0))), (h5, .inl (E.2.1 3, 40, .inl (fun _ => 0))), (q1, .inr (3, [.int 0, .int (-1), .int 0, .ref h3]))]) (va_runV (As := [.int 0]) (rest := []) (Ts := []) ⟨hx, hb, hml, hown, fun _ h9 => absurd h9 List.not_mem_nil⟩ (cw_X7_sample__7 l E _ h0 h1 h2 h3 h4 h5) (rc_cwV hAm qw_967 qw_13 qw_970 qw_969 qs_54 rfl rfl hd_X7_sample_ ⟨Nat.le_of_ble_eq_true rfl, Nat.le_of_ble_eq_true rfl⟩) (rc_preV hAm hA hw [0, 4] rfl rfl 0 rfl (q := vwCl[12]) rfl) rfl rfl hl.1 rfl (lv_room (Nat.le_of_ble_eq_true rfl)) dX7_ofChangeNow_54 ⟨Nat.le_of_ble_eq_true rfl, Nat.le_of_ble_eq_true rfl⟩) hA hw [0, 4] [1, 2, 3] rfl rfl rfl (by decide) (fun u_6 r_5 H locs hp hw => ?_)
  obtain ⟨q2, rfl, rfl⟩ := hp
  have hw : rc_W E A s [(h4, .inl (E.2.1 3, 40, .inl (fun _ => 0))), (h5, .inl (E.2.1 3, 40, .inl (fun _ => 0))), (q1, .inr (3, [.int 0, .int (-1), .int 0, .ref h3])), (h0, .inr (12, [.int 0, .ref h1, .ref h2, .ref h3, .ref h4, .ref h5, .int 1, .int 3, .int 50, .int (-1), .int (-1), .int (-1), .int (-1), .int 0, .int 100, .int 1000, .long (-7035508199970779118)])), (h3, .inr (4, [.int 0, .ref (E.2.2 0), .int 0])), (q2, .inl (E.2.1 0, 0, .inl (va_cpy (fun _ => 0) (fun _ => 0) 6 0 0)))] H locs := hw
  refine lv_astore (lv' := [(4, .ref q2), (3, .int 0), (0, .ref h0), (1, .int 0), (2, .int 5)]) hx hb dX7_ofChangeNow_57 hl (by decide) rfl (fun ls hl => ?_)
  refine lv_aload hx hb dX7_ofChangeNow_59 (lv_at hl 0 rfl) ?_
  refine rc_callv (wr := [(h4, .inl (E.2.1 3, 40, .inl (fun _ => 0))), (h5, .inl (E.2.1 3, 40, .inl (fun _ => 0))), (q1, .inr (3, [.int 0, .int (-1), .int 0, .ref h3])), (h0, .inr (12, [.int 0, .ref h1, .ref h2, .ref h3, .ref h4, .ref h5, .int 1, .int 3, .int 50, .int (-1), .int (-1), .int (-1), .int (-1), .int 0, .int 100, .int 1000, .long (-7035508199970779118)])), (h3, .inr (4, [.int 0, .ref (E.2.2 0), .int 0]))]) (va_runS (As := [.ref q2]) (rest := []) (Ts := []) ⟨hx, hb, hml, hown, fun _ h9 => absurd h9 List.not_mem_nil⟩ (cw_J7_sort_2022b l E _ q2 (va_cpy (fun _ => 0) (fun _ => 0) 6 0 0)) (rc_cwS hAm qw_1241 qw_11 qw_1243 qw_1242 rfl rfl hd_J7_sort_2022b ⟨Nat.le_of_ble_eq_true rfl, Nat.le_of_ble_eq_true rfl⟩) (rc_preS hAm hA hw [5] rfl rfl) rfl rfl hl.1 rfl (lv_room (Nat.le_of_ble_eq_true rfl)) dX7_ofChangeNow_61 ⟨Nat.le_of_ble_eq_true rfl, Nat.le_of_ble_eq_true rfl⟩) hA hw [5] [0, 1, 2, 3, 4] rfl rfl rfl (by decide) (fun u_8 H locs hp hw => ?_)
  obtain ⟨rfl⟩ := hp
  have hw : rc_W E A s [(h4, .inl (E.2.1 3, 40, .inl (fun _ => 0))), (h5, .inl (E.2.1 3, 40, .inl (fun _ => 0))), (q1, .inr (3, [.int 0, .int (-1), .int 0, .ref h3])), (h0, .inr (12, [.int 0, .ref h1, .ref h2, .ref h3, .ref h4, .ref h5, .int 1, .int 3, .int 50, .int (-1), .int (-1), .int (-1), .int (-1), .int 0, .int 100, .int 1000, .long (-7035508199970779118)])), (h3, .inr (4, [.int 0, .ref (E.2.2 0), .int 0])), (q2, .inl (E.2.1 0, 0, .inl (va_cpy (fun _ => 0) (fun _ => 0) 6 0 0)))] H locs := hw
  refine lv_aload hx hb dX7_ofChangeNow_64 (lv_at hl 0 rfl) ?_
  refine rc_alen hx hb hAm hw 5 0 rfl rfl 0 rfl dX7_ofChangeNow_66 ?_
  refine lv_iconst (v := 1) hx hb dX7_ofChangeNow_67 (by decide) ?_
  refine lv_isub hx hb dX7_ofChangeNow_68 ?_
  refine rc_topi (-1) (by decide) ?_
  refine lv_istore (lv' := [(5, .int (-1)), (4, .ref q2), (3, .int 0), (0, .ref h0), (1, .int 0), (2, .int 5)]) hx hb dX7_ofChangeNow_69 hl (by decide) rfl (fun ls hl => ?_)
  refine lv_iload_n hx hb dX7_ofChangeNow_71 rfl (lv_at hl 5 rfl) ?_
  refine lv_tableOut (tgt := 160) hx hb dX7_ofChangeNow_72 (by decide) (by decide) ?_
  refine lv_aload_n hx hb dX7_ofChangeNow_160 rfl (lv_at hl 3 rfl) ?_
  refine rc_get (v := .ref h5) hx hb hown hAm hw lyX7 3 rfl rfl 5 (by decide) qw_865 (fun _ h9 => h9) rfl dX7_ofChangeNow_161 ?_
  refine lv_iload_n hx hb dX7_ofChangeNow_164 rfl (lv_at hl 4 rfl) ?_
  refine rc_zald hx hb hAm hw 1 rfl (vp_in_iff.mpr (by decide)) dX7_ofChangeNow_165 ?_
  refine rc_topi 0 rfl ?_
  refine lv_if_eq (tgt := 173) hx hb dX7_ofChangeNow_166 (by decide) (fun _ => ?_) (fun c9 => absurd (by decide) c9)
  refine lv_aload_n hx hb dX7_ofChangeNow_173 rfl (lv_at hl 3 rfl) ?_
  refine rc_get (v := .ref h4) hx hb hown hAm hw lyX7 3 rfl rfl 4 (by decide) qw_864 (fun _ h9 => h9) rfl dX7_ofChangeNow_174 ?_
  refine lv_iload_n hx hb dX7_ofChangeNow_177 rfl (lv_at hl 4 rfl) ?_
  refine rc_zald hx hb hAm hw 0 rfl (vp_in_iff.mpr (by decide)) dX7_ofChangeNow_178 ?_
  refine rc_topi 0 rfl ?_
  refine lv_if_eq (tgt := 186) hx hb dX7_ofChangeNow_179 (by decide) (fun _ => ?_) (fun c9 => absurd (by decide) c9)
  refine lv_iconst (v := 0) hx hb dX7_ofChangeNow_186 (by decide) ?_
  exact rc_iret (v := 0) hx hb hr hlocks hw [(h0, .inr (12, [.int 0, .ref h1, .ref h2, .ref h3, .ref h4, .ref h5, .int 1, .int 3, .int 50, .int (-1), .int (-1), .int (-1), .int (-1), .int 0, .int 100, .int 1000, .long (-7035508199970779118)])), (h3, .inr (4, [.int 0, .ref (E.2.2 0), .int 0])), (h4, .inl (E.2.1 3, 40, .inl (fun _ => 0))), (h5, .inl (E.2.1 3, 40, .inl (fun _ => 0)))] (⟨rfl, rfl⟩) [3, 4, 0, 1] rfl (by decide) (Nat.le_of_ble_eq_true rfl) (Nat.le_of_ble_eq_true rfl) dX7_ofChangeNow_187
set_option maxHeartbeats 4000000 in
set_option maxRecDepth 100000 in
theorem cw_X7_add_15 (l : Launch) (E : rc_E) (sz : Nat) (h0 : Nat) (h1 : Nat) (h2 : Nat) (h3 : Nat) (h4 : Nat) (h5 : Nat) : rc_Mv l yX7_add [Cond.code yX7_add cX7_add 2 (none : Option FieldType)] { frames := 0, cells := 0, slots := 0, locals := 0 } E [.ref h0, .int 0] [(h0, .inr (12, [.int 0, .ref h1, .ref h2, .ref h3, .ref h4, .ref h5, .int 1, .int 3, .int 50, .int (-1), .int (-1), .int (-1), .int (-1), .int 0, .int 100, .int 1000, .long (-7035508199970779118)]))] sz (S := va_W) (fun (u : va_W) => (u = [(h0, .inr (12, [.int 0, .ref h1, .ref h2, .ref h3, .ref h4, .ref h5, .int 1, .int 3, .int 50, .int (-1), .int (-1), .int (-1), .int (-1), .int 0, .int 100, .int 1000, .long 3260174685420466734]))])) (fun u => u) 0 0 := by
  refine rc_inv (cc := cX7_add) (maxL := 2) (ret := (none : Option FieldType)) (by decide) rfl (Nat.le_of_ble_eq_true rfl) ?_
  intro p e s m args below meth c ls A hx hb hr hml _ hown hlocks hin hA hAm hw hl
  have hown : s.vm.findClass RX7 = some m.cls := hown
  have hl : lv_has ls 2 [(0, .ref h0), (1, .int 0)] := hl
  refine lv_aload_n hx hb dX7_add_0 rfl (lv_at hl 0 rfl) ?_
  refine lv_aload_n hx hb dX7_add_1 rfl (lv_at hl 0 rfl) ?_
  refine rc_get (v := .long (-7035508199970779118)) hx hb hown hAm hw lyX7 0 rfl rfl 16 (by decide) qw_876 (fun _ h9 => h9) rfl dX7_add_2 ?_
  refine lv_ldc2 (v := 31) hx hb hown (hAm.wd qw_1470 rfl rfl) dX7_add_5 ?_
  refine lv_lmul hx hb dX7_add_8 ?_
  refine rc_topl 3260174685420466734 (by decide) ?_
  refine lv_iload_n hx hb dX7_add_9 rfl (lv_at hl 1 rfl) ?_
  refine lv_i2l (v := 0) hx hb dX7_add_10 (by decide) ?_
  refine lv_ladd hx hb dX7_add_11 ?_
  refine rc_topl 3260174685420466734 (by decide) ?_
  refine rc_put hx hb hown hAm hw lyX7 tyX7 tyX7_ok nmX7 0 rfl rfl 16 (by decide) qw_876 (fun _ h9 => h9) rfl rfl (by decide +kernel) (Nat.le_of_ble_eq_true rfl) [(h0, .inr (12, [.int 0, .ref h1, .ref h2, .ref h3, .ref h4, .ref h5, .int 1, .int 3, .int 50, .int (-1), .int (-1), .int (-1), .int (-1), .int 0, .int 100, .int 1000, .long 3260174685420466734]))] rfl dX7_add_12 (fun H locs hw => ?_)
  exact rc_vret hx hb hr hlocks hw [(h0, .inr (12, [.int 0, .ref h1, .ref h2, .ref h3, .ref h4, .ref h5, .int 1, .int 3, .int 50, .int (-1), .int (-1), .int (-1), .int (-1), .int 0, .int 100, .int 1000, .long 3260174685420466734]))] (rfl) [0] rfl (by decide) (Nat.le_of_ble_eq_true rfl) (Nat.le_of_ble_eq_true rfl) dX7_add_15
set_option maxHeartbeats 4000000 in
set_option maxRecDepth 100000 in
theorem cw_X7_sample_8 (l : Launch) (E : rc_E) (sz : Nat) (h0 : Nat) (h1 : Nat) (h2 : Nat) (h3 : Nat) (h4 : Nat) (h5 : Nat) : rc_Mr l yX7_sample [Cond.code yX7_sample cX7_sample 6 (some (FieldType.array FieldType.int))] { frames := 3, cells := 2, slots := 6, locals := 86 } E [.ref h0, .int 0, .int (-1)] [(h0, .inr (12, [.int 0, .ref h1, .ref h2, .ref h3, .ref h4, .ref h5, .int 1, .int 3, .int 50, .int (-1), .int (-1), .int (-1), .int (-1), .int 0, .int 100, .int 1000, .long 3260174685420466734])), (h3, .inr (4, [.int 0, .ref (E.2.2 0), .int 0]))] sz (S := va_W) (fun (u : va_W) (r : Nat) => (∃ q2 : Nat, q2 = r ∧ u = [(h0, .inr (12, [.int 0, .ref h1, .ref h2, .ref h3, .ref h4, .ref h5, .int 1, .int 3, .int 50, .int (-1), .int (-1), .int (-1), .int (-1), .int 0, .int 100, .int 1000, .long 3260174685420466734])), (h3, .inr (4, [.int 0, .ref (E.2.2 0), .int 0])), (q2, .inl (E.2.1 0, 0, .inl (va_cpy (fun _ => 0) (fun _ => 0) 6 0 0)))])) (fun u => u) 2 6 := by
  refine rc_inr (cc := cX7_sample) (maxL := 6) (ret := (some (FieldType.array FieldType.int))) (by decide) rfl (Nat.le_of_ble_eq_true rfl) ?_
  intro p e s m args below meth c ls A hx hb hr hml _ hown hlocks hin hA hAm hw hl
  have hown : s.vm.findClass RX7 = some m.cls := hown
  have hl : lv_has ls 6 [(0, .ref h0), (1, .int 0), (2, .int (-1))] := hl
  refine lv_bipush (v := 6) hx hb dX7_sample_0 (by decide) ?_
  refine rc_inew hx hb hAm hA hw qw_108 6 (by decide) (by decide) (Nat.le_of_ble_eq_true rfl) (Nat.le_of_ble_eq_true rfl) (Nat.le_of_ble_eq_true rfl) dX7_sample_2 (fun q1 H hw => ?_)
  have hw : rc_W E A s [(h0, .inr (12, [.int 0, .ref h1, .ref h2, .ref h3, .ref h4, .ref h5, .int 1, .int 3, .int 50, .int (-1), .int (-1), .int (-1), .int (-1), .int 0, .int 100, .int 1000, .long 3260174685420466734])), (h3, .inr (4, [.int 0, .ref (E.2.2 0), .int 0])), (q1, .inl (E.2.1 0, 6, .inl (fun _ => 0)))] H _ := hw
  refine lv_astore_n (lv' := [(3, .ref q1), (0, .ref h0), (1, .int 0), (2, .int (-1))]) hx hb dX7_sample_4 rfl hl (by decide) rfl (fun ls hl => ?_)
  refine lv_iconst (v := 0) hx hb dX7_sample_5 (by decide) ?_
  refine lv_istore (lv' := [(4, .int 0), (3, .ref q1), (0, .ref h0), (1, .int 0), (2, .int (-1))]) hx hb dX7_sample_6 hl (by decide) rfl (fun ls hl => ?_)
  refine lv_aload_n hx hb dX7_sample_8 rfl (lv_at hl 2 rfl) ?_
  refine rc_get (v := .ref h3) hx hb hown hAm hw lyX7 0 rfl rfl 3 (by decide) qw_863 (fun _ h9 => h9) rfl dX7_sample_9 ?_
  refine rc_calli (wr := [(h0, .inr (12, [.int 0, .ref h1, .ref h2, .ref h3, .ref h4, .ref h5, .int 1, .int 3, .int 50, .int (-1), .int (-1), .int (-1), .int (-1), .int 0, .int 100, .int 1000, .long 3260174685420466734])), (q1, .inl (E.2.1 0, 6, .inl (fun _ => 0)))]) (va_runV (As := []) (rest := []) (Ts := []) ⟨hx, hb, hml, hown, fun _ h9 => absurd h9 List.not_mem_nil⟩ (cw_Jx4a65c_size_8abf5 l E _ h3) (rc_cwV hAm qw_928 qw_4 qw_289 qw_287 qw_288 rfl rfl hd_Jx4a65c_size_8abf5 ⟨Nat.le_of_ble_eq_true rfl, Nat.le_of_ble_eq_true rfl⟩) (rc_preV hAm hA hw [1] rfl rfl 1 rfl (q := vwCl[4]) rfl) rfl rfl hl.1 rfl (lv_room (Nat.le_of_ble_eq_true rfl)) dX7_sample_12 ⟨Nat.le_of_ble_eq_true rfl, Nat.le_of_ble_eq_true rfl⟩) hA hw [1] [0, 2] rfl rfl rfl (by decide) (fun r_1 u_2 H locs hp hw => ?_)
  obtain ⟨rfl, rfl⟩ := hp
  have hw : rc_W E A s [(h0, .inr (12, [.int 0, .ref h1, .ref h2, .ref h3, .ref h4, .ref h5, .int 1, .int 3, .int 50, .int (-1), .int (-1), .int (-1), .int (-1), .int 0, .int 100, .int 1000, .long 3260174685420466734])), (q1, .inl (E.2.1 0, 6, .inl (fun _ => 0))), (h3, .inr (4, [.int 0, .ref (E.2.2 0), .int 0]))] H locs := hw
  refine lv_iconst (v := 1) hx hb dX7_sample_15 (by decide) ?_
  refine lv_isub hx hb dX7_sample_16 ?_
  refine rc_topi (-1) (by decide) ?_
  refine lv_istore (lv' := [(5, .int (-1)), (4, .int 0), (3, .ref q1), (0, .ref h0), (1, .int 0), (2, .int (-1))]) hx hb dX7_sample_17 hl (by decide) rfl (fun ls hl => ?_)
  refine lv_iload hx hb dX7_sample_19 (lv_at hl 0 rfl) ?_
  refine lv_if_lt (tgt := 102) hx hb dX7_sample_21 (by decide) (fun _ => ?_) (fun c9 => absurd (by decide) c9)
  refine lv_aload_n hx hb dX7_sample_102 rfl (lv_at hl 2 rfl) ?_
  refine lv_bipush (v := 6) hx hb dX7_sample_103 (by decide) ?_
  refine lv_iload hx hb dX7_sample_105 (lv_at hl 1 rfl) ?_
  refine lv_isub hx hb dX7_sample_107 ?_
  refine rc_topi 6 (by decide) ?_
  refine lv_bipush (v := 6) hx hb dX7_sample_108 (by decide) ?_
  refine rc_callr (wr := [(h0, .inr (12, [.int 0, .ref h1, .ref h2, .ref h3, .ref h4, .ref h5, .int 1, .int 3, .int 50, .int (-1), .int (-1), .int (-1), .int (-1), .int 0, .int 100, .int 1000, .long 3260174685420466734])), (h3, .inr (4, [.int 0, .ref (E.2.2 0), .int 0]))]) (va_runS (As := [.ref q1, .int 6, .int 6]) (rest := []) (Ts := []) ⟨hx, hb, hml, hown, fun _ h9 => absurd h9 List.not_mem_nil⟩ (cw_J7_copyOfRange_feecc l E _ q1) (rc_cwS hAm qw_992 qw_11 qw_994 qw_993 rfl rfl hd_J7_copyOfRange_feecc ⟨Nat.le_of_ble_eq_true rfl, Nat.le_of_ble_eq_true rfl⟩) (rc_preS hAm hA hw [1] rfl rfl) rfl rfl hl.1 rfl (lv_room (Nat.le_of_ble_eq_true rfl)) dX7_sample_110 ⟨Nat.le_of_ble_eq_true rfl, Nat.le_of_ble_eq_true rfl⟩) hA hw [1] [0, 2] rfl rfl rfl (by decide) (fun u_4 r_3 H locs hp hw => ?_)
  obtain ⟨q2, rfl, rfl⟩ := hp
  have hw : rc_W E A s [(h0, .inr (12, [.int 0, .ref h1, .ref h2, .ref h3, .ref h4, .ref h5, .int 1, .int 3, .int 50, .int (-1), .int (-1), .int (-1), .int (-1), .int 0, .int 100, .int 1000, .long 3260174685420466734])), (h3, .inr (4, [.int 0, .ref (E.2.2 0), .int 0])), (q1, .inl (E.2.1 0, 6, .inl (fun _ => 0))), (q2, .inl (E.2.1 0, 0, .inl (va_cpy (fun _ => 0) (fun _ => 0) 6 0 0)))] H locs := hw
  exact rc_aret (v := q2) hx hb hr (by first | exact Or.inl ⟨_, rfl⟩ | exact Or.inr ⟨_, rfl⟩) hlocks hw [(h0, .inr (12, [.int 0, .ref h1, .ref h2, .ref h3, .ref h4, .ref h5, .int 1, .int 3, .int 50, .int (-1), .int (-1), .int (-1), .int (-1), .int 0, .int 100, .int 1000, .long 3260174685420466734])), (h3, .inr (4, [.int 0, .ref (E.2.2 0), .int 0])), (q2, .inl (E.2.1 0, 0, .inl (va_cpy (fun _ => 0) (fun _ => 0) 6 0 0)))] (⟨q2, rfl, rfl⟩) [0, 1, 3] rfl (by decide) (Nat.le_of_ble_eq_true rfl) (Nat.le_of_ble_eq_true rfl) dX7_sample_113
set_option maxHeartbeats 4000000 in
set_option maxRecDepth 100000 in
theorem cw_X7_sample__8 (l : Launch) (E : rc_E) (sz : Nat) (h0 : Nat) (h1 : Nat) (h2 : Nat) (h3 : Nat) (h4 : Nat) (h5 : Nat) : rc_Mr l yX7_sample_ [Cond.code yX7_sample_ cX7_sample_ 2 (some (FieldType.array FieldType.int))] { frames := 4, cells := 2, slots := 6, locals := 111 } E [.ref h0, .int 0] [(h0, .inr (12, [.int 0, .ref h1, .ref h2, .ref h3, .ref h4, .ref h5, .int 1, .int 3, .int 50, .int (-1), .int (-1), .int (-1), .int (-1), .int 0, .int 100, .int 1000, .long 3260174685420466734])), (h3, .inr (4, [.int 0, .ref (E.2.2 0), .int 0]))] sz (S := va_W) (fun (u : va_W) (r : Nat) => (∃ q1 : Nat, q1 = r ∧ u = [(h0, .inr (12, [.int 0, .ref h1, .ref h2, .ref h3, .ref h4, .ref h5, .int 1, .int 3, .int 50, .int (-1), .int (-1), .int (-1), .int (-1), .int 0, .int 100, .int 1000, .long 3260174685420466734])), (h3, .inr (4, [.int 0, .ref (E.2.2 0), .int 0])), (q1, .inl (E.2.1 0, 0, .inl (va_cpy (fun _ => 0) (fun _ => 0) 6 0 0)))])) (fun u => u) 2 6 := by
  refine rc_inr (cc := cX7_sample_) (maxL := 2) (ret := (some (FieldType.array FieldType.int))) (by decide) rfl (Nat.le_of_ble_eq_true rfl) ?_
  intro p e s m args below meth c ls A hx hb hr hml _ hown hlocks hin hA hAm hw hl
  have hown : s.vm.findClass RX7 = some m.cls := hown
  have hl : lv_has ls 2 [(0, .ref h0), (1, .int 0)] := hl
  refine lv_aload_n hx hb dX7_sample__0 rfl (lv_at hl 0 rfl) ?_
  refine lv_iload_n hx hb dX7_sample__1 rfl (lv_at hl 1 rfl) ?_
  refine lv_iconst (v := (-1)) hx hb dX7_sample__2 (by decide) ?_
  refine rc_callr (wr := []) (va_runV (As := [.int 0, .int (-1)]) (rest := []) (Ts := []) ⟨hx, hb, hml, hown, fun _ h9 => absurd h9 List.not_mem_nil⟩ (cw_X7_sample_8 l E _ h0 h1 h2 h3 h4 h5) (rc_cwV hAm qw_971 qw_13 qw_974 qw_973 qs_55 rfl rfl hd_X7_sample ⟨Nat.le_of_ble_eq_true rfl, Nat.le_of_ble_eq_true rfl⟩) (rc_preV hAm hA hw [0, 1] rfl rfl 0 rfl (q := vwCl[12]) rfl) rfl rfl hl.1 rfl (lv_room (Nat.le_of_ble_eq_true rfl)) dX7_sample__3 ⟨Nat.le_of_ble_eq_true rfl, Nat.le_of_ble_eq_true rfl⟩) hA hw [0, 1] [] rfl rfl rfl (by decide) (fun u_2 r_1 H locs hp hw => ?_)
  obtain ⟨q1, rfl, rfl⟩ := hp
  have hw : rc_W E A s [(h0, .inr (12, [.int 0, .ref h1, .ref h2, .ref h3, .ref h4, .ref h5, .int 1, .int 3, .int 50, .int (-1), .int (-1), .int (-1), .int (-1), .int 0, .int 100, .int 1000, .long 3260174685420466734])), (h3, .inr (4, [.int 0, .ref (E.2.2 0), .int 0])), (q1, .inl (E.2.1 0, 0, .inl (va_cpy (fun _ => 0) (fun _ => 0) 6 0 0)))] H locs := hw
  exact rc_aret (v := q1) hx hb hr (by first | exact Or.inl ⟨_, rfl⟩ | exact Or.inr ⟨_, rfl⟩) hlocks hw [(h0, .inr (12, [.int 0, .ref h1, .ref h2, .ref h3, .ref h4, .ref h5, .int 1, .int 3, .int 50, .int (-1), .int (-1), .int (-1), .int (-1), .int 0, .int 100, .int 1000, .long 3260174685420466734])), (h3, .inr (4, [.int 0, .ref (E.2.2 0), .int 0])), (q1, .inl (E.2.1 0, 0, .inl (va_cpy (fun _ => 0) (fun _ => 0) 6 0 0)))] (⟨q1, rfl, rfl⟩) [0, 1, 2] rfl (by decide) (Nat.le_of_ble_eq_true rfl) (Nat.le_of_ble_eq_true rfl) dX7_sample__6
set_option maxHeartbeats 4000000 in
set_option maxRecDepth 100000 in
theorem cw_X7_minutesForNow_2 (l : Launch) (E : rc_E) (sz : Nat) (h0 : Nat) (h1 : Nat) (h2 : Nat) (h3 : Nat) (h4 : Nat) (h5 : Nat) : rc_Mi l yX7_minutesForNow [Cond.code yX7_minutesForNow cX7_minutesForNow 5 (some FieldType.int)] { frames := 5, cells := 2, slots := 6, locals := 132 } E [.ref h0, .int 0] [(h0, .inr (12, [.int 0, .ref h1, .ref h2, .ref h3, .ref h4, .ref h5, .int 1, .int 3, .int 50, .int (-1), .int (-1), .int (-1), .int (-1), .int 0, .int 100, .int 1000, .long 3260174685420466734])), (h2, .inr (4, [.int 0, .ref (E.2.2 0), .int 0])), (h3, .inr (4, [.int 0, .ref (E.2.2 0), .int 0]))] sz (S := va_W) (fun (r : Int32) (u : va_W) => ((-1) = r ∧ u = [(h0, .inr (12, [.int 0, .ref h1, .ref h2, .ref h3, .ref h4, .ref h5, .int 1, .int 3, .int 50, .int (-1), .int (-1), .int (-1), .int (-1), .int 0, .int 100, .int 1000, .long 3260174685420466734])), (h2, .inr (4, [.int 0, .ref (E.2.2 0), .int 0])), (h3, .inr (4, [.int 0, .ref (E.2.2 0), .int 0]))])) (fun u => u) 2 6 := by
  refine rc_ini (cc := cX7_minutesForNow) (maxL := 5) (ret := (some FieldType.int)) (by decide) rfl (Nat.le_of_ble_eq_true rfl) ?_
  intro p e s m args below meth c ls A hx hb hr hml _ hown hlocks hin hA hAm hw hl
  have hown : s.vm.findClass RX7 = some m.cls := hown
  have hl : lv_has ls 5 [(0, .ref h0), (1, .int 0)] := hl
  refine lv_bipush (v := 6) hx hb dX7_minutesForNow_0 (by decide) ?_
  refine lv_aload_n hx hb dX7_minutesForNow_2 rfl (lv_at hl 0 rfl) ?_
  refine lv_iload_n hx hb dX7_minutesForNow_3 rfl (lv_at hl 1 rfl) ?_
  refine rc_callr (wr := [(h2, .inr (4, [.int 0, .ref (E.2.2 0), .int 0]))]) (va_runV (As := [.int 0]) (rest := [.int 6]) (Ts := []) ⟨hx, hb, hml, hown, fun _ h9 => absurd h9 List.not_mem_nil⟩ (cw_X7_sample__8 l E _ h0 h1 h2 h3 h4 h5) (rc_cwV hAm qw_967 qw_13 qw_970 qw_969 qs_54 rfl rfl hd_X7_sample_ ⟨Nat.le_of_ble_eq_true rfl, Nat.le_of_ble_eq_true rfl⟩) (rc_preV hAm hA hw [0, 2] rfl rfl 0 rfl (q := vwCl[12]) rfl) rfl rfl hl.1 rfl (lv_room (Nat.le_of_ble_eq_true rfl)) dX7_minutesForNow_4 ⟨Nat.le_of_ble_eq_true rfl, Nat.le_of_ble_eq_true rfl⟩) hA hw [0, 2] [1] rfl rfl rfl (by decide) (fun u_2 r_1 H locs hp hw => ?_)
  obtain ⟨q1, rfl, rfl⟩ := hp
  have hw : rc_W E A s [(h2, .inr (4, [.int 0, .ref (E.2.2 0), .int 0])), (h0, .inr (12, [.int 0, .ref h1, .ref h2, .ref h3, .ref h4, .ref h5, .int 1, .int 3, .int 50, .int (-1), .int (-1), .int (-1), .int (-1), .int 0, .int 100, .int 1000, .long 3260174685420466734])), (h3, .inr (4, [.int 0, .ref (E.2.2 0), .int 0])), (q1, .inl (E.2.1 0, 0, .inl (va_cpy (fun _ => 0) (fun _ => 0) 6 0 0)))] H locs := hw
  refine rc_alen hx hb hAm hw 3 0 rfl rfl 0 rfl dX7_minutesForNow_7 ?_
  refine lv_isub hx hb dX7_minutesForNow_8 ?_
  refine rc_topi 6 (by decide) ?_
  refine lv_istore_n (lv' := [(2, .int 6), (0, .ref h0), (1, .int 0)]) hx hb dX7_minutesForNow_9 rfl hl (by decide) rfl (fun ls hl => ?_)
  refine lv_iconst (v := (-1)) hx hb dX7_minutesForNow_10 (by decide) ?_
  refine lv_istore_n (lv' := [(3, .int (-1)), (2, .int 6), (0, .ref h0), (1, .int 0)]) hx hb dX7_minutesForNow_11 rfl hl (by decide) rfl (fun ls hl => ?_)
  refine lv_iconst (v := 0) hx hb dX7_minutesForNow_12 (by decide) ?_
  refine lv_istore (lv' := [(4, .int 0), (3, .int (-1)), (2, .int 6), (0, .ref h0), (1, .int 0)]) hx hb dX7_minutesForNow_13 hl (by decide) rfl (fun ls hl => ?_)
  refine lv_iload hx hb dX7_minutesForNow_15 (lv_at hl 0 rfl) ?_
  refine lv_aload_n hx hb dX7_minutesForNow_17 rfl (lv_at hl 3 rfl) ?_
  refine rc_get (v := .ref h2) hx hb hown hAm hw lyX7 1 rfl rfl 2 (by decide) qw_862 (fun _ h9 => h9) rfl dX7_minutesForNow_18 ?_
  refine rc_calli (wr := [(h0, .inr (12, [.int 0, .ref h1, .ref h2, .ref h3, .ref h4, .ref h5, .int 1, .int 3, .int 50, .int (-1), .int (-1), .int (-1), .int (-1), .int 0, .int 100, .int 1000, .long 3260174685420466734])), (h3, .inr (4, [.int 0, .ref (E.2.2 0), .int 0])), (q1, .inl (E.2.1 0, 0, .inl (va_cpy (fun _ => 0) (fun _ => 0) 6 0 0)))]) (va_runV (As := []) (rest := [.int 0]) (Ts := []) ⟨hx, hb, hml, hown, fun _ h9 => absurd h9 List.not_mem_nil⟩ (cw_Jx4a65c_size_8abf5 l E _ h2) (rc_cwV hAm qw_928 qw_4 qw_289 qw_287 qw_288 rfl rfl hd_Jx4a65c_size_8abf5 ⟨Nat.le_of_ble_eq_true rfl, Nat.le_of_ble_eq_true rfl⟩) (rc_preV hAm hA hw [0] rfl rfl 0 rfl (q := vwCl[4]) rfl) rfl rfl hl.1 rfl (lv_room (Nat.le_of_ble_eq_true rfl)) dX7_minutesForNow_21 ⟨Nat.le_of_ble_eq_true rfl, Nat.le_of_ble_eq_true rfl⟩) hA hw [0] [1, 2, 3] rfl rfl rfl (by decide) (fun r_3 u_4 H locs hp hw => ?_)
  obtain ⟨rfl, rfl⟩ := hp
  have hw : rc_W E A s [(h0, .inr (12, [.int 0, .ref h1, .ref h2, .ref h3, .ref h4, .ref h5, .int 1, .int 3, .int 50, .int (-1), .int (-1), .int (-1), .int (-1), .int 0, .int 100, .int 1000, .long 3260174685420466734])), (h3, .inr (4, [.int 0, .ref (E.2.2 0), .int 0])), (q1, .inl (E.2.1 0, 0, .inl (va_cpy (fun _ => 0) (fun _ => 0) 6 0 0))), (h2, .inr (4, [.int 0, .ref (E.2.2 0), .int 0]))] H locs := hw
  refine lv_icmp_ge (tgt := 82) hx hb dX7_minutesForNow_24 (by decide) (fun _ => ?_) (fun c9 => absurd (by decide) c9)
  refine lv_iload_n hx hb dX7_minutesForNow_82 rfl (lv_at hl 2 rfl) ?_
  refine lv_if_ne (tgt := 90) hx hb dX7_minutesForNow_83 (by decide) (fun _ => ?_) (fun c9 => absurd c9 (by decide))
  refine lv_iload_n hx hb dX7_minutesForNow_90 rfl (lv_at hl 1 rfl) ?_
  refine lv_iconst (v := (-1)) hx hb dX7_minutesForNow_91 (by decide) ?_
  refine lv_icmp_ne (tgt := 99) hx hb dX7_minutesForNow_92 (by decide) (fun c9 => absurd (by decide) c9) (fun _ => ?_)
  refine lv_iconst (v := (-1)) hx hb dX7_minutesForNow_95 (by decide) ?_
  refine lv_goto (tgt := 102) hx hb dX7_minutesForNow_96 (by decide) ?_
  exact rc_iret (v := (-1)) hx hb hr hlocks hw [(h0, .inr (12, [.int 0, .ref h1, .ref h2, .ref h3, .ref h4, .ref h5, .int 1, .int 3, .int 50, .int (-1), .int (-1), .int (-1), .int (-1), .int 0, .int 100, .int 1000, .long 3260174685420466734])), (h2, .inr (4, [.int 0, .ref (E.2.2 0), .int 0])), (h3, .inr (4, [.int 0, .ref (E.2.2 0), .int 0]))] (⟨rfl, rfl⟩) [0, 3, 1] rfl (by decide) (Nat.le_of_ble_eq_true rfl) (Nat.le_of_ble_eq_true rfl) dX7_minutesForNow_102
set_option maxHeartbeats 4000000 in
set_option maxRecDepth 100000 in
theorem cw_X7_add_16 (l : Launch) (E : rc_E) (sz : Nat) (h0 : Nat) (h1 : Nat) (h2 : Nat) (h3 : Nat) (h4 : Nat) (h5 : Nat) : rc_Mv l yX7_add [Cond.code yX7_add cX7_add 2 (none : Option FieldType)] { frames := 0, cells := 0, slots := 0, locals := 0 } E [.ref h0, .int (-1)] [(h0, .inr (12, [.int 0, .ref h1, .ref h2, .ref h3, .ref h4, .ref h5, .int 1, .int 3, .int 50, .int (-1), .int (-1), .int (-1), .int (-1), .int 0, .int 100, .int 1000, .long 3260174685420466734]))] sz (S := va_W) (fun (u : va_W) => (u = [(h0, .inr (12, [.int 0, .ref h1, .ref h2, .ref h3, .ref h4, .ref h5, .int 1, .int 3, .int 50, .int (-1), .int (-1), .int (-1), .int (-1), .int 0, .int 100, .int 1000, .long 8831694879486710673]))])) (fun u => u) 0 0 := by
  refine rc_inv (cc := cX7_add) (maxL := 2) (ret := (none : Option FieldType)) (by decide) rfl (Nat.le_of_ble_eq_true rfl) ?_
  intro p e s m args below meth c ls A hx hb hr hml _ hown hlocks hin hA hAm hw hl
  have hown : s.vm.findClass RX7 = some m.cls := hown
  have hl : lv_has ls 2 [(0, .ref h0), (1, .int (-1))] := hl
  refine lv_aload_n hx hb dX7_add_0 rfl (lv_at hl 0 rfl) ?_
  refine lv_aload_n hx hb dX7_add_1 rfl (lv_at hl 0 rfl) ?_
  refine rc_get (v := .long 3260174685420466734) hx hb hown hAm hw lyX7 0 rfl rfl 16 (by decide) qw_876 (fun _ h9 => h9) rfl dX7_add_2 ?_
  refine lv_ldc2 (v := 31) hx hb hown (hAm.wd qw_1470 rfl rfl) dX7_add_5 ?_
  refine lv_lmul hx hb dX7_add_8 ?_
  refine rc_topl 8831694879486710674 (by decide) ?_
  refine lv_iload_n hx hb dX7_add_9 rfl (lv_at hl 1 rfl) ?_
  refine lv_i2l (v := (-1)) hx hb dX7_add_10 (by decide) ?_
  refine lv_ladd hx hb dX7_add_11 ?_
  refine rc_topl 8831694879486710673 (by decide) ?_
  refine rc_put hx hb hown hAm hw lyX7 tyX7 tyX7_ok nmX7 0 rfl rfl 16 (by decide) qw_876 (fun _ h9 => h9) rfl rfl (by decide +kernel) (Nat.le_of_ble_eq_true rfl) [(h0, .inr (12, [.int 0, .ref h1, .ref h2, .ref h3, .ref h4, .ref h5, .int 1, .int 3, .int 50, .int (-1), .int (-1), .int (-1), .int (-1), .int 0, .int 100, .int 1000, .long 8831694879486710673]))] rfl dX7_add_12 (fun H locs hw => ?_)
  exact rc_vret hx hb hr hlocks hw [(h0, .inr (12, [.int 0, .ref h1, .ref h2, .ref h3, .ref h4, .ref h5, .int 1, .int 3, .int 50, .int (-1), .int (-1), .int (-1), .int (-1), .int 0, .int 100, .int 1000, .long 8831694879486710673]))] (rfl) [0] rfl (by decide) (Nat.le_of_ble_eq_true rfl) (Nat.le_of_ble_eq_true rfl) dX7_add_15
set_option maxHeartbeats 4000000 in
set_option maxRecDepth 100000 in
theorem cw_X7_ofCaseNow_2 (l : Launch) (E : rc_E) (sz : Nat) (h0 : Nat) (h1 : Nat) (h2 : Nat) (h3 : Nat) (h4 : Nat) (h5 : Nat) : rc_Mi l yX7_ofCaseNow [Cond.code yX7_ofCaseNow cX7_ofCaseNow 2 (some FieldType.int)] { frames := 0, cells := 0, slots := 0, locals := 0 } E [.ref h0, .int 0] [(h0, .inr (12, [.int 0, .ref h1, .ref h2, .ref h3, .ref h4, .ref h5, .int 1, .int 3, .int 50, .int (-1), .int (-1), .int (-1), .int (-1), .int 0, .int 100, .int 1000, .long 8831694879486710673]))] sz (S := va_W) (fun (r : Int32) (u : va_W) => ((-1) = r ∧ u = [(h0, .inr (12, [.int 0, .ref h1, .ref h2, .ref h3, .ref h4, .ref h5, .int 1, .int 3, .int 50, .int (-1), .int (-1), .int (-1), .int (-1), .int 0, .int 100, .int 1000, .long 8831694879486710673]))])) (fun u => u) 0 0 := by
  refine rc_ini (cc := cX7_ofCaseNow) (maxL := 2) (ret := (some FieldType.int)) (by decide) rfl (Nat.le_of_ble_eq_true rfl) ?_
  intro p e s m args below meth c ls A hx hb hr hml _ hown hlocks hin hA hAm hw hl
  have hown : s.vm.findClass RX7 = some m.cls := hown
  have hl : lv_has ls 2 [(0, .ref h0), (1, .int 0)] := hl
  refine lv_iload_n hx hb dX7_ofCaseNow_0 rfl (lv_at hl 1 rfl) ?_
  refine lv_if_ne (tgt := 11) hx hb dX7_ofCaseNow_1 (by decide) (fun c9 => absurd (by decide) c9) (fun _ => ?_)
  refine lv_aload_n hx hb dX7_ofCaseNow_4 rfl (lv_at hl 0 rfl) ?_
  refine rc_get (v := .int (-1)) hx hb hown hAm hw lyX7 0 rfl rfl 9 (by decide) qw_869 (fun _ h9 => h9) rfl dX7_ofCaseNow_5 ?_
  refine lv_goto (tgt := 39) hx hb dX7_ofCaseNow_8 (by decide) ?_
  exact rc_iret (v := (-1)) hx hb hr hlocks hw [(h0, .inr (12, [.int 0, .ref h1, .ref h2, .ref h3, .ref h4, .ref h5, .int 1, .int 3, .int 50, .int (-1), .int (-1), .int (-1), .int (-1), .int 0, .int 100, .int 1000, .long 8831694879486710673]))] (⟨rfl, rfl⟩) [0] rfl (by decide) (Nat.le_of_ble_eq_true rfl) (Nat.le_of_ble_eq_true rfl) dX7_ofCaseNow_39
set_option maxHeartbeats 4000000 in
set_option maxRecDepth 100000 in
theorem cw_X7_add_17 (l : Launch) (E : rc_E) (sz : Nat) (h0 : Nat) (h1 : Nat) (h2 : Nat) (h3 : Nat) (h4 : Nat) (h5 : Nat) : rc_Mv l yX7_add [Cond.code yX7_add cX7_add 2 (none : Option FieldType)] { frames := 0, cells := 0, slots := 0, locals := 0 } E [.ref h0, .int (-1)] [(h0, .inr (12, [.int 0, .ref h1, .ref h2, .ref h3, .ref h4, .ref h5, .int 1, .int 3, .int 50, .int (-1), .int (-1), .int (-1), .int (-1), .int 0, .int 100, .int 1000, .long 8831694879486710673]))] sz (S := va_W) (fun (u : va_W) => (u = [(h0, .inr (12, [.int 0, .ref h1, .ref h2, .ref h3, .ref h4, .ref h5, .int 1, .int 3, .int 50, .int (-1), .int (-1), .int (-1), .int (-1), .int 0, .int 100, .int 1000, .long (-2918619841555243378)]))])) (fun u => u) 0 0 := by
  refine rc_inv (cc := cX7_add) (maxL := 2) (ret := (none : Option FieldType)) (by decide) rfl (Nat.le_of_ble_eq_true rfl) ?_
  intro p e s m args below meth c ls A hx hb hr hml _ hown hlocks hin hA hAm hw hl
  have hown : s.vm.findClass RX7 = some m.cls := hown
  have hl : lv_has ls 2 [(0, .ref h0), (1, .int (-1))] := hl
  refine lv_aload_n hx hb dX7_add_0 rfl (lv_at hl 0 rfl) ?_
  refine lv_aload_n hx hb dX7_add_1 rfl (lv_at hl 0 rfl) ?_
  refine rc_get (v := .long 8831694879486710673) hx hb hown hAm hw lyX7 0 rfl rfl 16 (by decide) qw_876 (fun _ h9 => h9) rfl dX7_add_2 ?_
  refine lv_ldc2 (v := 31) hx hb hown (hAm.wd qw_1470 rfl rfl) dX7_add_5 ?_
  refine lv_lmul hx hb dX7_add_8 ?_
  refine rc_topl (-2918619841555243377) (by decide) ?_
  refine lv_iload_n hx hb dX7_add_9 rfl (lv_at hl 1 rfl) ?_
  refine lv_i2l (v := (-1)) hx hb dX7_add_10 (by decide) ?_
  refine lv_ladd hx hb dX7_add_11 ?_
  refine rc_topl (-2918619841555243378) (by decide) ?_
  refine rc_put hx hb hown hAm hw lyX7 tyX7 tyX7_ok nmX7 0 rfl rfl 16 (by decide) qw_876 (fun _ h9 => h9) rfl rfl (by decide +kernel) (Nat.le_of_ble_eq_true rfl) [(h0, .inr (12, [.int 0, .ref h1, .ref h2, .ref h3, .ref h4, .ref h5, .int 1, .int 3, .int 50, .int (-1), .int (-1), .int (-1), .int (-1), .int 0, .int 100, .int 1000, .long (-2918619841555243378)]))] rfl dX7_add_12 (fun H locs hw => ?_)
  exact rc_vret hx hb hr hlocks hw [(h0, .inr (12, [.int 0, .ref h1, .ref h2, .ref h3, .ref h4, .ref h5, .int 1, .int 3, .int 50, .int (-1), .int (-1), .int (-1), .int (-1), .int 0, .int 100, .int 1000, .long (-2918619841555243378)]))] (rfl) [0] rfl (by decide) (Nat.le_of_ble_eq_true rfl) (Nat.le_of_ble_eq_true rfl) dX7_add_15
set_option maxHeartbeats 4000000 in
set_option maxRecDepth 100000 in
theorem cw_X7_ofCaseNow_3 (l : Launch) (E : rc_E) (sz : Nat) (h0 : Nat) (h1 : Nat) (h2 : Nat) (h3 : Nat) (h4 : Nat) (h5 : Nat) : rc_Mi l yX7_ofCaseNow [Cond.code yX7_ofCaseNow cX7_ofCaseNow 2 (some FieldType.int)] { frames := 0, cells := 0, slots := 0, locals := 0 } E [.ref h0, .int 1] [(h0, .inr (12, [.int 0, .ref h1, .ref h2, .ref h3, .ref h4, .ref h5, .int 1, .int 3, .int 50, .int (-1), .int (-1), .int (-1), .int (-1), .int 0, .int 100, .int 1000, .long (-2918619841555243378)]))] sz (S := va_W) (fun (r : Int32) (u : va_W) => ((-1) = r ∧ u = [(h0, .inr (12, [.int 0, .ref h1, .ref h2, .ref h3, .ref h4, .ref h5, .int 1, .int 3, .int 50, .int (-1), .int (-1), .int (-1), .int (-1), .int 0, .int 100, .int 1000, .long (-2918619841555243378)]))])) (fun u => u) 0 0 := by
  refine rc_ini (cc := cX7_ofCaseNow) (maxL := 2) (ret := (some FieldType.int)) (by decide) rfl (Nat.le_of_ble_eq_true rfl) ?_
  intro p e s m args below meth c ls A hx hb hr hml _ hown hlocks hin hA hAm hw hl
  have hown : s.vm.findClass RX7 = some m.cls := hown
  have hl : lv_has ls 2 [(0, .ref h0), (1, .int 1)] := hl
  refine lv_iload_n hx hb dX7_ofCaseNow_0 rfl (lv_at hl 1 rfl) ?_
  refine lv_if_ne (tgt := 11) hx hb dX7_ofCaseNow_1 (by decide) (fun _ => ?_) (fun c9 => absurd c9 (by decide))
  refine lv_iload_n hx hb dX7_ofCaseNow_11 rfl (lv_at hl 1 rfl) ?_
  refine lv_iconst (v := 1) hx hb dX7_ofCaseNow_12 (by decide) ?_
  refine lv_icmp_ne (tgt := 23) hx hb dX7_ofCaseNow_13 (by decide) (fun c9 => absurd (by decide) c9) (fun _ => ?_)
  refine lv_aload_n hx hb dX7_ofCaseNow_16 rfl (lv_at hl 0 rfl) ?_
  refine rc_get (v := .int (-1)) hx hb hown hAm hw lyX7 0 rfl rfl 10 (by decide) qw_870 (fun _ h9 => h9) rfl dX7_ofCaseNow_17 ?_
  refine lv_goto (tgt := 39) hx hb dX7_ofCaseNow_20 (by decide) ?_
  exact rc_iret (v := (-1)) hx hb hr hlocks hw [(h0, .inr (12, [.int 0, .ref h1, .ref h2, .ref h3, .ref h4, .ref h5, .int 1, .int 3, .int 50, .int (-1), .int (-1), .int (-1), .int (-1), .int 0, .int 100, .int 1000, .long (-2918619841555243378)]))] (⟨rfl, rfl⟩) [0] rfl (by decide) (Nat.le_of_ble_eq_true rfl) (Nat.le_of_ble_eq_true rfl) dX7_ofCaseNow_39
set_option maxHeartbeats 4000000 in
set_option maxRecDepth 100000 in
theorem cw_X7_add_18 (l : Launch) (E : rc_E) (sz : Nat) (h0 : Nat) (h1 : Nat) (h2 : Nat) (h3 : Nat) (h4 : Nat) (h5 : Nat) : rc_Mv l yX7_add [Cond.code yX7_add cX7_add 2 (none : Option FieldType)] { frames := 0, cells := 0, slots := 0, locals := 0 } E [.ref h0, .int (-1)] [(h0, .inr (12, [.int 0, .ref h1, .ref h2, .ref h3, .ref h4, .ref h5, .int 1, .int 3, .int 50, .int (-1), .int (-1), .int (-1), .int (-1), .int 0, .int 100, .int 1000, .long (-2918619841555243378)]))] sz (S := va_W) (fun (u : va_W) => (u = [(h0, .inr (12, [.int 0, .ref h1, .ref h2, .ref h3, .ref h4, .ref h5, .int 1, .int 3, .int 50, .int (-1), .int (-1), .int (-1), .int (-1), .int 0, .int 100, .int 1000, .long 1756505280335213361]))])) (fun u => u) 0 0 := by
  refine rc_inv (cc := cX7_add) (maxL := 2) (ret := (none : Option FieldType)) (by decide) rfl (Nat.le_of_ble_eq_true rfl) ?_
  intro p e s m args below meth c ls A hx hb hr hml _ hown hlocks hin hA hAm hw hl
  have hown : s.vm.findClass RX7 = some m.cls := hown
  have hl : lv_has ls 2 [(0, .ref h0), (1, .int (-1))] := hl
  refine lv_aload_n hx hb dX7_add_0 rfl (lv_at hl 0 rfl) ?_
  refine lv_aload_n hx hb dX7_add_1 rfl (lv_at hl 0 rfl) ?_
  refine rc_get (v := .long (-2918619841555243378)) hx hb hown hAm hw lyX7 0 rfl rfl 16 (by decide) qw_876 (fun _ h9 => h9) rfl dX7_add_2 ?_
  refine lv_ldc2 (v := 31) hx hb hown (hAm.wd qw_1470 rfl rfl) dX7_add_5 ?_
  refine lv_lmul hx hb dX7_add_8 ?_
  refine rc_topl 1756505280335213362 (by decide) ?_
  refine lv_iload_n hx hb dX7_add_9 rfl (lv_at hl 1 rfl) ?_
  refine lv_i2l (v := (-1)) hx hb dX7_add_10 (by decide) ?_
  refine lv_ladd hx hb dX7_add_11 ?_
  refine rc_topl 1756505280335213361 (by decide) ?_
  refine rc_put hx hb hown hAm hw lyX7 tyX7 tyX7_ok nmX7 0 rfl rfl 16 (by decide) qw_876 (fun _ h9 => h9) rfl rfl (by decide +kernel) (Nat.le_of_ble_eq_true rfl) [(h0, .inr (12, [.int 0, .ref h1, .ref h2, .ref h3, .ref h4, .ref h5, .int 1, .int 3, .int 50, .int (-1), .int (-1), .int (-1), .int (-1), .int 0, .int 100, .int 1000, .long 1756505280335213361]))] rfl dX7_add_12 (fun H locs hw => ?_)
  exact rc_vret hx hb hr hlocks hw [(h0, .inr (12, [.int 0, .ref h1, .ref h2, .ref h3, .ref h4, .ref h5, .int 1, .int 3, .int 50, .int (-1), .int (-1), .int (-1), .int (-1), .int 0, .int 100, .int 1000, .long 1756505280335213361]))] (rfl) [0] rfl (by decide) (Nat.le_of_ble_eq_true rfl) (Nat.le_of_ble_eq_true rfl) dX7_add_15
set_option maxHeartbeats 4000000 in
set_option maxRecDepth 100000 in
theorem cw_X7_ofCaseNow_4 (l : Launch) (E : rc_E) (sz : Nat) (h0 : Nat) (h1 : Nat) (h2 : Nat) (h3 : Nat) (h4 : Nat) (h5 : Nat) : rc_Mi l yX7_ofCaseNow [Cond.code yX7_ofCaseNow cX7_ofCaseNow 2 (some FieldType.int)] { frames := 0, cells := 0, slots := 0, locals := 0 } E [.ref h0, .int 2] [(h0, .inr (12, [.int 0, .ref h1, .ref h2, .ref h3, .ref h4, .ref h5, .int 1, .int 3, .int 50, .int (-1), .int (-1), .int (-1), .int (-1), .int 0, .int 100, .int 1000, .long 1756505280335213361]))] sz (S := va_W) (fun (r : Int32) (u : va_W) => ((-1) = r ∧ u = [(h0, .inr (12, [.int 0, .ref h1, .ref h2, .ref h3, .ref h4, .ref h5, .int 1, .int 3, .int 50, .int (-1), .int (-1), .int (-1), .int (-1), .int 0, .int 100, .int 1000, .long 1756505280335213361]))])) (fun u => u) 0 0 := by
  refine rc_ini (cc := cX7_ofCaseNow) (maxL := 2) (ret := (some FieldType.int)) (by decide) rfl (Nat.le_of_ble_eq_true rfl) ?_
  intro p e s m args below meth c ls A hx hb hr hml _ hown hlocks hin hA hAm hw hl
  have hown : s.vm.findClass RX7 = some m.cls := hown
  have hl : lv_has ls 2 [(0, .ref h0), (1, .int 2)] := hl
  refine lv_iload_n hx hb dX7_ofCaseNow_0 rfl (lv_at hl 1 rfl) ?_
  refine lv_if_ne (tgt := 11) hx hb dX7_ofCaseNow_1 (by decide) (fun _ => ?_) (fun c9 => absurd c9 (by decide))
  refine lv_iload_n hx hb dX7_ofCaseNow_11 rfl (lv_at hl 1 rfl) ?_
  refine lv_iconst (v := 1) hx hb dX7_ofCaseNow_12 (by decide) ?_
  refine lv_icmp_ne (tgt := 23) hx hb dX7_ofCaseNow_13 (by decide) (fun _ => ?_) (fun c9 => absurd c9 (by decide))
  refine lv_iload_n hx hb dX7_ofCaseNow_23 rfl (lv_at hl 1 rfl) ?_
  refine lv_iconst (v := 2) hx hb dX7_ofCaseNow_24 (by decide) ?_
  refine lv_icmp_ne (tgt := 35) hx hb dX7_ofCaseNow_25 (by decide) (fun c9 => absurd (by decide) c9) (fun _ => ?_)
  refine lv_aload_n hx hb dX7_ofCaseNow_28 rfl (lv_at hl 0 rfl) ?_
  refine rc_get (v := .int (-1)) hx hb hown hAm hw lyX7 0 rfl rfl 11 (by decide) qw_871 (fun _ h9 => h9) rfl dX7_ofCaseNow_29 ?_
  refine lv_goto (tgt := 39) hx hb dX7_ofCaseNow_32 (by decide) ?_
  exact rc_iret (v := (-1)) hx hb hr hlocks hw [(h0, .inr (12, [.int 0, .ref h1, .ref h2, .ref h3, .ref h4, .ref h5, .int 1, .int 3, .int 50, .int (-1), .int (-1), .int (-1), .int (-1), .int 0, .int 100, .int 1000, .long 1756505280335213361]))] (⟨rfl, rfl⟩) [0] rfl (by decide) (Nat.le_of_ble_eq_true rfl) (Nat.le_of_ble_eq_true rfl) dX7_ofCaseNow_39
set_option maxHeartbeats 4000000 in
set_option maxRecDepth 100000 in
theorem cw_X7_add_19 (l : Launch) (E : rc_E) (sz : Nat) (h0 : Nat) (h1 : Nat) (h2 : Nat) (h3 : Nat) (h4 : Nat) (h5 : Nat) : rc_Mv l yX7_add [Cond.code yX7_add cX7_add 2 (none : Option FieldType)] { frames := 0, cells := 0, slots := 0, locals := 0 } E [.ref h0, .int (-1)] [(h0, .inr (12, [.int 0, .ref h1, .ref h2, .ref h3, .ref h4, .ref h5, .int 1, .int 3, .int 50, .int (-1), .int (-1), .int (-1), .int (-1), .int 0, .int 100, .int 1000, .long 1756505280335213361]))] sz (S := va_W) (fun (u : va_W) => (u = [(h0, .inr (12, [.int 0, .ref h1, .ref h2, .ref h3, .ref h4, .ref h5, .int 1, .int 3, .int 50, .int (-1), .int (-1), .int (-1), .int (-1), .int 0, .int 100, .int 1000, .long (-888568530737040658)]))])) (fun u => u) 0 0 := by
  refine rc_inv (cc := cX7_add) (maxL := 2) (ret := (none : Option FieldType)) (by decide) rfl (Nat.le_of_ble_eq_true rfl) ?_
  intro p e s m args below meth c ls A hx hb hr hml _ hown hlocks hin hA hAm hw hl
  have hown : s.vm.findClass RX7 = some m.cls := hown
  have hl : lv_has ls 2 [(0, .ref h0), (1, .int (-1))] := hl
  refine lv_aload_n hx hb dX7_add_0 rfl (lv_at hl 0 rfl) ?_
  refine lv_aload_n hx hb dX7_add_1 rfl (lv_at hl 0 rfl) ?_
  refine rc_get (v := .long 1756505280335213361) hx hb hown hAm hw lyX7 0 rfl rfl 16 (by decide) qw_876 (fun _ h9 => h9) rfl dX7_add_2 ?_
  refine lv_ldc2 (v := 31) hx hb hown (hAm.wd qw_1470 rfl rfl) dX7_add_5 ?_
  refine lv_lmul hx hb dX7_add_8 ?_
  refine rc_topl (-888568530737040657) (by decide) ?_
  refine lv_iload_n hx hb dX7_add_9 rfl (lv_at hl 1 rfl) ?_
  refine lv_i2l (v := (-1)) hx hb dX7_add_10 (by decide) ?_
  refine lv_ladd hx hb dX7_add_11 ?_
  refine rc_topl (-888568530737040658) (by decide) ?_
  refine rc_put hx hb hown hAm hw lyX7 tyX7 tyX7_ok nmX7 0 rfl rfl 16 (by decide) qw_876 (fun _ h9 => h9) rfl rfl (by decide +kernel) (Nat.le_of_ble_eq_true rfl) [(h0, .inr (12, [.int 0, .ref h1, .ref h2, .ref h3, .ref h4, .ref h5, .int 1, .int 3, .int 50, .int (-1), .int (-1), .int (-1), .int (-1), .int 0, .int 100, .int 1000, .long (-888568530737040658)]))] rfl dX7_add_12 (fun H locs hw => ?_)
  exact rc_vret hx hb hr hlocks hw [(h0, .inr (12, [.int 0, .ref h1, .ref h2, .ref h3, .ref h4, .ref h5, .int 1, .int 3, .int 50, .int (-1), .int (-1), .int (-1), .int (-1), .int 0, .int 100, .int 1000, .long (-888568530737040658)]))] (rfl) [0] rfl (by decide) (Nat.le_of_ble_eq_true rfl) (Nat.le_of_ble_eq_true rfl) dX7_add_15
set_option maxHeartbeats 4000000 in
set_option maxRecDepth 100000 in
theorem cw_X7_ofCaseNow_5 (l : Launch) (E : rc_E) (sz : Nat) (h0 : Nat) (h1 : Nat) (h2 : Nat) (h3 : Nat) (h4 : Nat) (h5 : Nat) : rc_Mi l yX7_ofCaseNow [Cond.code yX7_ofCaseNow cX7_ofCaseNow 2 (some FieldType.int)] { frames := 0, cells := 0, slots := 0, locals := 0 } E [.ref h0, .int 3] [(h0, .inr (12, [.int 0, .ref h1, .ref h2, .ref h3, .ref h4, .ref h5, .int 1, .int 3, .int 50, .int (-1), .int (-1), .int (-1), .int (-1), .int 0, .int 100, .int 1000, .long (-888568530737040658)]))] sz (S := va_W) (fun (r : Int32) (u : va_W) => ((-1) = r ∧ u = [(h0, .inr (12, [.int 0, .ref h1, .ref h2, .ref h3, .ref h4, .ref h5, .int 1, .int 3, .int 50, .int (-1), .int (-1), .int (-1), .int (-1), .int 0, .int 100, .int 1000, .long (-888568530737040658)]))])) (fun u => u) 0 0 := by
  refine rc_ini (cc := cX7_ofCaseNow) (maxL := 2) (ret := (some FieldType.int)) (by decide) rfl (Nat.le_of_ble_eq_true rfl) ?_
  intro p e s m args below meth c ls A hx hb hr hml _ hown hlocks hin hA hAm hw hl
  have hown : s.vm.findClass RX7 = some m.cls := hown
  have hl : lv_has ls 2 [(0, .ref h0), (1, .int 3)] := hl
  refine lv_iload_n hx hb dX7_ofCaseNow_0 rfl (lv_at hl 1 rfl) ?_
  refine lv_if_ne (tgt := 11) hx hb dX7_ofCaseNow_1 (by decide) (fun _ => ?_) (fun c9 => absurd c9 (by decide))
  refine lv_iload_n hx hb dX7_ofCaseNow_11 rfl (lv_at hl 1 rfl) ?_
  refine lv_iconst (v := 1) hx hb dX7_ofCaseNow_12 (by decide) ?_
  refine lv_icmp_ne (tgt := 23) hx hb dX7_ofCaseNow_13 (by decide) (fun _ => ?_) (fun c9 => absurd c9 (by decide))
  refine lv_iload_n hx hb dX7_ofCaseNow_23 rfl (lv_at hl 1 rfl) ?_
  refine lv_iconst (v := 2) hx hb dX7_ofCaseNow_24 (by decide) ?_
  refine lv_icmp_ne (tgt := 35) hx hb dX7_ofCaseNow_25 (by decide) (fun _ => ?_) (fun c9 => absurd c9 (by decide))
  refine lv_aload_n hx hb dX7_ofCaseNow_35 rfl (lv_at hl 0 rfl) ?_
  refine rc_get (v := .int (-1)) hx hb hown hAm hw lyX7 0 rfl rfl 12 (by decide) qw_872 (fun _ h9 => h9) rfl dX7_ofCaseNow_36 ?_
  exact rc_iret (v := (-1)) hx hb hr hlocks hw [(h0, .inr (12, [.int 0, .ref h1, .ref h2, .ref h3, .ref h4, .ref h5, .int 1, .int 3, .int 50, .int (-1), .int (-1), .int (-1), .int (-1), .int 0, .int 100, .int 1000, .long (-888568530737040658)]))] (⟨rfl, rfl⟩) [0] rfl (by decide) (Nat.le_of_ble_eq_true rfl) (Nat.le_of_ble_eq_true rfl) dX7_ofCaseNow_39
set_option maxHeartbeats 4000000 in
set_option maxRecDepth 100000 in
theorem cw_X7_add_20 (l : Launch) (E : rc_E) (sz : Nat) (h0 : Nat) (h1 : Nat) (h2 : Nat) (h3 : Nat) (h4 : Nat) (h5 : Nat) : rc_Mv l yX7_add [Cond.code yX7_add cX7_add 2 (none : Option FieldType)] { frames := 0, cells := 0, slots := 0, locals := 0 } E [.ref h0, .int (-1)] [(h0, .inr (12, [.int 0, .ref h1, .ref h2, .ref h3, .ref h4, .ref h5, .int 1, .int 3, .int 50, .int (-1), .int (-1), .int (-1), .int (-1), .int 0, .int 100, .int 1000, .long (-888568530737040658)]))] sz (S := va_W) (fun (u : va_W) => (u = [(h0, .inr (12, [.int 0, .ref h1, .ref h2, .ref h3, .ref h4, .ref h5, .int 1, .int 3, .int 50, .int (-1), .int (-1), .int (-1), .int (-1), .int 0, .int 100, .int 1000, .long (-9098880379138708783)]))])) (fun u => u) 0 0 := by
  refine rc_inv (cc := cX7_add) (maxL := 2) (ret := (none : Option FieldType)) (by decide) rfl (Nat.le_of_ble_eq_true rfl) ?_
  intro p e s m args below meth c ls A hx hb hr hml _ hown hlocks hin hA hAm hw hl
  have hown : s.vm.findClass RX7 = some m.cls := hown
  have hl : lv_has ls 2 [(0, .ref h0), (1, .int (-1))] := hl
  refine lv_aload_n hx hb dX7_add_0 rfl (lv_at hl 0 rfl) ?_
  refine lv_aload_n hx hb dX7_add_1 rfl (lv_at hl 0 rfl) ?_
  refine rc_get (v := .long (-888568530737040658)) hx hb hown hAm hw lyX7 0 rfl rfl 16 (by decide) qw_876 (fun _ h9 => h9) rfl dX7_add_2 ?_
  refine lv_ldc2 (v := 31) hx hb hown (hAm.wd qw_1470 rfl rfl) dX7_add_5 ?_
  refine lv_lmul hx hb dX7_add_8 ?_
  refine rc_topl (-9098880379138708782) (by decide) ?_
  refine lv_iload_n hx hb dX7_add_9 rfl (lv_at hl 1 rfl) ?_
  refine lv_i2l (v := (-1)) hx hb dX7_add_10 (by decide) ?_
  refine lv_ladd hx hb dX7_add_11 ?_
  refine rc_topl (-9098880379138708783) (by decide) ?_
  refine rc_put hx hb hown hAm hw lyX7 tyX7 tyX7_ok nmX7 0 rfl rfl 16 (by decide) qw_876 (fun _ h9 => h9) rfl rfl (by decide +kernel) (Nat.le_of_ble_eq_true rfl) [(h0, .inr (12, [.int 0, .ref h1, .ref h2, .ref h3, .ref h4, .ref h5, .int 1, .int 3, .int 50, .int (-1), .int (-1), .int (-1), .int (-1), .int 0, .int 100, .int 1000, .long (-9098880379138708783)]))] rfl dX7_add_12 (fun H locs hw => ?_)
  exact rc_vret hx hb hr hlocks hw [(h0, .inr (12, [.int 0, .ref h1, .ref h2, .ref h3, .ref h4, .ref h5, .int 1, .int 3, .int 50, .int (-1), .int (-1), .int (-1), .int (-1), .int 0, .int 100, .int 1000, .long (-9098880379138708783)]))] (rfl) [0] rfl (by decide) (Nat.le_of_ble_eq_true rfl) (Nat.le_of_ble_eq_true rfl) dX7_add_15
set_option maxHeartbeats 4000000 in
set_option maxRecDepth 100000 in
theorem cw_X7_isNext_2 (l : Launch) (E : rc_E) (sz : Nat) (h0 : Nat) (h1 : Nat) (h2 : Nat) (h3 : Nat) (h4 : Nat) (h5 : Nat) : rc_Mi l yX7_isNext [Cond.code yX7_isNext cX7_isNext 3 (some FieldType.boolean)] { frames := 0, cells := 0, slots := 0, locals := 0 } E [.ref h0, .int 0] [(h0, .inr (12, [.int 0, .ref h1, .ref h2, .ref h3, .ref h4, .ref h5, .int 1, .int 3, .int 50, .int (-1), .int (-1), .int (-1), .int (-1), .int 0, .int 100, .int 1000, .long (-9098880379138708783)]))] sz (S := va_W) (fun (r : Int32) (u : va_W) => (0 = r ∧ u = [(h0, .inr (12, [.int 0, .ref h1, .ref h2, .ref h3, .ref h4, .ref h5, .int 1, .int 3, .int 50, .int (-1), .int (-1), .int (-1), .int (-1), .int 0, .int 100, .int 1000, .long (-9098880379138708783)]))])) (fun u => u) 0 0 := by
  refine rc_ini (cc := cX7_isNext) (maxL := 3) (ret := (some FieldType.boolean)) (by decide) rfl (Nat.le_of_ble_eq_true rfl) ?_
  intro p e s m args below meth c ls A hx hb hr hml _ hown hlocks hin hA hAm hw hl
  have hown : s.vm.findClass RX7 = some m.cls := hown
  have hl : lv_has ls 3 [(0, .ref h0), (1, .int 0)] := hl
  refine lv_iload_n hx hb dX7_isNext_0 rfl (lv_at hl 1 rfl) ?_
  refine lv_iconst (v := 1) hx hb dX7_isNext_1 (by decide) ?_
  refine lv_iadd hx hb dX7_isNext_2 ?_
  refine rc_topi 1 (by decide) ?_
  refine lv_aload_n hx hb dX7_isNext_3 rfl (lv_at hl 0 rfl) ?_
  refine rc_get (v := .int 1) hx hb hown hAm hw lyX7 0 rfl rfl 6 (by decide) qw_866 (fun _ h9 => h9) rfl dX7_isNext_4 ?_
  refine lv_icmp_ne (tgt := 12) hx hb dX7_isNext_7 (by decide) (fun c9 => absurd (by decide) c9) (fun _ => ?_)
  refine lv_iconst (v := 0) hx hb dX7_isNext_10 (by decide) ?_
  exact rc_zret (v := 0) hx hb hr hlocks hw rfl [(h0, .inr (12, [.int 0, .ref h1, .ref h2, .ref h3, .ref h4, .ref h5, .int 1, .int 3, .int 50, .int (-1), .int (-1), .int (-1), .int (-1), .int 0, .int 100, .int 1000, .long (-9098880379138708783)]))] (⟨rfl, rfl⟩) [0] rfl (by decide) (Nat.le_of_ble_eq_true rfl) (Nat.le_of_ble_eq_true rfl) dX7_isNext_11
set_option maxHeartbeats 4000000 in
set_option maxRecDepth 100000 in
theorem cw_X7_moved_2 (l : Launch) (E : rc_E) (sz : Nat) (h0 : Nat) (h1 : Nat) (h2 : Nat) (h3 : Nat) (h4 : Nat) (h5 : Nat) : rc_Mi l yX7_moved [Cond.code yX7_moved cX7_moved 3 (some FieldType.int)] { frames := 1, cells := 0, slots := 0, locals := 22 } E [.ref h0, .int 0] [(h0, .inr (12, [.int 0, .ref h1, .ref h2, .ref h3, .ref h4, .ref h5, .int 1, .int 3, .int 50, .int (-1), .int (-1), .int (-1), .int (-1), .int 0, .int 100, .int 1000, .long (-9098880379138708783)]))] sz (S := va_W) (fun (r : Int32) (u : va_W) => (0 = r ∧ u = [(h0, .inr (12, [.int 0, .ref h1, .ref h2, .ref h3, .ref h4, .ref h5, .int 1, .int 3, .int 50, .int (-1), .int (-1), .int (-1), .int (-1), .int 0, .int 100, .int 1000, .long (-9098880379138708783)]))])) (fun u => u) 0 0 := by
  refine rc_ini (cc := cX7_moved) (maxL := 3) (ret := (some FieldType.int)) (by decide) rfl (Nat.le_of_ble_eq_true rfl) ?_
  intro p e s m args below meth c ls A hx hb hr hml _ hown hlocks hin hA hAm hw hl
  have hown : s.vm.findClass RX7 = some m.cls := hown
  have hl : lv_has ls 3 [(0, .ref h0), (1, .int 0)] := hl
  refine lv_iload_n hx hb dX7_moved_0 rfl (lv_at hl 1 rfl) ?_
  refine lv_istore_n (lv' := [(2, .int 0), (0, .ref h0), (1, .int 0)]) hx hb dX7_moved_1 rfl hl (by decide) rfl (fun ls hl => ?_)
  refine lv_aload_n hx hb dX7_moved_2 rfl (lv_at hl 1 rfl) ?_
  refine lv_iload_n hx hb dX7_moved_3 rfl (lv_at hl 0 rfl) ?_
  refine rc_calli (wr := []) (va_runV (As := [.int 0]) (rest := []) (Ts := []) ⟨hx, hb, hml, hown, fun _ h9 => absurd h9 List.not_mem_nil⟩ (cw_X7_isNext_2 l E _ h0 h1 h2 h3 h4 h5) (rc_cwV hAm qw_1417 qw_13 qw_1420 qw_1419 qs_68 rfl rfl hd_X7_isNext ⟨Nat.le_of_ble_eq_true rfl, Nat.le_of_ble_eq_true rfl⟩) (rc_preV hAm hA hw [0] rfl rfl 0 rfl (q := vwCl[12]) rfl) rfl rfl hl.1 rfl (lv_room (Nat.le_of_ble_eq_true rfl)) dX7_moved_4 ⟨Nat.le_of_ble_eq_true rfl, Nat.le_of_ble_eq_true rfl⟩) hA hw [0] [] rfl rfl rfl (by decide) (fun r_1 u_2 H locs hp hw => ?_)
  obtain ⟨rfl, rfl⟩ := hp
  have hw : rc_W E A s [(h0, .inr (12, [.int 0, .ref h1, .ref h2, .ref h3, .ref h4, .ref h5, .int 1, .int 3, .int 50, .int (-1), .int (-1), .int (-1), .int (-1), .int 0, .int 100, .int 1000, .long (-9098880379138708783)]))] H locs := hw
  refine lv_if_eq (tgt := 16) hx hb dX7_moved_7 (by decide) (fun _ => ?_) (fun c9 => absurd (by decide) c9)
  refine lv_iload_n hx hb dX7_moved_16 rfl (lv_at hl 0 rfl) ?_
  exact rc_iret (v := 0) hx hb hr hlocks hw [(h0, .inr (12, [.int 0, .ref h1, .ref h2, .ref h3, .ref h4, .ref h5, .int 1, .int 3, .int 50, .int (-1), .int (-1), .int (-1), .int (-1), .int 0, .int 100, .int 1000, .long (-9098880379138708783)]))] (⟨rfl, rfl⟩) [0] rfl (by decide) (Nat.le_of_ble_eq_true rfl) (Nat.le_of_ble_eq_true rfl) dX7_moved_17
set_option maxHeartbeats 4000000 in
set_option maxRecDepth 100000 in
theorem cw_X7_add_21 (l : Launch) (E : rc_E) (sz : Nat) (h0 : Nat) (h1 : Nat) (h2 : Nat) (h3 : Nat) (h4 : Nat) (h5 : Nat) : rc_Mv l yX7_add [Cond.code yX7_add cX7_add 2 (none : Option FieldType)] { frames := 0, cells := 0, slots := 0, locals := 0 } E [.ref h0, .int 0] [(h0, .inr (12, [.int 0, .ref h1, .ref h2, .ref h3, .ref h4, .ref h5, .int 1, .int 3, .int 50, .int (-1), .int (-1), .int (-1), .int (-1), .int 0, .int 100, .int 1000, .long (-9098880379138708783)]))] sz (S := va_W) (fun (u : va_W) => (u = [(h0, .inr (12, [.int 0, .ref h1, .ref h2, .ref h3, .ref h4, .ref h5, .int 1, .int 3, .int 50, .int (-1), .int (-1), .int (-1), .int (-1), .int 0, .int 100, .int 1000, .long (-5364130647656698033)]))])) (fun u => u) 0 0 := by
  refine rc_inv (cc := cX7_add) (maxL := 2) (ret := (none : Option FieldType)) (by decide) rfl (Nat.le_of_ble_eq_true rfl) ?_
  intro p e s m args below meth c ls A hx hb hr hml _ hown hlocks hin hA hAm hw hl
  have hown : s.vm.findClass RX7 = some m.cls := hown
  have hl : lv_has ls 2 [(0, .ref h0), (1, .int 0)] := hl
  refine lv_aload_n hx hb dX7_add_0 rfl (lv_at hl 0 rfl) ?_
  refine lv_aload_n hx hb dX7_add_1 rfl (lv_at hl 0 rfl) ?_
  refine rc_get (v := .long (-9098880379138708783)) hx hb hown hAm hw lyX7 0 rfl rfl 16 (by decide) qw_876 (fun _ h9 => h9) rfl dX7_add_2 ?_
  refine lv_ldc2 (v := 31) hx hb hown (hAm.wd qw_1470 rfl rfl) dX7_add_5 ?_
  refine lv_lmul hx hb dX7_add_8 ?_
  refine rc_topl (-5364130647656698033) (by decide) ?_
  refine lv_iload_n hx hb dX7_add_9 rfl (lv_at hl 1 rfl) ?_
  refine lv_i2l (v := 0) hx hb dX7_add_10 (by decide) ?_
  refine lv_ladd hx hb dX7_add_11 ?_
  refine rc_topl (-5364130647656698033) (by decide) ?_
  refine rc_put hx hb hown hAm hw lyX7 tyX7 tyX7_ok nmX7 0 rfl rfl 16 (by decide) qw_876 (fun _ h9 => h9) rfl rfl (by decide +kernel) (Nat.le_of_ble_eq_true rfl) [(h0, .inr (12, [.int 0, .ref h1, .ref h2, .ref h3, .ref h4, .ref h5, .int 1, .int 3, .int 50, .int (-1), .int (-1), .int (-1), .int (-1), .int 0, .int 100, .int 1000, .long (-5364130647656698033)]))] rfl dX7_add_12 (fun H locs hw => ?_)
  exact rc_vret hx hb hr hlocks hw [(h0, .inr (12, [.int 0, .ref h1, .ref h2, .ref h3, .ref h4, .ref h5, .int 1, .int 3, .int 50, .int (-1), .int (-1), .int (-1), .int (-1), .int 0, .int 100, .int 1000, .long (-5364130647656698033)]))] (rfl) [0] rfl (by decide) (Nat.le_of_ble_eq_true rfl) (Nat.le_of_ble_eq_true rfl) dX7_add_15
set_option maxHeartbeats 4000000 in
set_option maxRecDepth 100000 in
theorem cw_X7_digest (l : Launch) (E : rc_E) (sz : Nat) (h0 : Nat) (h1 : Nat) (h2 : Nat) (h3 : Nat) (h4 : Nat) (h5 : Nat) : rc_Ml l yX7_digest [Cond.code yX7_digest cX7_digest 3 (some FieldType.long)] { frames := 6, cells := 21, slots := 70, locals := 157 } E [.ref h0] [(h0, .inr (12, [.int 0, .ref h1, .ref h2, .ref h3, .ref h4, .ref h5, .int 1, .int 3, .int 50, .int (-1), .int (-1), .int (-1), .int (-1), .int 0, .int 100, .int 1000, .long 0])), (h2, .inr (4, [.int 0, .ref (E.2.2 0), .int 0])), (h3, .inr (4, [.int 0, .ref (E.2.2 0), .int 0])), (h4, .inl (E.2.1 3, 40, .inl (fun _ => 0))), (h5, .inl (E.2.1 3, 40, .inl (fun _ => 0)))] sz (S := va_W) (fun (r : Int64) (u : va_W) => ((-5364130647656698033) = r ∧ u = [(h0, .inr (12, [.int 0, .ref h1, .ref h2, .ref h3, .ref h4, .ref h5, .int 1, .int 3, .int 50, .int (-1), .int (-1), .int (-1), .int (-1), .int 0, .int 100, .int 1000, .long (-5364130647656698033)])), (h2, .inr (4, [.int 0, .ref (E.2.2 0), .int 0])), (h3, .inr (4, [.int 0, .ref (E.2.2 0), .int 0])), (h4, .inl (E.2.1 3, 40, .inl (fun _ => 0))), (h5, .inl (E.2.1 3, 40, .inl (fun _ => 0)))])) (fun u => u) 21 70 := by
  refine rc_inl (cc := cX7_digest) (maxL := 3) (ret := (some FieldType.long)) (by decide) rfl (Nat.le_of_ble_eq_true rfl) ?_
  intro p e s m args below meth c ls A hx hb hr hml _ hown hlocks hin hA hAm hw hl
  have hown : s.vm.findClass RX7 = some m.cls := hown
  have hl : lv_has ls 3 [(0, .ref h0)] := hl
  refine lv_aload_n hx hb dX7_digest_0 rfl (lv_at hl 0 rfl) ?_
  refine lv_iconst (v := 0) hx hb dX7_digest_1 (by decide) ?_
  refine rc_put hx hb hown hAm hw lyX7 tyX7 tyX7_ok nmX7 0 rfl rfl 0 (by decide) qw_860 (fun _ h9 => h9) rfl rfl (by decide +kernel) (Nat.le_of_ble_eq_true rfl) [(h0, .inr (12, [.int 0, .ref h1, .ref h2, .ref h3, .ref h4, .ref h5, .int 1, .int 3, .int 50, .int (-1), .int (-1), .int (-1), .int (-1), .int 0, .int 100, .int 1000, .long 0])), (h2, .inr (4, [.int 0, .ref (E.2.2 0), .int 0])), (h3, .inr (4, [.int 0, .ref (E.2.2 0), .int 0])), (h4, .inl (E.2.1 3, 40, .inl (fun _ => 0))), (h5, .inl (E.2.1 3, 40, .inl (fun _ => 0)))] rfl dX7_digest_2 (fun H locs hw => ?_)
  refine lv_aload_n hx hb dX7_digest_5 rfl (lv_at hl 0 rfl) ?_
  refine lv_ldc2 (v := 5750) hx hb hown (hAm.wd qw_1465 rfl rfl) dX7_digest_6 ?_
  refine rc_put hx hb hown hAm hw lyX7 tyX7 tyX7_ok nmX7 0 rfl rfl 16 (by decide) qw_876 (fun _ h9 => h9) rfl rfl (by decide +kernel) (Nat.le_of_ble_eq_true rfl) [(h0, .inr (12, [.int 0, .ref h1, .ref h2, .ref h3, .ref h4, .ref h5, .int 1, .int 3, .int 50, .int (-1), .int (-1), .int (-1), .int (-1), .int 0, .int 100, .int 1000, .long 5750])), (h2, .inr (4, [.int 0, .ref (E.2.2 0), .int 0])), (h3, .inr (4, [.int 0, .ref (E.2.2 0), .int 0])), (h4, .inl (E.2.1 3, 40, .inl (fun _ => 0))), (h5, .inl (E.2.1 3, 40, .inl (fun _ => 0)))] rfl dX7_digest_9 (fun H locs hw => ?_)
  refine lv_iconst (v := 0) hx hb dX7_digest_12 (by decide) ?_
  refine lv_istore_n (lv' := [(1, .int 0), (0, .ref h0)]) hx hb dX7_digest_13 rfl hl (by decide) rfl (fun ls hl => ?_)
  refine lv_iload_n hx hb dX7_digest_14 rfl (lv_at hl 0 rfl) ?_
  refine lv_bipush (v := 9) hx hb dX7_digest_15 (by decide) ?_
  refine lv_icmp_ge (tgt := 35) hx hb dX7_digest_17 (by decide) (fun c9 => absurd c9 (by decide)) (fun _ => ?_)
  refine lv_aload_n hx hb dX7_digest_20 rfl (lv_at hl 1 rfl) ?_
  refine lv_aload_n hx hb dX7_digest_21 rfl (lv_at hl 1 rfl) ?_
  refine lv_iload_n hx hb dX7_digest_22 rfl (lv_at hl 0 rfl) ?_
  refine rc_calli (wr := [(h3, .inr (4, [.int 0, .ref (E.2.2 0), .int 0])), (h4, .inl (E.2.1 3, 40, .inl (fun _ => 0))), (h5, .inl (E.2.1 3, 40, .inl (fun _ => 0)))]) (va_runV (As := [.int 0]) (rest := [.ref h0]) (Ts := []) ⟨hx, hb, hml, hown, fun _ h9 => absurd h9 List.not_mem_nil⟩ (cw_X7_manyNow_2 l E _ h0 h1 h2 h3 h4 h5) (rc_cwV hAm qw_1433 qw_13 qw_1436 qw_1435 qs_69 rfl rfl hd_X7_manyNow ⟨Nat.le_of_ble_eq_true rfl, Nat.le_of_ble_eq_true rfl⟩) (rc_preV hAm hA hw [0, 1] rfl rfl 0 rfl (q := vwCl[12]) rfl) rfl rfl hl.1 rfl (lv_room (Nat.le_of_ble_eq_true rfl)) dX7_digest_23 ⟨Nat.le_of_ble_eq_true rfl, Nat.le_of_ble_eq_true rfl⟩) hA hw [0, 1] [2, 3, 4] rfl rfl rfl (by decide) (fun r_1 u_2 H locs hp hw => ?_)
  obtain ⟨rfl, rfl⟩ := hp
  have hw : rc_W E A s [(h3, .inr (4, [.int 0, .ref (E.2.2 0), .int 0])), (h4, .inl (E.2.1 3, 40, .inl (fun _ => 0))), (h5, .inl (E.2.1 3, 40, .inl (fun _ => 0))), (h0, .inr (12, [.int 0, .ref h1, .ref h2, .ref h3, .ref h4, .ref h5, .int 1, .int 3, .int 50, .int (-1), .int (-1), .int (-1), .int (-1), .int 0, .int 100, .int 1000, .long 5750])), (h2, .inr (4, [.int 0, .ref (E.2.2 0), .int 0]))] H locs := hw
  refine rc_callv (wr := [(h3, .inr (4, [.int 0, .ref (E.2.2 0), .int 0])), (h4, .inl (E.2.1 3, 40, .inl (fun _ => 0))), (h5, .inl (E.2.1 3, 40, .inl (fun _ => 0))), (h2, .inr (4, [.int 0, .ref (E.2.2 0), .int 0]))]) (va_runV (As := [.int 0]) (rest := []) (Ts := []) ⟨hx, hb, hml, hown, fun _ h9 => absurd h9 List.not_mem_nil⟩ (cw_X7_add l E _ h0 h1 h2 h3 h4 h5) (rc_cwV hAm qw_1466 qw_13 qw_1469 qw_1468 qs_72 rfl rfl hd_X7_add ⟨Nat.le_of_ble_eq_true rfl, Nat.le_of_ble_eq_true rfl⟩) (rc_preV hAm hA hw [3] rfl rfl 3 rfl (q := vwCl[12]) rfl) rfl rfl hl.1 rfl (lv_room (Nat.le_of_ble_eq_true rfl)) dX7_digest_26 ⟨Nat.le_of_ble_eq_true rfl, Nat.le_of_ble_eq_true rfl⟩) hA hw [3] [0, 1, 2, 4] rfl rfl rfl (by decide) (fun u_4 H locs hp hw => ?_)
  obtain ⟨rfl⟩ := hp
  have hw : rc_W E A s [(h3, .inr (4, [.int 0, .ref (E.2.2 0), .int 0])), (h4, .inl (E.2.1 3, 40, .inl (fun _ => 0))), (h5, .inl (E.2.1 3, 40, .inl (fun _ => 0))), (h2, .inr (4, [.int 0, .ref (E.2.2 0), .int 0])), (h0, .inr (12, [.int 0, .ref h1, .ref h2, .ref h3, .ref h4, .ref h5, .int 1, .int 3, .int 50, .int (-1), .int (-1), .int (-1), .int (-1), .int 0, .int 100, .int 1000, .long 178250]))] H locs := hw
  refine lv_iinc (v := 1) (lv' := [(1, .int 1), (0, .ref h0)]) hx hb dX7_digest_29 hl (k := 0) rfl (by decide) (by decide) rfl (fun ls hl => ?_)
  refine lv_goto (tgt := 14) hx hb dX7_digest_32 (by decide) ?_
  refine lv_iload_n hx hb dX7_digest_14 rfl (lv_at hl 0 rfl) ?_
  refine lv_bipush (v := 9) hx hb dX7_digest_15 (by decide) ?_
  refine lv_icmp_ge (tgt := 35) hx hb dX7_digest_17 (by decide) (fun c9 => absurd c9 (by decide)) (fun _ => ?_)
  refine lv_aload_n hx hb dX7_digest_20 rfl (lv_at hl 1 rfl) ?_
  refine lv_aload_n hx hb dX7_digest_21 rfl (lv_at hl 1 rfl) ?_
  refine lv_iload_n hx hb dX7_digest_22 rfl (lv_at hl 0 rfl) ?_
  refine rc_calli (wr := [(h3, .inr (4, [.int 0, .ref (E.2.2 0), .int 0])), (h4, .inl (E.2.1 3, 40, .inl (fun _ => 0))), (h5, .inl (E.2.1 3, 40, .inl (fun _ => 0))), (h2, .inr (4, [.int 0, .ref (E.2.2 0), .int 0]))]) (va_runV (As := [.int 1]) (rest := [.ref h0]) (Ts := []) ⟨hx, hb, hml, hown, fun _ h9 => absurd h9 List.not_mem_nil⟩ (cw_X7_manyNow_3 l E _ h0 h1 h2 h3 h4 h5) (rc_cwV hAm qw_1433 qw_13 qw_1436 qw_1435 qs_69 rfl rfl hd_X7_manyNow ⟨Nat.le_of_ble_eq_true rfl, Nat.le_of_ble_eq_true rfl⟩) (rc_preV hAm hA hw [4] rfl rfl 4 rfl (q := vwCl[12]) rfl) rfl rfl hl.1 rfl (lv_room (Nat.le_of_ble_eq_true rfl)) dX7_digest_23 ⟨Nat.le_of_ble_eq_true rfl, Nat.le_of_ble_eq_true rfl⟩) hA hw [4] [0, 1, 2, 3] rfl rfl rfl (by decide) (fun r_5 u_6 H locs hp hw => ?_)
  obtain ⟨rfl, rfl⟩ := hp
  have hw : rc_W E A s [(h3, .inr (4, [.int 0, .ref (E.2.2 0), .int 0])), (h4, .inl (E.2.1 3, 40, .inl (fun _ => 0))), (h5, .inl (E.2.1 3, 40, .inl (fun _ => 0))), (h2, .inr (4, [.int 0, .ref (E.2.2 0), .int 0])), (h0, .inr (12, [.int 0, .ref h1, .ref h2, .ref h3, .ref h4, .ref h5, .int 1, .int 3, .int 50, .int (-1), .int (-1), .int (-1), .int (-1), .int 0, .int 100, .int 1000, .long 178250]))] H locs := hw
  refine rc_callv (wr := [(h3, .inr (4, [.int 0, .ref (E.2.2 0), .int 0])), (h4, .inl (E.2.1 3, 40, .inl (fun _ => 0))), (h5, .inl (E.2.1 3, 40, .inl (fun _ => 0))), (h2, .inr (4, [.int 0, .ref (E.2.2 0), .int 0]))]) (va_runV (As := [.int 1]) (rest := []) (Ts := []) ⟨hx, hb, hml, hown, fun _ h9 => absurd h9 List.not_mem_nil⟩ (cw_X7_add_2 l E _ h0 h1 h2 h3 h4 h5) (rc_cwV hAm qw_1466 qw_13 qw_1469 qw_1468 qs_72 rfl rfl hd_X7_add ⟨Nat.le_of_ble_eq_true rfl, Nat.le_of_ble_eq_true rfl⟩) (rc_preV hAm hA hw [4] rfl rfl 4 rfl (q := vwCl[12]) rfl) rfl rfl hl.1 rfl (lv_room (Nat.le_of_ble_eq_true rfl)) dX7_digest_26 ⟨Nat.le_of_ble_eq_true rfl, Nat.le_of_ble_eq_true rfl⟩) hA hw [4] [0, 1, 2, 3] rfl rfl rfl (by decide) (fun u_8 H locs hp hw => ?_)
  obtain ⟨rfl⟩ := hp
  have hw : rc_W E A s [(h3, .inr (4, [.int 0, .ref (E.2.2 0), .int 0])), (h4, .inl (E.2.1 3, 40, .inl (fun _ => 0))), (h5, .inl (E.2.1 3, 40, .inl (fun _ => 0))), (h2, .inr (4, [.int 0, .ref (E.2.2 0), .int 0])), (h0, .inr (12, [.int 0, .ref h1, .ref h2, .ref h3, .ref h4, .ref h5, .int 1, .int 3, .int 50, .int (-1), .int (-1), .int (-1), .int (-1), .int 0, .int 100, .int 1000, .long 5525751]))] H locs := hw
  refine lv_iinc (v := 2) (lv' := [(1, .int 2), (0, .ref h0)]) hx hb dX7_digest_29 hl (k := 0) rfl (by decide) (by decide) rfl (fun ls hl => ?_)
  refine lv_goto (tgt := 14) hx hb dX7_digest_32 (by decide) ?_
  refine lv_iload_n hx hb dX7_digest_14 rfl (lv_at hl 0 rfl) ?_
  refine lv_bipush (v := 9) hx hb dX7_digest_15 (by decide) ?_
  refine lv_icmp_ge (tgt := 35) hx hb dX7_digest_17 (by decide) (fun c9 => absurd c9 (by decide)) (fun _ => ?_)
  refine lv_aload_n hx hb dX7_digest_20 rfl (lv_at hl 1 rfl) ?_
  refine lv_aload_n hx hb dX7_digest_21 rfl (lv_at hl 1 rfl) ?_
  refine lv_iload_n hx hb dX7_digest_22 rfl (lv_at hl 0 rfl) ?_
  refine rc_calli (wr := [(h4, .inl (E.2.1 3, 40, .inl (fun _ => 0))), (h5, .inl (E.2.1 3, 40, .inl (fun _ => 0))), (h2, .inr (4, [.int 0, .ref (E.2.2 0), .int 0]))]) (va_runV (As := [.int 2]) (rest := [.ref h0]) (Ts := []) ⟨hx, hb, hml, hown, fun _ h9 => absurd h9 List.not_mem_nil⟩ (cw_X7_manyNow_4 l E _ h0 h1 h2 h3 h4 h5) (rc_cwV hAm qw_1433 qw_13 qw_1436 qw_1435 qs_69 rfl rfl hd_X7_manyNow ⟨Nat.le_of_ble_eq_true rfl, Nat.le_of_ble_eq_true rfl⟩) (rc_preV hAm hA hw [4, 0] rfl rfl 4 rfl (q := vwCl[12]) rfl) rfl rfl hl.1 rfl (lv_room (Nat.le_of_ble_eq_true rfl)) dX7_digest_23 ⟨Nat.le_of_ble_eq_true rfl, Nat.le_of_ble_eq_true rfl⟩) hA hw [4, 0] [1, 2, 3] rfl rfl rfl (by decide) (fun r_9 u_10 H locs hp hw => ?_)
  obtain ⟨rfl, rfl⟩ := hp
  have hw : rc_W E A s [(h4, .inl (E.2.1 3, 40, .inl (fun _ => 0))), (h5, .inl (E.2.1 3, 40, .inl (fun _ => 0))), (h2, .inr (4, [.int 0, .ref (E.2.2 0), .int 0])), (h0, .inr (12, [.int 0, .ref h1, .ref h2, .ref h3, .ref h4, .ref h5, .int 1, .int 3, .int 50, .int (-1), .int (-1), .int (-1), .int (-1), .int 0, .int 100, .int 1000, .long 5525751])), (h3, .inr (4, [.int 0, .ref (E.2.2 0), .int 0]))] H locs := hw
  refine rc_callv (wr := [(h4, .inl (E.2.1 3, 40, .inl (fun _ => 0))), (h5, .inl (E.2.1 3, 40, .inl (fun _ => 0))), (h2, .inr (4, [.int 0, .ref (E.2.2 0), .int 0])), (h3, .inr (4, [.int 0, .ref (E.2.2 0), .int 0]))]) (va_runV (As := [.int 0]) (rest := []) (Ts := []) ⟨hx, hb, hml, hown, fun _ h9 => absurd h9 List.not_mem_nil⟩ (cw_X7_add_3 l E _ h0 h1 h2 h3 h4 h5) (rc_cwV hAm qw_1466 qw_13 qw_1469 qw_1468 qs_72 rfl rfl hd_X7_add ⟨Nat.le_of_ble_eq_true rfl, Nat.le_of_ble_eq_true rfl⟩) (rc_preV hAm hA hw [3] rfl rfl 3 rfl (q := vwCl[12]) rfl) rfl rfl hl.1 rfl (lv_room (Nat.le_of_ble_eq_true rfl)) dX7_digest_26 ⟨Nat.le_of_ble_eq_true rfl, Nat.le_of_ble_eq_true rfl⟩) hA hw [3] [0, 1, 2, 4] rfl rfl rfl (by decide) (fun u_12 H locs hp hw => ?_)
  obtain ⟨rfl⟩ := hp
  have hw : rc_W E A s [(h4, .inl (E.2.1 3, 40, .inl (fun _ => 0))), (h5, .inl (E.2.1 3, 40, .inl (fun _ => 0))), (h2, .inr (4, [.int 0, .ref (E.2.2 0), .int 0])), (h3, .inr (4, [.int 0, .ref (E.2.2 0), .int 0])), (h0, .inr (12, [.int 0, .ref h1, .ref h2, .ref h3, .ref h4, .ref h5, .int 1, .int 3, .int 50, .int (-1), .int (-1), .int (-1), .int (-1), .int 0, .int 100, .int 1000, .long 171298281]))] H locs := hw
  refine lv_iinc (v := 3) (lv' := [(1, .int 3), (0, .ref h0)]) hx hb dX7_digest_29 hl (k := 0) rfl (by decide) (by decide) rfl (fun ls hl => ?_)
  refine lv_goto (tgt := 14) hx hb dX7_digest_32 (by decide) ?_
  refine lv_iload_n hx hb dX7_digest_14 rfl (lv_at hl 0 rfl) ?_
  refine lv_bipush (v := 9) hx hb dX7_digest_15 (by decide) ?_
  refine lv_icmp_ge (tgt := 35) hx hb dX7_digest_17 (by decide) (fun c9 => absurd c9 (by decide)) (fun _ => ?_)
  refine lv_aload_n hx hb dX7_digest_20 rfl (lv_at hl 1 rfl) ?_
  refine lv_aload_n hx hb dX7_digest_21 rfl (lv_at hl 1 rfl) ?_
  refine lv_iload_n hx hb dX7_digest_22 rfl (lv_at hl 0 rfl) ?_
  refine rc_calli (wr := [(h4, .inl (E.2.1 3, 40, .inl (fun _ => 0))), (h5, .inl (E.2.1 3, 40, .inl (fun _ => 0))), (h2, .inr (4, [.int 0, .ref (E.2.2 0), .int 0]))]) (va_runV (As := [.int 3]) (rest := [.ref h0]) (Ts := []) ⟨hx, hb, hml, hown, fun _ h9 => absurd h9 List.not_mem_nil⟩ (cw_X7_manyNow_5 l E _ h0 h1 h2 h3 h4 h5) (rc_cwV hAm qw_1433 qw_13 qw_1436 qw_1435 qs_69 rfl rfl hd_X7_manyNow ⟨Nat.le_of_ble_eq_true rfl, Nat.le_of_ble_eq_true rfl⟩) (rc_preV hAm hA hw [4, 3] rfl rfl 4 rfl (q := vwCl[12]) rfl) rfl rfl hl.1 rfl (lv_room (Nat.le_of_ble_eq_true rfl)) dX7_digest_23 ⟨Nat.le_of_ble_eq_true rfl, Nat.le_of_ble_eq_true rfl⟩) hA hw [4, 3] [0, 1, 2] rfl rfl rfl (by decide) (fun r_13 u_14 H locs hp hw => ?_)
  obtain ⟨rfl, rfl⟩ := hp
  have hw : rc_W E A s [(h4, .inl (E.2.1 3, 40, .inl (fun _ => 0))), (h5, .inl (E.2.1 3, 40, .inl (fun _ => 0))), (h2, .inr (4, [.int 0, .ref (E.2.2 0), .int 0])), (h0, .inr (12, [.int 0, .ref h1, .ref h2, .ref h3, .ref h4, .ref h5, .int 1, .int 3, .int 50, .int (-1), .int (-1), .int (-1), .int (-1), .int 0, .int 100, .int 1000, .long 171298281])), (h3, .inr (4, [.int 0, .ref (E.2.2 0), .int 0]))] H locs := hw
  refine rc_callv (wr := [(h4, .inl (E.2.1 3, 40, .inl (fun _ => 0))), (h5, .inl (E.2.1 3, 40, .inl (fun _ => 0))), (h2, .inr (4, [.int 0, .ref (E.2.2 0), .int 0])), (h3, .inr (4, [.int 0, .ref (E.2.2 0), .int 0]))]) (va_runV (As := [.int 0]) (rest := []) (Ts := []) ⟨hx, hb, hml, hown, fun _ h9 => absurd h9 List.not_mem_nil⟩ (cw_X7_add_4 l E _ h0 h1 h2 h3 h4 h5) (rc_cwV hAm qw_1466 qw_13 qw_1469 qw_1468 qs_72 rfl rfl hd_X7_add ⟨Nat.le_of_ble_eq_true rfl, Nat.le_of_ble_eq_true rfl⟩) (rc_preV hAm hA hw [3] rfl rfl 3 rfl (q := vwCl[12]) rfl) rfl rfl hl.1 rfl (lv_room (Nat.le_of_ble_eq_true rfl)) dX7_digest_26 ⟨Nat.le_of_ble_eq_true rfl, Nat.le_of_ble_eq_true rfl⟩) hA hw [3] [0, 1, 2, 4] rfl rfl rfl (by decide) (fun u_16 H locs hp hw => ?_)
  obtain ⟨rfl⟩ := hp
  have hw : rc_W E A s [(h4, .inl (E.2.1 3, 40, .inl (fun _ => 0))), (h5, .inl (E.2.1 3, 40, .inl (fun _ => 0))), (h2, .inr (4, [.int 0, .ref (E.2.2 0), .int 0])), (h3, .inr (4, [.int 0, .ref (E.2.2 0), .int 0])), (h0, .inr (12, [.int 0, .ref h1, .ref h2, .ref h3, .ref h4, .ref h5, .int 1, .int 3, .int 50, .int (-1), .int (-1), .int (-1), .int (-1), .int 0, .int 100, .int 1000, .long 5310246711]))] H locs := hw
  refine lv_iinc (v := 4) (lv' := [(1, .int 4), (0, .ref h0)]) hx hb dX7_digest_29 hl (k := 0) rfl (by decide) (by decide) rfl (fun ls hl => ?_)
  refine lv_goto (tgt := 14) hx hb dX7_digest_32 (by decide) ?_
  refine lv_iload_n hx hb dX7_digest_14 rfl (lv_at hl 0 rfl) ?_
  refine lv_bipush (v := 9) hx hb dX7_digest_15 (by decide) ?_
  refine lv_icmp_ge (tgt := 35) hx hb dX7_digest_17 (by decide) (fun c9 => absurd c9 (by decide)) (fun _ => ?_)
  refine lv_aload_n hx hb dX7_digest_20 rfl (lv_at hl 1 rfl) ?_
  refine lv_aload_n hx hb dX7_digest_21 rfl (lv_at hl 1 rfl) ?_
  refine lv_iload_n hx hb dX7_digest_22 rfl (lv_at hl 0 rfl) ?_
  refine rc_calli (wr := [(h4, .inl (E.2.1 3, 40, .inl (fun _ => 0))), (h5, .inl (E.2.1 3, 40, .inl (fun _ => 0))), (h2, .inr (4, [.int 0, .ref (E.2.2 0), .int 0])), (h3, .inr (4, [.int 0, .ref (E.2.2 0), .int 0]))]) (va_runV (As := [.int 4]) (rest := [.ref h0]) (Ts := []) ⟨hx, hb, hml, hown, fun _ h9 => absurd h9 List.not_mem_nil⟩ (cw_X7_manyNow_6 l E _ h0 h1 h2 h3 h4 h5) (rc_cwV hAm qw_1433 qw_13 qw_1436 qw_1435 qs_69 rfl rfl hd_X7_manyNow ⟨Nat.le_of_ble_eq_true rfl, Nat.le_of_ble_eq_true rfl⟩) (rc_preV hAm hA hw [4] rfl rfl 4 rfl (q := vwCl[12]) rfl) rfl rfl hl.1 rfl (lv_room (Nat.le_of_ble_eq_true rfl)) dX7_digest_23 ⟨Nat.le_of_ble_eq_true rfl, Nat.le_of_ble_eq_true rfl⟩) hA hw [4] [0, 1, 2, 3] rfl rfl rfl (by decide) (fun r_17 u_18 H locs hp hw => ?_)
  obtain ⟨rfl, rfl⟩ := hp
  have hw : rc_W E A s [(h4, .inl (E.2.1 3, 40, .inl (fun _ => 0))), (h5, .inl (E.2.1 3, 40, .inl (fun _ => 0))), (h2, .inr (4, [.int 0, .ref (E.2.2 0), .int 0])), (h3, .inr (4, [.int 0, .ref (E.2.2 0), .int 0])), (h0, .inr (12, [.int 0, .ref h1, .ref h2, .ref h3, .ref h4, .ref h5, .int 1, .int 3, .int 50, .int (-1), .int (-1), .int (-1), .int (-1), .int 0, .int 100, .int 1000, .long 5310246711]))] H locs := hw
  refine rc_callv (wr := [(h4, .inl (E.2.1 3, 40, .inl (fun _ => 0))), (h5, .inl (E.2.1 3, 40, .inl (fun _ => 0))), (h2, .inr (4, [.int 0, .ref (E.2.2 0), .int 0])), (h3, .inr (4, [.int 0, .ref (E.2.2 0), .int 0]))]) (va_runV (As := [.int 1000]) (rest := []) (Ts := []) ⟨hx, hb, hml, hown, fun _ h9 => absurd h9 List.not_mem_nil⟩ (cw_X7_add_5 l E _ h0 h1 h2 h3 h4 h5) (rc_cwV hAm qw_1466 qw_13 qw_1469 qw_1468 qs_72 rfl rfl hd_X7_add ⟨Nat.le_of_ble_eq_true rfl, Nat.le_of_ble_eq_true rfl⟩) (rc_preV hAm hA hw [4] rfl rfl 4 rfl (q := vwCl[12]) rfl) rfl rfl hl.1 rfl (lv_room (Nat.le_of_ble_eq_true rfl)) dX7_digest_26 ⟨Nat.le_of_ble_eq_true rfl, Nat.le_of_ble_eq_true rfl⟩) hA hw [4] [0, 1, 2, 3] rfl rfl rfl (by decide) (fun u_20 H locs hp hw => ?_)
  obtain ⟨rfl⟩ := hp
  have hw : rc_W E A s [(h4, .inl (E.2.1 3, 40, .inl (fun _ => 0))), (h5, .inl (E.2.1 3, 40, .inl (fun _ => 0))), (h2, .inr (4, [.int 0, .ref (E.2.2 0), .int 0])), (h3, .inr (4, [.int 0, .ref (E.2.2 0), .int 0])), (h0, .inr (12, [.int 0, .ref h1, .ref h2, .ref h3, .ref h4, .ref h5, .int 1, .int 3, .int 50, .int (-1), .int (-1), .int (-1), .int (-1), .int 0, .int 100, .int 1000, .long 164617649041]))] H locs := hw
  refine lv_iinc (v := 5) (lv' := [(1, .int 5), (0, .ref h0)]) hx hb dX7_digest_29 hl (k := 0) rfl (by decide) (by decide) rfl (fun ls hl => ?_)
  refine lv_goto (tgt := 14) hx hb dX7_digest_32 (by decide) ?_
  refine lv_iload_n hx hb dX7_digest_14 rfl (lv_at hl 0 rfl) ?_
  refine lv_bipush (v := 9) hx hb dX7_digest_15 (by decide) ?_
  refine lv_icmp_ge (tgt := 35) hx hb dX7_digest_17 (by decide) (fun c9 => absurd c9 (by decide)) (fun _ => ?_)
  refine lv_aload_n hx hb dX7_digest_20 rfl (lv_at hl 1 rfl) ?_
  refine lv_aload_n hx hb dX7_digest_21 rfl (lv_at hl 1 rfl) ?_
  refine lv_iload_n hx hb dX7_digest_22 rfl (lv_at hl 0 rfl) ?_
  refine rc_calli (wr := [(h4, .inl (E.2.1 3, 40, .inl (fun _ => 0))), (h5, .inl (E.2.1 3, 40, .inl (fun _ => 0))), (h2, .inr (4, [.int 0, .ref (E.2.2 0), .int 0])), (h3, .inr (4, [.int 0, .ref (E.2.2 0), .int 0]))]) (va_runV (As := [.int 5]) (rest := [.ref h0]) (Ts := []) ⟨hx, hb, hml, hown, fun _ h9 => absurd h9 List.not_mem_nil⟩ (cw_X7_manyNow_7 l E _ h0 h1 h2 h3 h4 h5) (rc_cwV hAm qw_1433 qw_13 qw_1436 qw_1435 qs_69 rfl rfl hd_X7_manyNow ⟨Nat.le_of_ble_eq_true rfl, Nat.le_of_ble_eq_true rfl⟩) (rc_preV hAm hA hw [4] rfl rfl 4 rfl (q := vwCl[12]) rfl) rfl rfl hl.1 rfl (lv_room (Nat.le_of_ble_eq_true rfl)) dX7_digest_23 ⟨Nat.le_of_ble_eq_true rfl, Nat.le_of_ble_eq_true rfl⟩) hA hw [4] [0, 1, 2, 3] rfl rfl rfl (by decide) (fun r_21 u_22 H locs hp hw => ?_)
  obtain ⟨rfl, rfl⟩ := hp
  have hw : rc_W E A s [(h4, .inl (E.2.1 3, 40, .inl (fun _ => 0))), (h5, .inl (E.2.1 3, 40, .inl (fun _ => 0))), (h2, .inr (4, [.int 0, .ref (E.2.2 0), .int 0])), (h3, .inr (4, [.int 0, .ref (E.2.2 0), .int 0])), (h0, .inr (12, [.int 0, .ref h1, .ref h2, .ref h3, .ref h4, .ref h5, .int 1, .int 3, .int 50, .int (-1), .int (-1), .int (-1), .int (-1), .int 0, .int 100, .int 1000, .long 164617649041]))] H locs := hw
  refine rc_callv (wr := [(h4, .inl (E.2.1 3, 40, .inl (fun _ => 0))), (h5, .inl (E.2.1 3, 40, .inl (fun _ => 0))), (h2, .inr (4, [.int 0, .ref (E.2.2 0), .int 0])), (h3, .inr (4, [.int 0, .ref (E.2.2 0), .int 0]))]) (va_runV (As := [.int 100]) (rest := []) (Ts := []) ⟨hx, hb, hml, hown, fun _ h9 => absurd h9 List.not_mem_nil⟩ (cw_X7_add_6 l E _ h0 h1 h2 h3 h4 h5) (rc_cwV hAm qw_1466 qw_13 qw_1469 qw_1468 qs_72 rfl rfl hd_X7_add ⟨Nat.le_of_ble_eq_true rfl, Nat.le_of_ble_eq_true rfl⟩) (rc_preV hAm hA hw [4] rfl rfl 4 rfl (q := vwCl[12]) rfl) rfl rfl hl.1 rfl (lv_room (Nat.le_of_ble_eq_true rfl)) dX7_digest_26 ⟨Nat.le_of_ble_eq_true rfl, Nat.le_of_ble_eq_true rfl⟩) hA hw [4] [0, 1, 2, 3] rfl rfl rfl (by decide) (fun u_24 H locs hp hw => ?_)
  obtain ⟨rfl⟩ := hp
  have hw : rc_W E A s [(h4, .inl (E.2.1 3, 40, .inl (fun _ => 0))), (h5, .inl (E.2.1 3, 40, .inl (fun _ => 0))), (h2, .inr (4, [.int 0, .ref (E.2.2 0), .int 0])), (h3, .inr (4, [.int 0, .ref (E.2.2 0), .int 0])), (h0, .inr (12, [.int 0, .ref h1, .ref h2, .ref h3, .ref h4, .ref h5, .int 1, .int 3, .int 50, .int (-1), .int (-1), .int (-1), .int (-1), .int 0, .int 100, .int 1000, .long 5103147120371]))] H locs := hw
  refine lv_iinc (v := 6) (lv' := [(1, .int 6), (0, .ref h0)]) hx hb dX7_digest_29 hl (k := 0) rfl (by decide) (by decide) rfl (fun ls hl => ?_)
  refine lv_goto (tgt := 14) hx hb dX7_digest_32 (by decide) ?_
  refine lv_iload_n hx hb dX7_digest_14 rfl (lv_at hl 0 rfl) ?_
  refine lv_bipush (v := 9) hx hb dX7_digest_15 (by decide) ?_
  refine lv_icmp_ge (tgt := 35) hx hb dX7_digest_17 (by decide) (fun c9 => absurd c9 (by decide)) (fun _ => ?_)
  refine lv_aload_n hx hb dX7_digest_20 rfl (lv_at hl 1 rfl) ?_
  refine lv_aload_n hx hb dX7_digest_21 rfl (lv_at hl 1 rfl) ?_
  refine lv_iload_n hx hb dX7_digest_22 rfl (lv_at hl 0 rfl) ?_
  refine rc_calli (wr := [(h4, .inl (E.2.1 3, 40, .inl (fun _ => 0))), (h5, .inl (E.2.1 3, 40, .inl (fun _ => 0))), (h2, .inr (4, [.int 0, .ref (E.2.2 0), .int 0])), (h3, .inr (4, [.int 0, .ref (E.2.2 0), .int 0]))]) (va_runV (As := [.int 6]) (rest := [.ref h0]) (Ts := []) ⟨hx, hb, hml, hown, fun _ h9 => absurd h9 List.not_mem_nil⟩ (cw_X7_manyNow_8 l E _ h0 h1 h2 h3 h4 h5) (rc_cwV hAm qw_1433 qw_13 qw_1436 qw_1435 qs_69 rfl rfl hd_X7_manyNow ⟨Nat.le_of_ble_eq_true rfl, Nat.le_of_ble_eq_true rfl⟩) (rc_preV hAm hA hw [4] rfl rfl 4 rfl (q := vwCl[12]) rfl) rfl rfl hl.1 rfl (lv_room (Nat.le_of_ble_eq_true rfl)) dX7_digest_23 ⟨Nat.le_of_ble_eq_true rfl, Nat.le_of_ble_eq_true rfl⟩) hA hw [4] [0, 1, 2, 3] rfl rfl rfl (by decide) (fun r_25 u_26 H locs hp hw => ?_)
  obtain ⟨rfl, rfl⟩ := hp
  have hw : rc_W E A s [(h4, .inl (E.2.1 3, 40, .inl (fun _ => 0))), (h5, .inl (E.2.1 3, 40, .inl (fun _ => 0))), (h2, .inr (4, [.int 0, .ref (E.2.2 0), .int 0])), (h3, .inr (4, [.int 0, .ref (E.2.2 0), .int 0])), (h0, .inr (12, [.int 0, .ref h1, .ref h2, .ref h3, .ref h4, .ref h5, .int 1, .int 3, .int 50, .int (-1), .int (-1), .int (-1), .int (-1), .int 0, .int 100, .int 1000, .long 5103147120371]))] H locs := hw
  refine rc_callv (wr := [(h4, .inl (E.2.1 3, 40, .inl (fun _ => 0))), (h5, .inl (E.2.1 3, 40, .inl (fun _ => 0))), (h2, .inr (4, [.int 0, .ref (E.2.2 0), .int 0])), (h3, .inr (4, [.int 0, .ref (E.2.2 0), .int 0]))]) (va_runV (As := [.int 0]) (rest := []) (Ts := []) ⟨hx, hb, hml, hown, fun _ h9 => absurd h9 List.not_mem_nil⟩ (cw_X7_add_7 l E _ h0 h1 h2 h3 h4 h5) (rc_cwV hAm qw_1466 qw_13 qw_1469 qw_1468 qs_72 rfl rfl hd_X7_add ⟨Nat.le_of_ble_eq_true rfl, Nat.le_of_ble_eq_true rfl⟩) (rc_preV hAm hA hw [4] rfl rfl 4 rfl (q := vwCl[12]) rfl) rfl rfl hl.1 rfl (lv_room (Nat.le_of_ble_eq_true rfl)) dX7_digest_26 ⟨Nat.le_of_ble_eq_true rfl, Nat.le_of_ble_eq_true rfl⟩) hA hw [4] [0, 1, 2, 3] rfl rfl rfl (by decide) (fun u_28 H locs hp hw => ?_)
  obtain ⟨rfl⟩ := hp
  have hw : rc_W E A s [(h4, .inl (E.2.1 3, 40, .inl (fun _ => 0))), (h5, .inl (E.2.1 3, 40, .inl (fun _ => 0))), (h2, .inr (4, [.int 0, .ref (E.2.2 0), .int 0])), (h3, .inr (4, [.int 0, .ref (E.2.2 0), .int 0])), (h0, .inr (12, [.int 0, .ref h1, .ref h2, .ref h3, .ref h4, .ref h5, .int 1, .int 3, .int 50, .int (-1), .int (-1), .int (-1), .int (-1), .int 0, .int 100, .int 1000, .long 158197560731501]))] H locs := hw
  refine lv_iinc (v := 7) (lv' := [(1, .int 7), (0, .ref h0)]) hx hb dX7_digest_29 hl (k := 0) rfl (by decide) (by decide) rfl (fun ls hl => ?_)
  refine lv_goto (tgt := 14) hx hb dX7_digest_32 (by decide) ?_
  refine lv_iload_n hx hb dX7_digest_14 rfl (lv_at hl 0 rfl) ?_
  refine lv_bipush (v := 9) hx hb dX7_digest_15 (by decide) ?_
  refine lv_icmp_ge (tgt := 35) hx hb dX7_digest_17 (by decide) (fun c9 => absurd c9 (by decide)) (fun _ => ?_)
  refine lv_aload_n hx hb dX7_digest_20 rfl (lv_at hl 1 rfl) ?_
  refine lv_aload_n hx hb dX7_digest_21 rfl (lv_at hl 1 rfl) ?_
  refine lv_iload_n hx hb dX7_digest_22 rfl (lv_at hl 0 rfl) ?_
  refine rc_calli (wr := [(h5, .inl (E.2.1 3, 40, .inl (fun _ => 0))), (h2, .inr (4, [.int 0, .ref (E.2.2 0), .int 0])), (h3, .inr (4, [.int 0, .ref (E.2.2 0), .int 0]))]) (va_runV (As := [.int 7]) (rest := [.ref h0]) (Ts := []) ⟨hx, hb, hml, hown, fun _ h9 => absurd h9 List.not_mem_nil⟩ (cw_X7_manyNow_9 l E _ h0 h1 h2 h3 h4 h5) (rc_cwV hAm qw_1433 qw_13 qw_1436 qw_1435 qs_69 rfl rfl hd_X7_manyNow ⟨Nat.le_of_ble_eq_true rfl, Nat.le_of_ble_eq_true rfl⟩) (rc_preV hAm hA hw [4, 0] rfl rfl 4 rfl (q := vwCl[12]) rfl) rfl rfl hl.1 rfl (lv_room (Nat.le_of_ble_eq_true rfl)) dX7_digest_23 ⟨Nat.le_of_ble_eq_true rfl, Nat.le_of_ble_eq_true rfl⟩) hA hw [4, 0] [1, 2, 3] rfl rfl rfl (by decide) (fun r_29 u_30 H locs hp hw => ?_)
  obtain ⟨rfl, rfl⟩ := hp
  have hw : rc_W E A s [(h5, .inl (E.2.1 3, 40, .inl (fun _ => 0))), (h2, .inr (4, [.int 0, .ref (E.2.2 0), .int 0])), (h3, .inr (4, [.int 0, .ref (E.2.2 0), .int 0])), (h0, .inr (12, [.int 0, .ref h1, .ref h2, .ref h3, .ref h4, .ref h5, .int 1, .int 3, .int 50, .int (-1), .int (-1), .int (-1), .int (-1), .int 0, .int 100, .int 1000, .long 158197560731501])), (h4, .inl (E.2.1 3, 40, .inl (fun _ => 0)))] H locs := hw
  refine rc_callv (wr := [(h5, .inl (E.2.1 3, 40, .inl (fun _ => 0))), (h2, .inr (4, [.int 0, .ref (E.2.2 0), .int 0])), (h3, .inr (4, [.int 0, .ref (E.2.2 0), .int 0])), (h4, .inl (E.2.1 3, 40, .inl (fun _ => 0)))]) (va_runV (As := [.int 0]) (rest := []) (Ts := []) ⟨hx, hb, hml, hown, fun _ h9 => absurd h9 List.not_mem_nil⟩ (cw_X7_add_8 l E _ h0 h1 h2 h3 h4 h5) (rc_cwV hAm qw_1466 qw_13 qw_1469 qw_1468 qs_72 rfl rfl hd_X7_add ⟨Nat.le_of_ble_eq_true rfl, Nat.le_of_ble_eq_true rfl⟩) (rc_preV hAm hA hw [3] rfl rfl 3 rfl (q := vwCl[12]) rfl) rfl rfl hl.1 rfl (lv_room (Nat.le_of_ble_eq_true rfl)) dX7_digest_26 ⟨Nat.le_of_ble_eq_true rfl, Nat.le_of_ble_eq_true rfl⟩) hA hw [3] [0, 1, 2, 4] rfl rfl rfl (by decide) (fun u_32 H locs hp hw => ?_)
  obtain ⟨rfl⟩ := hp
  have hw : rc_W E A s [(h5, .inl (E.2.1 3, 40, .inl (fun _ => 0))), (h2, .inr (4, [.int 0, .ref (E.2.2 0), .int 0])), (h3, .inr (4, [.int 0, .ref (E.2.2 0), .int 0])), (h4, .inl (E.2.1 3, 40, .inl (fun _ => 0))), (h0, .inr (12, [.int 0, .ref h1, .ref h2, .ref h3, .ref h4, .ref h5, .int 1, .int 3, .int 50, .int (-1), .int (-1), .int (-1), .int (-1), .int 0, .int 100, .int 1000, .long 4904124382676531]))] H locs := hw
  refine lv_iinc (v := 8) (lv' := [(1, .int 8), (0, .ref h0)]) hx hb dX7_digest_29 hl (k := 0) rfl (by decide) (by decide) rfl (fun ls hl => ?_)
  refine lv_goto (tgt := 14) hx hb dX7_digest_32 (by decide) ?_
  refine lv_iload_n hx hb dX7_digest_14 rfl (lv_at hl 0 rfl) ?_
  refine lv_bipush (v := 9) hx hb dX7_digest_15 (by decide) ?_
  refine lv_icmp_ge (tgt := 35) hx hb dX7_digest_17 (by decide) (fun c9 => absurd c9 (by decide)) (fun _ => ?_)
  refine lv_aload_n hx hb dX7_digest_20 rfl (lv_at hl 1 rfl) ?_
  refine lv_aload_n hx hb dX7_digest_21 rfl (lv_at hl 1 rfl) ?_
  refine lv_iload_n hx hb dX7_digest_22 rfl (lv_at hl 0 rfl) ?_
  refine rc_calli (wr := [(h5, .inl (E.2.1 3, 40, .inl (fun _ => 0))), (h3, .inr (4, [.int 0, .ref (E.2.2 0), .int 0])), (h4, .inl (E.2.1 3, 40, .inl (fun _ => 0)))]) (va_runV (As := [.int 8]) (rest := [.ref h0]) (Ts := []) ⟨hx, hb, hml, hown, fun _ h9 => absurd h9 List.not_mem_nil⟩ (cw_X7_manyNow_10 l E _ h0 h1 h2 h3 h4 h5) (rc_cwV hAm qw_1433 qw_13 qw_1436 qw_1435 qs_69 rfl rfl hd_X7_manyNow ⟨Nat.le_of_ble_eq_true rfl, Nat.le_of_ble_eq_true rfl⟩) (rc_preV hAm hA hw [4, 1] rfl rfl 4 rfl (q := vwCl[12]) rfl) rfl rfl hl.1 rfl (lv_room (Nat.le_of_ble_eq_true rfl)) dX7_digest_23 ⟨Nat.le_of_ble_eq_true rfl, Nat.le_of_ble_eq_true rfl⟩) hA hw [4, 1] [0, 2, 3] rfl rfl rfl (by decide) (fun r_33 u_34 H locs hp hw => ?_)
  obtain ⟨rfl, rfl⟩ := hp
  have hw : rc_W E A s [(h5, .inl (E.2.1 3, 40, .inl (fun _ => 0))), (h3, .inr (4, [.int 0, .ref (E.2.2 0), .int 0])), (h4, .inl (E.2.1 3, 40, .inl (fun _ => 0))), (h0, .inr (12, [.int 0, .ref h1, .ref h2, .ref h3, .ref h4, .ref h5, .int 1, .int 3, .int 50, .int (-1), .int (-1), .int (-1), .int (-1), .int 0, .int 100, .int 1000, .long 4904124382676531])), (h2, .inr (4, [.int 0, .ref (E.2.2 0), .int 0]))] H locs := hw
  refine rc_callv (wr := [(h5, .inl (E.2.1 3, 40, .inl (fun _ => 0))), (h3, .inr (4, [.int 0, .ref (E.2.2 0), .int 0])), (h4, .inl (E.2.1 3, 40, .inl (fun _ => 0))), (h2, .inr (4, [.int 0, .ref (E.2.2 0), .int 0]))]) (va_runV (As := [.int 0]) (rest := []) (Ts := []) ⟨hx, hb, hml, hown, fun _ h9 => absurd h9 List.not_mem_nil⟩ (cw_X7_add_9 l E _ h0 h1 h2 h3 h4 h5) (rc_cwV hAm qw_1466 qw_13 qw_1469 qw_1468 qs_72 rfl rfl hd_X7_add ⟨Nat.le_of_ble_eq_true rfl, Nat.le_of_ble_eq_true rfl⟩) (rc_preV hAm hA hw [3] rfl rfl 3 rfl (q := vwCl[12]) rfl) rfl rfl hl.1 rfl (lv_room (Nat.le_of_ble_eq_true rfl)) dX7_digest_26 ⟨Nat.le_of_ble_eq_true rfl, Nat.le_of_ble_eq_true rfl⟩) hA hw [3] [0, 1, 2, 4] rfl rfl rfl (by decide) (fun u_36 H locs hp hw => ?_)
  obtain ⟨rfl⟩ := hp
  have hw : rc_W E A s [(h5, .inl (E.2.1 3, 40, .inl (fun _ => 0))), (h3, .inr (4, [.int 0, .ref (E.2.2 0), .int 0])), (h4, .inl (E.2.1 3, 40, .inl (fun _ => 0))), (h2, .inr (4, [.int 0, .ref (E.2.2 0), .int 0])), (h0, .inr (12, [.int 0, .ref h1, .ref h2, .ref h3, .ref h4, .ref h5, .int 1, .int 3, .int 50, .int (-1), .int (-1), .int (-1), .int (-1), .int 0, .int 100, .int 1000, .long 152027855862972461]))] H locs := hw
  refine lv_iinc (v := 9) (lv' := [(1, .int 9), (0, .ref h0)]) hx hb dX7_digest_29 hl (k := 0) rfl (by decide) (by decide) rfl (fun ls hl => ?_)
  refine lv_goto (tgt := 14) hx hb dX7_digest_32 (by decide) ?_
  refine lv_iload_n hx hb dX7_digest_14 rfl (lv_at hl 0 rfl) ?_
  refine lv_bipush (v := 9) hx hb dX7_digest_15 (by decide) ?_
  refine lv_icmp_ge (tgt := 35) hx hb dX7_digest_17 (by decide) (fun _ => ?_) (fun c9 => absurd (by decide) c9)
  refine lv_iconst (v := 0) hx hb dX7_digest_35 (by decide) ?_
  refine lv_istore_n (lv' := [(1, .int 0), (0, .ref h0)]) hx hb dX7_digest_36 rfl hl (by decide) rfl (fun ls hl => ?_)
  refine lv_iload_n hx hb dX7_digest_37 rfl (lv_at hl 0 rfl) ?_
  refine lv_aload_n hx hb dX7_digest_38 rfl (lv_at hl 1 rfl) ?_
  refine rc_get (v := .ref h2) hx hb hown hAm hw lyX7 4 rfl rfl 2 (by decide) qw_862 (fun _ h9 => h9) rfl dX7_digest_39 ?_
  refine rc_calli (wr := [(h5, .inl (E.2.1 3, 40, .inl (fun _ => 0))), (h3, .inr (4, [.int 0, .ref (E.2.2 0), .int 0])), (h4, .inl (E.2.1 3, 40, .inl (fun _ => 0))), (h0, .inr (12, [.int 0, .ref h1, .ref h2, .ref h3, .ref h4, .ref h5, .int 1, .int 3, .int 50, .int (-1), .int (-1), .int (-1), .int (-1), .int 0, .int 100, .int 1000, .long 152027855862972461]))]) (va_runV (As := []) (rest := [.int 0]) (Ts := []) ⟨hx, hb, hml, hown, fun _ h9 => absurd h9 List.not_mem_nil⟩ (cw_Jx4a65c_size_8abf5 l E _ h2) (rc_cwV hAm qw_928 qw_4 qw_289 qw_287 qw_288 rfl rfl hd_Jx4a65c_size_8abf5 ⟨Nat.le_of_ble_eq_true rfl, Nat.le_of_ble_eq_true rfl⟩) (rc_preV hAm hA hw [3] rfl rfl 3 rfl (q := vwCl[4]) rfl) rfl rfl hl.1 rfl (lv_room (Nat.le_of_ble_eq_true rfl)) dX7_digest_42 ⟨Nat.le_of_ble_eq_true rfl, Nat.le_of_ble_eq_true rfl⟩) hA hw [3] [0, 1, 2, 4] rfl rfl rfl (by decide) (fun r_37 u_38 H locs hp hw => ?_)
  obtain ⟨rfl, rfl⟩ := hp
  have hw : rc_W E A s [(h5, .inl (E.2.1 3, 40, .inl (fun _ => 0))), (h3, .inr (4, [.int 0, .ref (E.2.2 0), .int 0])), (h4, .inl (E.2.1 3, 40, .inl (fun _ => 0))), (h0, .inr (12, [.int 0, .ref h1, .ref h2, .ref h3, .ref h4, .ref h5, .int 1, .int 3, .int 50, .int (-1), .int (-1), .int (-1), .int (-1), .int 0, .int 100, .int 1000, .long 152027855862972461])), (h2, .inr (4, [.int 0, .ref (E.2.2 0), .int 0]))] H locs := hw
  refine lv_icmp_ge (tgt := 86) hx hb dX7_digest_45 (by decide) (fun _ => ?_) (fun c9 => absurd (by decide) c9)
  refine lv_iconst (v := 0) hx hb dX7_digest_86 (by decide) ?_
  refine lv_istore_n (lv' := [(1, .int 0), (0, .ref h0)]) hx hb dX7_digest_87 rfl hl (by decide) rfl (fun ls hl => ?_)
  refine lv_iload_n hx hb dX7_digest_88 rfl (lv_at hl 0 rfl) ?_
  refine lv_aload_n hx hb dX7_digest_89 rfl (lv_at hl 1 rfl) ?_
  refine rc_get (v := .int 1) hx hb hown hAm hw lyX7 3 rfl rfl 6 (by decide) qw_866 (fun _ h9 => h9) rfl dX7_digest_90 ?_
  refine lv_icmp_ge (tgt := 135) hx hb dX7_digest_93 (by decide) (fun c9 => absurd c9 (by decide)) (fun _ => ?_)
  refine lv_iconst (v := 0) hx hb dX7_digest_96 (by decide) ?_
  refine lv_istore_n (lv' := [(2, .int 0), (1, .int 0), (0, .ref h0)]) hx hb dX7_digest_97 rfl hl (by decide) rfl (fun ls hl => ?_)
  refine lv_iload_n hx hb dX7_digest_98 rfl (lv_at hl 0 rfl) ?_
  refine lv_bipush (v := 6) hx hb dX7_digest_99 (by decide) ?_
  refine lv_icmp_ge (tgt := 120) hx hb dX7_digest_101 (by decide) (fun c9 => absurd c9 (by decide)) (fun _ => ?_)
  refine lv_aload_n hx hb dX7_digest_104 rfl (lv_at hl 2 rfl) ?_
  refine lv_aload_n hx hb dX7_digest_105 rfl (lv_at hl 2 rfl) ?_
  refine lv_iload_n hx hb dX7_digest_106 rfl (lv_at hl 1 rfl) ?_
  refine lv_iload_n hx hb dX7_digest_107 rfl (lv_at hl 0 rfl) ?_
  refine rc_calli (wr := [(h5, .inl (E.2.1 3, 40, .inl (fun _ => 0))), (h4, .inl (E.2.1 3, 40, .inl (fun _ => 0))), (h2, .inr (4, [.int 0, .ref (E.2.2 0), .int 0]))]) (va_runV (As := [.int 0, .int 0]) (rest := [.ref h0]) (Ts := []) ⟨hx, hb, hml, hown, fun _ h9 => absurd h9 List.not_mem_nil⟩ (cw_X7_ofChangeNow_2 l E _ h0 h1 h2 h3 h4 h5) (rc_cwV hAm qw_1377 qw_13 qw_1380 qw_1379 qs_65 rfl rfl hd_X7_ofChangeNow ⟨Nat.le_of_ble_eq_true rfl, Nat.le_of_ble_eq_true rfl⟩) (rc_preV hAm hA hw [3, 1] rfl rfl 3 rfl (q := vwCl[12]) rfl) rfl rfl hl.1 rfl (lv_room (Nat.le_of_ble_eq_true rfl)) dX7_digest_108 ⟨Nat.le_of_ble_eq_true rfl, Nat.le_of_ble_eq_true rfl⟩) hA hw [3, 1] [0, 2, 4] rfl rfl rfl (by decide) (fun r_39 u_40 H locs hp hw => ?_)
  obtain ⟨rfl, rfl⟩ := hp
  have hw : rc_W E A s [(h5, .inl (E.2.1 3, 40, .inl (fun _ => 0))), (h4, .inl (E.2.1 3, 40, .inl (fun _ => 0))), (h2, .inr (4, [.int 0, .ref (E.2.2 0), .int 0])), (h0, .inr (12, [.int 0, .ref h1, .ref h2, .ref h3, .ref h4, .ref h5, .int 1, .int 3, .int 50, .int (-1), .int (-1), .int (-1), .int (-1), .int 0, .int 100, .int 1000, .long 152027855862972461])), (h3, .inr (4, [.int 0, .ref (E.2.2 0), .int 0]))] H locs := hw
  refine rc_callv (wr := [(h5, .inl (E.2.1 3, 40, .inl (fun _ => 0))), (h4, .inl (E.2.1 3, 40, .inl (fun _ => 0))), (h2, .inr (4, [.int 0, .ref (E.2.2 0), .int 0])), (h3, .inr (4, [.int 0, .ref (E.2.2 0), .int 0]))]) (va_runV (As := [.int 0]) (rest := []) (Ts := []) ⟨hx, hb, hml, hown, fun _ h9 => absurd h9 List.not_mem_nil⟩ (cw_X7_add_10 l E _ h0 h1 h2 h3 h4 h5) (rc_cwV hAm qw_1466 qw_13 qw_1469 qw_1468 qs_72 rfl rfl hd_X7_add ⟨Nat.le_of_ble_eq_true rfl, Nat.le_of_ble_eq_true rfl⟩) (rc_preV hAm hA hw [3] rfl rfl 3 rfl (q := vwCl[12]) rfl) rfl rfl hl.1 rfl (lv_room (Nat.le_of_ble_eq_true rfl)) dX7_digest_111 ⟨Nat.le_of_ble_eq_true rfl, Nat.le_of_ble_eq_true rfl⟩) hA hw [3] [0, 1, 2, 4] rfl rfl rfl (by decide) (fun u_42 H locs hp hw => ?_)
  obtain ⟨rfl⟩ := hp
  have hw : rc_W E A s [(h5, .inl (E.2.1 3, 40, .inl (fun _ => 0))), (h4, .inl (E.2.1 3, 40, .inl (fun _ => 0))), (h2, .inr (4, [.int 0, .ref (E.2.2 0), .int 0])), (h3, .inr (4, [.int 0, .ref (E.2.2 0), .int 0])), (h0, .inr (12, [.int 0, .ref h1, .ref h2, .ref h3, .ref h4, .ref h5, .int 1, .int 3, .int 50, .int (-1), .int (-1), .int (-1), .int (-1), .int 0, .int 100, .int 1000, .long 4712863531752146291]))] H locs := hw
  refine lv_iinc (v := 1) (lv' := [(2, .int 1), (1, .int 0), (0, .ref h0)]) hx hb dX7_digest_114 hl (k := 0) rfl (by decide) (by decide) rfl (fun ls hl => ?_)
  refine lv_goto (tgt := 98) hx hb dX7_digest_117 (by decide) ?_
  refine lv_iload_n hx hb dX7_digest_98 rfl (lv_at hl 0 rfl) ?_
  refine lv_bipush (v := 6) hx hb dX7_digest_99 (by decide) ?_
  refine lv_icmp_ge (tgt := 120) hx hb dX7_digest_101 (by decide) (fun c9 => absurd c9 (by decide)) (fun _ => ?_)
  refine lv_aload_n hx hb dX7_digest_104 rfl (lv_at hl 2 rfl) ?_
  refine lv_aload_n hx hb dX7_digest_105 rfl (lv_at hl 2 rfl) ?_
  refine lv_iload_n hx hb dX7_digest_106 rfl (lv_at hl 1 rfl) ?_
  refine lv_iload_n hx hb dX7_digest_107 rfl (lv_at hl 0 rfl) ?_
  refine rc_calli (wr := [(h5, .inl (E.2.1 3, 40, .inl (fun _ => 0))), (h4, .inl (E.2.1 3, 40, .inl (fun _ => 0))), (h2, .inr (4, [.int 0, .ref (E.2.2 0), .int 0]))]) (va_runV (As := [.int 0, .int 1]) (rest := [.ref h0]) (Ts := []) ⟨hx, hb, hml, hown, fun _ h9 => absurd h9 List.not_mem_nil⟩ (cw_X7_ofChangeNow_3 l E _ h0 h1 h2 h3 h4 h5) (rc_cwV hAm qw_1377 qw_13 qw_1380 qw_1379 qs_65 rfl rfl hd_X7_ofChangeNow ⟨Nat.le_of_ble_eq_true rfl, Nat.le_of_ble_eq_true rfl⟩) (rc_preV hAm hA hw [4, 3] rfl rfl 4 rfl (q := vwCl[12]) rfl) rfl rfl hl.1 rfl (lv_room (Nat.le_of_ble_eq_true rfl)) dX7_digest_108 ⟨Nat.le_of_ble_eq_true rfl, Nat.le_of_ble_eq_true rfl⟩) hA hw [4, 3] [0, 1, 2] rfl rfl rfl (by decide) (fun r_43 u_44 H locs hp hw => ?_)
  obtain ⟨rfl, rfl⟩ := hp
  have hw : rc_W E A s [(h5, .inl (E.2.1 3, 40, .inl (fun _ => 0))), (h4, .inl (E.2.1 3, 40, .inl (fun _ => 0))), (h2, .inr (4, [.int 0, .ref (E.2.2 0), .int 0])), (h0, .inr (12, [.int 0, .ref h1, .ref h2, .ref h3, .ref h4, .ref h5, .int 1, .int 3, .int 50, .int (-1), .int (-1), .int (-1), .int (-1), .int 0, .int 100, .int 1000, .long 4712863531752146291])), (h3, .inr (4, [.int 0, .ref (E.2.2 0), .int 0]))] H locs := hw
  refine rc_callv (wr := [(h5, .inl (E.2.1 3, 40, .inl (fun _ => 0))), (h4, .inl (E.2.1 3, 40, .inl (fun _ => 0))), (h2, .inr (4, [.int 0, .ref (E.2.2 0), .int 0])), (h3, .inr (4, [.int 0, .ref (E.2.2 0), .int 0]))]) (va_runV (As := [.int 0]) (rest := []) (Ts := []) ⟨hx, hb, hml, hown, fun _ h9 => absurd h9 List.not_mem_nil⟩ (cw_X7_add_11 l E _ h0 h1 h2 h3 h4 h5) (rc_cwV hAm qw_1466 qw_13 qw_1469 qw_1468 qs_72 rfl rfl hd_X7_add ⟨Nat.le_of_ble_eq_true rfl, Nat.le_of_ble_eq_true rfl⟩) (rc_preV hAm hA hw [3] rfl rfl 3 rfl (q := vwCl[12]) rfl) rfl rfl hl.1 rfl (lv_room (Nat.le_of_ble_eq_true rfl)) dX7_digest_111 ⟨Nat.le_of_ble_eq_true rfl, Nat.le_of_ble_eq_true rfl⟩) hA hw [3] [0, 1, 2, 4] rfl rfl rfl (by decide) (fun u_46 H locs hp hw => ?_)
  obtain ⟨rfl⟩ := hp
  have hw : rc_W E A s [(h5, .inl (E.2.1 3, 40, .inl (fun _ => 0))), (h4, .inl (E.2.1 3, 40, .inl (fun _ => 0))), (h2, .inr (4, [.int 0, .ref (E.2.2 0), .int 0])), (h3, .inr (4, [.int 0, .ref (E.2.2 0), .int 0])), (h0, .inr (12, [.int 0, .ref h1, .ref h2, .ref h3, .ref h4, .ref h5, .int 1, .int 3, .int 50, .int (-1), .int (-1), .int (-1), .int (-1), .int 0, .int 100, .int 1000, .long (-1475183105359877907)]))] H locs := hw
  refine lv_iinc (v := 2) (lv' := [(2, .int 2), (1, .int 0), (0, .ref h0)]) hx hb dX7_digest_114 hl (k := 0) rfl (by decide) (by decide) rfl (fun ls hl => ?_)
  refine lv_goto (tgt := 98) hx hb dX7_digest_117 (by decide) ?_
  refine lv_iload_n hx hb dX7_digest_98 rfl (lv_at hl 0 rfl) ?_
  refine lv_bipush (v := 6) hx hb dX7_digest_99 (by decide) ?_
  refine lv_icmp_ge (tgt := 120) hx hb dX7_digest_101 (by decide) (fun c9 => absurd c9 (by decide)) (fun _ => ?_)
  refine lv_aload_n hx hb dX7_digest_104 rfl (lv_at hl 2 rfl) ?_
  refine lv_aload_n hx hb dX7_digest_105 rfl (lv_at hl 2 rfl) ?_
  refine lv_iload_n hx hb dX7_digest_106 rfl (lv_at hl 1 rfl) ?_
  refine lv_iload_n hx hb dX7_digest_107 rfl (lv_at hl 0 rfl) ?_
  refine rc_calli (wr := [(h5, .inl (E.2.1 3, 40, .inl (fun _ => 0))), (h4, .inl (E.2.1 3, 40, .inl (fun _ => 0))), (h2, .inr (4, [.int 0, .ref (E.2.2 0), .int 0]))]) (va_runV (As := [.int 0, .int 2]) (rest := [.ref h0]) (Ts := []) ⟨hx, hb, hml, hown, fun _ h9 => absurd h9 List.not_mem_nil⟩ (cw_X7_ofChangeNow_4 l E _ h0 h1 h2 h3 h4 h5) (rc_cwV hAm qw_1377 qw_13 qw_1380 qw_1379 qs_65 rfl rfl hd_X7_ofChangeNow ⟨Nat.le_of_ble_eq_true rfl, Nat.le_of_ble_eq_true rfl⟩) (rc_preV hAm hA hw [4, 3] rfl rfl 4 rfl (q := vwCl[12]) rfl) rfl rfl hl.1 rfl (lv_room (Nat.le_of_ble_eq_true rfl)) dX7_digest_108 ⟨Nat.le_of_ble_eq_true rfl, Nat.le_of_ble_eq_true rfl⟩) hA hw [4, 3] [0, 1, 2] rfl rfl rfl (by decide) (fun r_47 u_48 H locs hp hw => ?_)
  obtain ⟨rfl, rfl⟩ := hp
  have hw : rc_W E A s [(h5, .inl (E.2.1 3, 40, .inl (fun _ => 0))), (h4, .inl (E.2.1 3, 40, .inl (fun _ => 0))), (h2, .inr (4, [.int 0, .ref (E.2.2 0), .int 0])), (h0, .inr (12, [.int 0, .ref h1, .ref h2, .ref h3, .ref h4, .ref h5, .int 1, .int 3, .int 50, .int (-1), .int (-1), .int (-1), .int (-1), .int 0, .int 100, .int 1000, .long (-1475183105359877907)])), (h3, .inr (4, [.int 0, .ref (E.2.2 0), .int 0]))] H locs := hw
  refine rc_callv (wr := [(h5, .inl (E.2.1 3, 40, .inl (fun _ => 0))), (h4, .inl (E.2.1 3, 40, .inl (fun _ => 0))), (h2, .inr (4, [.int 0, .ref (E.2.2 0), .int 0])), (h3, .inr (4, [.int 0, .ref (E.2.2 0), .int 0]))]) (va_runV (As := [.int (-1)]) (rest := []) (Ts := []) ⟨hx, hb, hml, hown, fun _ h9 => absurd h9 List.not_mem_nil⟩ (cw_X7_add_12 l E _ h0 h1 h2 h3 h4 h5) (rc_cwV hAm qw_1466 qw_13 qw_1469 qw_1468 qs_72 rfl rfl hd_X7_add ⟨Nat.le_of_ble_eq_true rfl, Nat.le_of_ble_eq_true rfl⟩) (rc_preV hAm hA hw [3] rfl rfl 3 rfl (q := vwCl[12]) rfl) rfl rfl hl.1 rfl (lv_room (Nat.le_of_ble_eq_true rfl)) dX7_digest_111 ⟨Nat.le_of_ble_eq_true rfl, Nat.le_of_ble_eq_true rfl⟩) hA hw [3] [0, 1, 2, 4] rfl rfl rfl (by decide) (fun u_50 H locs hp hw => ?_)
  obtain ⟨rfl⟩ := hp
  have hw : rc_W E A s [(h5, .inl (E.2.1 3, 40, .inl (fun _ => 0))), (h4, .inl (E.2.1 3, 40, .inl (fun _ => 0))), (h2, .inr (4, [.int 0, .ref (E.2.2 0), .int 0])), (h3, .inr (4, [.int 0, .ref (E.2.2 0), .int 0])), (h0, .inr (12, [.int 0, .ref h1, .ref h2, .ref h3, .ref h4, .ref h5, .int 1, .int 3, .int 50, .int (-1), .int (-1), .int (-1), .int (-1), .int 0, .int 100, .int 1000, .long (-8837188118737111886)]))] H locs := hw
  refine lv_iinc (v := 3) (lv' := [(2, .int 3), (1, .int 0), (0, .ref h0)]) hx hb dX7_digest_114 hl (k := 0) rfl (by decide) (by decide) rfl (fun ls hl => ?_)
  refine lv_goto (tgt := 98) hx hb dX7_digest_117 (by decide) ?_
  refine lv_iload_n hx hb dX7_digest_98 rfl (lv_at hl 0 rfl) ?_
  refine lv_bipush (v := 6) hx hb dX7_digest_99 (by decide) ?_
  refine lv_icmp_ge (tgt := 120) hx hb dX7_digest_101 (by decide) (fun c9 => absurd c9 (by decide)) (fun _ => ?_)
  refine lv_aload_n hx hb dX7_digest_104 rfl (lv_at hl 2 rfl) ?_
  refine lv_aload_n hx hb dX7_digest_105 rfl (lv_at hl 2 rfl) ?_
  refine lv_iload_n hx hb dX7_digest_106 rfl (lv_at hl 1 rfl) ?_
  refine lv_iload_n hx hb dX7_digest_107 rfl (lv_at hl 0 rfl) ?_
  refine rc_calli (wr := [(h5, .inl (E.2.1 3, 40, .inl (fun _ => 0))), (h4, .inl (E.2.1 3, 40, .inl (fun _ => 0))), (h2, .inr (4, [.int 0, .ref (E.2.2 0), .int 0]))]) (va_runV (As := [.int 0, .int 3]) (rest := [.ref h0]) (Ts := []) ⟨hx, hb, hml, hown, fun _ h9 => absurd h9 List.not_mem_nil⟩ (cw_X7_ofChangeNow_5 l E _ h0 h1 h2 h3 h4 h5) (rc_cwV hAm qw_1377 qw_13 qw_1380 qw_1379 qs_65 rfl rfl hd_X7_ofChangeNow ⟨Nat.le_of_ble_eq_true rfl, Nat.le_of_ble_eq_true rfl⟩) (rc_preV hAm hA hw [4, 3] rfl rfl 4 rfl (q := vwCl[12]) rfl) rfl rfl hl.1 rfl (lv_room (Nat.le_of_ble_eq_true rfl)) dX7_digest_108 ⟨Nat.le_of_ble_eq_true rfl, Nat.le_of_ble_eq_true rfl⟩) hA hw [4, 3] [0, 1, 2] rfl rfl rfl (by decide) (fun r_51 u_52 H locs hp hw => ?_)
  obtain ⟨rfl, rfl⟩ := hp
  have hw : rc_W E A s [(h5, .inl (E.2.1 3, 40, .inl (fun _ => 0))), (h4, .inl (E.2.1 3, 40, .inl (fun _ => 0))), (h2, .inr (4, [.int 0, .ref (E.2.2 0), .int 0])), (h0, .inr (12, [.int 0, .ref h1, .ref h2, .ref h3, .ref h4, .ref h5, .int 1, .int 3, .int 50, .int (-1), .int (-1), .int (-1), .int (-1), .int 0, .int 100, .int 1000, .long (-8837188118737111886)])), (h3, .inr (4, [.int 0, .ref (E.2.2 0), .int 0]))] H locs := hw
  refine rc_callv (wr := [(h5, .inl (E.2.1 3, 40, .inl (fun _ => 0))), (h4, .inl (E.2.1 3, 40, .inl (fun _ => 0))), (h2, .inr (4, [.int 0, .ref (E.2.2 0), .int 0])), (h3, .inr (4, [.int 0, .ref (E.2.2 0), .int 0]))]) (va_runV (As := [.int (-1)]) (rest := []) (Ts := []) ⟨hx, hb, hml, hown, fun _ h9 => absurd h9 List.not_mem_nil⟩ (cw_X7_add_13 l E _ h0 h1 h2 h3 h4 h5) (rc_cwV hAm qw_1466 qw_13 qw_1469 qw_1468 qs_72 rfl rfl hd_X7_add ⟨Nat.le_of_ble_eq_true rfl, Nat.le_of_ble_eq_true rfl⟩) (rc_preV hAm hA hw [3] rfl rfl 3 rfl (q := vwCl[12]) rfl) rfl rfl hl.1 rfl (lv_room (Nat.le_of_ble_eq_true rfl)) dX7_digest_111 ⟨Nat.le_of_ble_eq_true rfl, Nat.le_of_ble_eq_true rfl⟩) hA hw [3] [0, 1, 2, 4] rfl rfl rfl (by decide) (fun u_54 H locs hp hw => ?_)
  obtain ⟨rfl⟩ := hp
  have hw : rc_W E A s [(h5, .inl (E.2.1 3, 40, .inl (fun _ => 0))), (h4, .inl (E.2.1 3, 40, .inl (fun _ => 0))), (h2, .inr (4, [.int 0, .ref (E.2.2 0), .int 0])), (h3, .inr (4, [.int 0, .ref (E.2.2 0), .int 0])), (h0, .inr (12, [.int 0, .ref h1, .ref h2, .ref h3, .ref h4, .ref h5, .int 1, .int 3, .int 50, .int (-1), .int (-1), .int (-1), .int (-1), .int 0, .int 100, .int 1000, .long 2748329424792805773]))] H locs := hw
  refine lv_iinc (v := 4) (lv' := [(2, .int 4), (1, .int 0), (0, .ref h0)]) hx hb dX7_digest_114 hl (k := 0) rfl (by decide) (by decide) rfl (fun ls hl => ?_)
  refine lv_goto (tgt := 98) hx hb dX7_digest_117 (by decide) ?_
  refine lv_iload_n hx hb dX7_digest_98 rfl (lv_at hl 0 rfl) ?_
  refine lv_bipush (v := 6) hx hb dX7_digest_99 (by decide) ?_
  refine lv_icmp_ge (tgt := 120) hx hb dX7_digest_101 (by decide) (fun c9 => absurd c9 (by decide)) (fun _ => ?_)
  refine lv_aload_n hx hb dX7_digest_104 rfl (lv_at hl 2 rfl) ?_
  refine lv_aload_n hx hb dX7_digest_105 rfl (lv_at hl 2 rfl) ?_
  refine lv_iload_n hx hb dX7_digest_106 rfl (lv_at hl 1 rfl) ?_
  refine lv_iload_n hx hb dX7_digest_107 rfl (lv_at hl 0 rfl) ?_
  refine rc_calli (wr := [(h5, .inl (E.2.1 3, 40, .inl (fun _ => 0))), (h4, .inl (E.2.1 3, 40, .inl (fun _ => 0))), (h2, .inr (4, [.int 0, .ref (E.2.2 0), .int 0]))]) (va_runV (As := [.int 0, .int 4]) (rest := [.ref h0]) (Ts := []) ⟨hx, hb, hml, hown, fun _ h9 => absurd h9 List.not_mem_nil⟩ (cw_X7_ofChangeNow_6 l E _ h0 h1 h2 h3 h4 h5) (rc_cwV hAm qw_1377 qw_13 qw_1380 qw_1379 qs_65 rfl rfl hd_X7_ofChangeNow ⟨Nat.le_of_ble_eq_true rfl, Nat.le_of_ble_eq_true rfl⟩) (rc_preV hAm hA hw [4, 3] rfl rfl 4 rfl (q := vwCl[12]) rfl) rfl rfl hl.1 rfl (lv_room (Nat.le_of_ble_eq_true rfl)) dX7_digest_108 ⟨Nat.le_of_ble_eq_true rfl, Nat.le_of_ble_eq_true rfl⟩) hA hw [4, 3] [0, 1, 2] rfl rfl rfl (by decide) (fun r_55 u_56 H locs hp hw => ?_)
  obtain ⟨rfl, rfl⟩ := hp
  have hw : rc_W E A s [(h5, .inl (E.2.1 3, 40, .inl (fun _ => 0))), (h4, .inl (E.2.1 3, 40, .inl (fun _ => 0))), (h2, .inr (4, [.int 0, .ref (E.2.2 0), .int 0])), (h0, .inr (12, [.int 0, .ref h1, .ref h2, .ref h3, .ref h4, .ref h5, .int 1, .int 3, .int 50, .int (-1), .int (-1), .int (-1), .int (-1), .int 0, .int 100, .int 1000, .long 2748329424792805773])), (h3, .inr (4, [.int 0, .ref (E.2.2 0), .int 0]))] H locs := hw
  refine rc_callv (wr := [(h5, .inl (E.2.1 3, 40, .inl (fun _ => 0))), (h4, .inl (E.2.1 3, 40, .inl (fun _ => 0))), (h2, .inr (4, [.int 0, .ref (E.2.2 0), .int 0])), (h3, .inr (4, [.int 0, .ref (E.2.2 0), .int 0]))]) (va_runV (As := [.int (-1)]) (rest := []) (Ts := []) ⟨hx, hb, hml, hown, fun _ h9 => absurd h9 List.not_mem_nil⟩ (cw_X7_add_14 l E _ h0 h1 h2 h3 h4 h5) (rc_cwV hAm qw_1466 qw_13 qw_1469 qw_1468 qs_72 rfl rfl hd_X7_add ⟨Nat.le_of_ble_eq_true rfl, Nat.le_of_ble_eq_true rfl⟩) (rc_preV hAm hA hw [3] rfl rfl 3 rfl (q := vwCl[12]) rfl) rfl rfl hl.1 rfl (lv_room (Nat.le_of_ble_eq_true rfl)) dX7_digest_111 ⟨Nat.le_of_ble_eq_true rfl, Nat.le_of_ble_eq_true rfl⟩) hA hw [3] [0, 1, 2, 4] rfl rfl rfl (by decide) (fun u_58 H locs hp hw => ?_)
  obtain ⟨rfl⟩ := hp
  have hw : rc_W E A s [(h5, .inl (E.2.1 3, 40, .inl (fun _ => 0))), (h4, .inl (E.2.1 3, 40, .inl (fun _ => 0))), (h2, .inr (4, [.int 0, .ref (E.2.2 0), .int 0])), (h3, .inr (4, [.int 0, .ref (E.2.2 0), .int 0])), (h0, .inr (12, [.int 0, .ref h1, .ref h2, .ref h3, .ref h4, .ref h5, .int 1, .int 3, .int 50, .int (-1), .int (-1), .int (-1), .int (-1), .int 0, .int 100, .int 1000, .long (-7035508199970779118)]))] H locs := hw
  refine lv_iinc (v := 5) (lv' := [(2, .int 5), (1, .int 0), (0, .ref h0)]) hx hb dX7_digest_114 hl (k := 0) rfl (by decide) (by decide) rfl (fun ls hl => ?_)
  refine lv_goto (tgt := 98) hx hb dX7_digest_117 (by decide) ?_
  refine lv_iload_n hx hb dX7_digest_98 rfl (lv_at hl 0 rfl) ?_
  refine lv_bipush (v := 6) hx hb dX7_digest_99 (by decide) ?_
  refine lv_icmp_ge (tgt := 120) hx hb dX7_digest_101 (by decide) (fun c9 => absurd c9 (by decide)) (fun _ => ?_)
  refine lv_aload_n hx hb dX7_digest_104 rfl (lv_at hl 2 rfl) ?_
  refine lv_aload_n hx hb dX7_digest_105 rfl (lv_at hl 2 rfl) ?_
  refine lv_iload_n hx hb dX7_digest_106 rfl (lv_at hl 1 rfl) ?_
  refine lv_iload_n hx hb dX7_digest_107 rfl (lv_at hl 0 rfl) ?_
  refine rc_calli (wr := [(h2, .inr (4, [.int 0, .ref (E.2.2 0), .int 0]))]) (va_runV (As := [.int 0, .int 5]) (rest := [.ref h0]) (Ts := []) ⟨hx, hb, hml, hown, fun _ h9 => absurd h9 List.not_mem_nil⟩ (cw_X7_ofChangeNow_7 l E _ h0 h1 h2 h3 h4 h5) (rc_cwV hAm qw_1377 qw_13 qw_1380 qw_1379 qs_65 rfl rfl hd_X7_ofChangeNow ⟨Nat.le_of_ble_eq_true rfl, Nat.le_of_ble_eq_true rfl⟩) (rc_preV hAm hA hw [4, 3, 1, 0] rfl rfl 4 rfl (q := vwCl[12]) rfl) rfl rfl hl.1 rfl (lv_room (Nat.le_of_ble_eq_true rfl)) dX7_digest_108 ⟨Nat.le_of_ble_eq_true rfl, Nat.le_of_ble_eq_true rfl⟩) hA hw [4, 3, 1, 0] [2] rfl rfl rfl (by decide) (fun r_59 u_60 H locs hp hw => ?_)
  obtain ⟨rfl, rfl⟩ := hp
  have hw : rc_W E A s [(h2, .inr (4, [.int 0, .ref (E.2.2 0), .int 0])), (h0, .inr (12, [.int 0, .ref h1, .ref h2, .ref h3, .ref h4, .ref h5, .int 1, .int 3, .int 50, .int (-1), .int (-1), .int (-1), .int (-1), .int 0, .int 100, .int 1000, .long (-7035508199970779118)])), (h3, .inr (4, [.int 0, .ref (E.2.2 0), .int 0])), (h4, .inl (E.2.1 3, 40, .inl (fun _ => 0))), (h5, .inl (E.2.1 3, 40, .inl (fun _ => 0)))] H locs := hw
  refine rc_callv (wr := [(h2, .inr (4, [.int 0, .ref (E.2.2 0), .int 0])), (h3, .inr (4, [.int 0, .ref (E.2.2 0), .int 0])), (h4, .inl (E.2.1 3, 40, .inl (fun _ => 0))), (h5, .inl (E.2.1 3, 40, .inl (fun _ => 0)))]) (va_runV (As := [.int 0]) (rest := []) (Ts := []) ⟨hx, hb, hml, hown, fun _ h9 => absurd h9 List.not_mem_nil⟩ (cw_X7_add_15 l E _ h0 h1 h2 h3 h4 h5) (rc_cwV hAm qw_1466 qw_13 qw_1469 qw_1468 qs_72 rfl rfl hd_X7_add ⟨Nat.le_of_ble_eq_true rfl, Nat.le_of_ble_eq_true rfl⟩) (rc_preV hAm hA hw [1] rfl rfl 1 rfl (q := vwCl[12]) rfl) rfl rfl hl.1 rfl (lv_room (Nat.le_of_ble_eq_true rfl)) dX7_digest_111 ⟨Nat.le_of_ble_eq_true rfl, Nat.le_of_ble_eq_true rfl⟩) hA hw [1] [0, 2, 3, 4] rfl rfl rfl (by decide) (fun u_62 H locs hp hw => ?_)
  obtain ⟨rfl⟩ := hp
  have hw : rc_W E A s [(h2, .inr (4, [.int 0, .ref (E.2.2 0), .int 0])), (h3, .inr (4, [.int 0, .ref (E.2.2 0), .int 0])), (h4, .inl (E.2.1 3, 40, .inl (fun _ => 0))), (h5, .inl (E.2.1 3, 40, .inl (fun _ => 0))), (h0, .inr (12, [.int 0, .ref h1, .ref h2, .ref h3, .ref h4, .ref h5, .int 1, .int 3, .int 50, .int (-1), .int (-1), .int (-1), .int (-1), .int 0, .int 100, .int 1000, .long 3260174685420466734]))] H locs := hw
  refine lv_iinc (v := 6) (lv' := [(2, .int 6), (1, .int 0), (0, .ref h0)]) hx hb dX7_digest_114 hl (k := 0) rfl (by decide) (by decide) rfl (fun ls hl => ?_)
  refine lv_goto (tgt := 98) hx hb dX7_digest_117 (by decide) ?_
  refine lv_iload_n hx hb dX7_digest_98 rfl (lv_at hl 0 rfl) ?_
  refine lv_bipush (v := 6) hx hb dX7_digest_99 (by decide) ?_
  refine lv_icmp_ge (tgt := 120) hx hb dX7_digest_101 (by decide) (fun _ => ?_) (fun c9 => absurd (by decide) c9)
  refine lv_aload_n hx hb dX7_digest_120 rfl (lv_at hl 2 rfl) ?_
  refine lv_aload_n hx hb dX7_digest_121 rfl (lv_at hl 2 rfl) ?_
  refine lv_iload_n hx hb dX7_digest_122 rfl (lv_at hl 1 rfl) ?_
  refine rc_calli (wr := [(h4, .inl (E.2.1 3, 40, .inl (fun _ => 0))), (h5, .inl (E.2.1 3, 40, .inl (fun _ => 0)))]) (va_runV (As := [.int 0]) (rest := [.ref h0]) (Ts := []) ⟨hx, hb, hml, hown, fun _ h9 => absurd h9 List.not_mem_nil⟩ (cw_X7_minutesForNow_2 l E _ h0 h1 h2 h3 h4 h5) (rc_cwV hAm qw_1441 qw_13 qw_1444 qw_1443 qs_70 rfl rfl hd_X7_minutesForNow ⟨Nat.le_of_ble_eq_true rfl, Nat.le_of_ble_eq_true rfl⟩) (rc_preV hAm hA hw [4, 0, 1] rfl rfl 4 rfl (q := vwCl[12]) rfl) rfl rfl hl.1 rfl (lv_room (Nat.le_of_ble_eq_true rfl)) dX7_digest_123 ⟨Nat.le_of_ble_eq_true rfl, Nat.le_of_ble_eq_true rfl⟩) hA hw [4, 0, 1] [2, 3] rfl rfl rfl (by decide) (fun r_63 u_64 H locs hp hw => ?_)
  obtain ⟨rfl, rfl⟩ := hp
  have hw : rc_W E A s [(h4, .inl (E.2.1 3, 40, .inl (fun _ => 0))), (h5, .inl (E.2.1 3, 40, .inl (fun _ => 0))), (h0, .inr (12, [.int 0, .ref h1, .ref h2, .ref h3, .ref h4, .ref h5, .int 1, .int 3, .int 50, .int (-1), .int (-1), .int (-1), .int (-1), .int 0, .int 100, .int 1000, .long 3260174685420466734])), (h2, .inr (4, [.int 0, .ref (E.2.2 0), .int 0])), (h3, .inr (4, [.int 0, .ref (E.2.2 0), .int 0]))] H locs := hw
  refine rc_callv (wr := [(h4, .inl (E.2.1 3, 40, .inl (fun _ => 0))), (h5, .inl (E.2.1 3, 40, .inl (fun _ => 0))), (h2, .inr (4, [.int 0, .ref (E.2.2 0), .int 0])), (h3, .inr (4, [.int 0, .ref (E.2.2 0), .int 0]))]) (va_runV (As := [.int (-1)]) (rest := []) (Ts := []) ⟨hx, hb, hml, hown, fun _ h9 => absurd h9 List.not_mem_nil⟩ (cw_X7_add_16 l E _ h0 h1 h2 h3 h4 h5) (rc_cwV hAm qw_1466 qw_13 qw_1469 qw_1468 qs_72 rfl rfl hd_X7_add ⟨Nat.le_of_ble_eq_true rfl, Nat.le_of_ble_eq_true rfl⟩) (rc_preV hAm hA hw [2] rfl rfl 2 rfl (q := vwCl[12]) rfl) rfl rfl hl.1 rfl (lv_room (Nat.le_of_ble_eq_true rfl)) dX7_digest_126 ⟨Nat.le_of_ble_eq_true rfl, Nat.le_of_ble_eq_true rfl⟩) hA hw [2] [0, 1, 3, 4] rfl rfl rfl (by decide) (fun u_66 H locs hp hw => ?_)
  obtain ⟨rfl⟩ := hp
  have hw : rc_W E A s [(h4, .inl (E.2.1 3, 40, .inl (fun _ => 0))), (h5, .inl (E.2.1 3, 40, .inl (fun _ => 0))), (h2, .inr (4, [.int 0, .ref (E.2.2 0), .int 0])), (h3, .inr (4, [.int 0, .ref (E.2.2 0), .int 0])), (h0, .inr (12, [.int 0, .ref h1, .ref h2, .ref h3, .ref h4, .ref h5, .int 1, .int 3, .int 50, .int (-1), .int (-1), .int (-1), .int (-1), .int 0, .int 100, .int 1000, .long 8831694879486710673]))] H locs := hw
  refine lv_iinc (v := 1) (lv' := [(1, .int 1), (2, .int 6), (0, .ref h0)]) hx hb dX7_digest_129 hl (k := 1) rfl (by decide) (by decide) rfl (fun ls hl => ?_)
  refine lv_goto (tgt := 88) hx hb dX7_digest_132 (by decide) ?_
  refine lv_iload_n hx hb dX7_digest_88 rfl (lv_at hl 0 rfl) ?_
  refine lv_aload_n hx hb dX7_digest_89 rfl (lv_at hl 2 rfl) ?_
  refine rc_get (v := .int 1) hx hb hown hAm hw lyX7 4 rfl rfl 6 (by decide) qw_866 (fun _ h9 => h9) rfl dX7_digest_90 ?_
  refine lv_icmp_ge (tgt := 135) hx hb dX7_digest_93 (by decide) (fun _ => ?_) (fun c9 => absurd (by decide) c9)
  refine lv_iconst (v := 0) hx hb dX7_digest_135 (by decide) ?_
  refine lv_istore_n (lv' := [(1, .int 0), (2, .int 6), (0, .ref h0)]) hx hb dX7_digest_136 rfl hl (by decide) rfl (fun ls hl => ?_)
  refine lv_iload_n hx hb dX7_digest_137 rfl (lv_at hl 0 rfl) ?_
  refine lv_aload_n hx hb dX7_digest_138 rfl (lv_at hl 2 rfl) ?_
  refine rc_get (v := .ref h3) hx hb hown hAm hw lyX7 4 rfl rfl 3 (by decide) qw_863 (fun _ h9 => h9) rfl dX7_digest_139 ?_
  refine rc_calli (wr := [(h4, .inl (E.2.1 3, 40, .inl (fun _ => 0))), (h5, .inl (E.2.1 3, 40, .inl (fun _ => 0))), (h2, .inr (4, [.int 0, .ref (E.2.2 0), .int 0])), (h0, .inr (12, [.int 0, .ref h1, .ref h2, .ref h3, .ref h4, .ref h5, .int 1, .int 3, .int 50, .int (-1), .int (-1), .int (-1), .int (-1), .int 0, .int 100, .int 1000, .long 8831694879486710673]))]) (va_runV (As := []) (rest := [.int 0]) (Ts := []) ⟨hx, hb, hml, hown, fun _ h9 => absurd h9 List.not_mem_nil⟩ (cw_Jx4a65c_size_8abf5 l E _ h3) (rc_cwV hAm qw_928 qw_4 qw_289 qw_287 qw_288 rfl rfl hd_Jx4a65c_size_8abf5 ⟨Nat.le_of_ble_eq_true rfl, Nat.le_of_ble_eq_true rfl⟩) (rc_preV hAm hA hw [3] rfl rfl 3 rfl (q := vwCl[4]) rfl) rfl rfl hl.1 rfl (lv_room (Nat.le_of_ble_eq_true rfl)) dX7_digest_142 ⟨Nat.le_of_ble_eq_true rfl, Nat.le_of_ble_eq_true rfl⟩) hA hw [3] [0, 1, 2, 4] rfl rfl rfl (by decide) (fun r_67 u_68 H locs hp hw => ?_)
  obtain ⟨rfl, rfl⟩ := hp
  have hw : rc_W E A s [(h4, .inl (E.2.1 3, 40, .inl (fun _ => 0))), (h5, .inl (E.2.1 3, 40, .inl (fun _ => 0))), (h2, .inr (4, [.int 0, .ref (E.2.2 0), .int 0])), (h0, .inr (12, [.int 0, .ref h1, .ref h2, .ref h3, .ref h4, .ref h5, .int 1, .int 3, .int 50, .int (-1), .int (-1), .int (-1), .int (-1), .int 0, .int 100, .int 1000, .long 8831694879486710673])), (h3, .inr (4, [.int 0, .ref (E.2.2 0), .int 0]))] H locs := hw
  refine lv_icmp_ge (tgt := 178) hx hb dX7_digest_145 (by decide) (fun _ => ?_) (fun c9 => absurd (by decide) c9)
  refine lv_iconst (v := 1) hx hb dX7_digest_178 (by decide) ?_
  refine lv_istore_n (lv' := [(1, .int 1), (2, .int 6), (0, .ref h0)]) hx hb dX7_digest_179 rfl hl (by decide) rfl (fun ls hl => ?_)
  refine lv_iload_n hx hb dX7_digest_180 rfl (lv_at hl 0 rfl) ?_
  refine lv_aload_n hx hb dX7_digest_181 rfl (lv_at hl 2 rfl) ?_
  refine rc_get (v := .int 1) hx hb hown hAm hw lyX7 3 rfl rfl 6 (by decide) qw_866 (fun _ h9 => h9) rfl dX7_digest_182 ?_
  refine lv_icmp_ge (tgt := 220) hx hb dX7_digest_185 (by decide) (fun _ => ?_) (fun c9 => absurd (by decide) c9)
  refine lv_iconst (v := 0) hx hb dX7_digest_220 (by decide) ?_
  refine lv_istore_n (lv' := [(1, .int 0), (2, .int 6), (0, .ref h0)]) hx hb dX7_digest_221 rfl hl (by decide) rfl (fun ls hl => ?_)
  refine lv_iload_n hx hb dX7_digest_222 rfl (lv_at hl 0 rfl) ?_
  refine lv_iconst (v := 4) hx hb dX7_digest_223 (by decide) ?_
  refine lv_icmp_ge (tgt := 242) hx hb dX7_digest_224 (by decide) (fun c9 => absurd c9 (by decide)) (fun _ => ?_)
  refine lv_aload_n hx hb dX7_digest_227 rfl (lv_at hl 2 rfl) ?_
  refine lv_aload_n hx hb dX7_digest_228 rfl (lv_at hl 2 rfl) ?_
  refine lv_iload_n hx hb dX7_digest_229 rfl (lv_at hl 0 rfl) ?_
  refine rc_calli (wr := [(h4, .inl (E.2.1 3, 40, .inl (fun _ => 0))), (h5, .inl (E.2.1 3, 40, .inl (fun _ => 0))), (h2, .inr (4, [.int 0, .ref (E.2.2 0), .int 0])), (h3, .inr (4, [.int 0, .ref (E.2.2 0), .int 0]))]) (va_runV (As := [.int 0]) (rest := [.ref h0]) (Ts := []) ⟨hx, hb, hml, hown, fun _ h9 => absurd h9 List.not_mem_nil⟩ (cw_X7_ofCaseNow_2 l E _ h0 h1 h2 h3 h4 h5) (rc_cwV hAm qw_1405 qw_13 qw_1408 qw_1407 qs_66 rfl rfl hd_X7_ofCaseNow ⟨Nat.le_of_ble_eq_true rfl, Nat.le_of_ble_eq_true rfl⟩) (rc_preV hAm hA hw [3] rfl rfl 3 rfl (q := vwCl[12]) rfl) rfl rfl hl.1 rfl (lv_room (Nat.le_of_ble_eq_true rfl)) dX7_digest_230 ⟨Nat.le_of_ble_eq_true rfl, Nat.le_of_ble_eq_true rfl⟩) hA hw [3] [0, 1, 2, 4] rfl rfl rfl (by decide) (fun r_69 u_70 H locs hp hw => ?_)
  obtain ⟨rfl, rfl⟩ := hp
  have hw : rc_W E A s [(h4, .inl (E.2.1 3, 40, .inl (fun _ => 0))), (h5, .inl (E.2.1 3, 40, .inl (fun _ => 0))), (h2, .inr (4, [.int 0, .ref (E.2.2 0), .int 0])), (h3, .inr (4, [.int 0, .ref (E.2.2 0), .int 0])), (h0, .inr (12, [.int 0, .ref h1, .ref h2, .ref h3, .ref h4, .ref h5, .int 1, .int 3, .int 50, .int (-1), .int (-1), .int (-1), .int (-1), .int 0, .int 100, .int 1000, .long 8831694879486710673]))] H locs := hw
  refine rc_callv (wr := [(h4, .inl (E.2.1 3, 40, .inl (fun _ => 0))), (h5, .inl (E.2.1 3, 40, .inl (fun _ => 0))), (h2, .inr (4, [.int 0, .ref (E.2.2 0), .int 0])), (h3, .inr (4, [.int 0, .ref (E.2.2 0), .int 0]))]) (va_runV (As := [.int (-1)]) (rest := []) (Ts := []) ⟨hx, hb, hml, hown, fun _ h9 => absurd h9 List.not_mem_nil⟩ (cw_X7_add_17 l E _ h0 h1 h2 h3 h4 h5) (rc_cwV hAm qw_1466 qw_13 qw_1469 qw_1468 qs_72 rfl rfl hd_X7_add ⟨Nat.le_of_ble_eq_true rfl, Nat.le_of_ble_eq_true rfl⟩) (rc_preV hAm hA hw [4] rfl rfl 4 rfl (q := vwCl[12]) rfl) rfl rfl hl.1 rfl (lv_room (Nat.le_of_ble_eq_true rfl)) dX7_digest_233 ⟨Nat.le_of_ble_eq_true rfl, Nat.le_of_ble_eq_true rfl⟩) hA hw [4] [0, 1, 2, 3] rfl rfl rfl (by decide) (fun u_72 H locs hp hw => ?_)
  obtain ⟨rfl⟩ := hp
  have hw : rc_W E A s [(h4, .inl (E.2.1 3, 40, .inl (fun _ => 0))), (h5, .inl (E.2.1 3, 40, .inl (fun _ => 0))), (h2, .inr (4, [.int 0, .ref (E.2.2 0), .int 0])), (h3, .inr (4, [.int 0, .ref (E.2.2 0), .int 0])), (h0, .inr (12, [.int 0, .ref h1, .ref h2, .ref h3, .ref h4, .ref h5, .int 1, .int 3, .int 50, .int (-1), .int (-1), .int (-1), .int (-1), .int 0, .int 100, .int 1000, .long (-2918619841555243378)]))] H locs := hw
  refine lv_iinc (v := 1) (lv' := [(1, .int 1), (2, .int 6), (0, .ref h0)]) hx hb dX7_digest_236 hl (k := 0) rfl (by decide) (by decide) rfl (fun ls hl => ?_)
  refine lv_goto (tgt := 222) hx hb dX7_digest_239 (by decide) ?_
  refine lv_iload_n hx hb dX7_digest_222 rfl (lv_at hl 0 rfl) ?_
  refine lv_iconst (v := 4) hx hb dX7_digest_223 (by decide) ?_
  refine lv_icmp_ge (tgt := 242) hx hb dX7_digest_224 (by decide) (fun c9 => absurd c9 (by decide)) (fun _ => ?_)
  refine lv_aload_n hx hb dX7_digest_227 rfl (lv_at hl 2 rfl) ?_
  refine lv_aload_n hx hb dX7_digest_228 rfl (lv_at hl 2 rfl) ?_
  refine lv_iload_n hx hb dX7_digest_229 rfl (lv_at hl 0 rfl) ?_
  refine rc_calli (wr := [(h4, .inl (E.2.1 3, 40, .inl (fun _ => 0))), (h5, .inl (E.2.1 3, 40, .inl (fun _ => 0))), (h2, .inr (4, [.int 0, .ref (E.2.2 0), .int 0])), (h3, .inr (4, [.int 0, .ref (E.2.2 0), .int 0]))]) (va_runV (As := [.int 1]) (rest := [.ref h0]) (Ts := []) ⟨hx, hb, hml, hown, fun _ h9 => absurd h9 List.not_mem_nil⟩ (cw_X7_ofCaseNow_3 l E _ h0 h1 h2 h3 h4 h5) (rc_cwV hAm qw_1405 qw_13 qw_1408 qw_1407 qs_66 rfl rfl hd_X7_ofCaseNow ⟨Nat.le_of_ble_eq_true rfl, Nat.le_of_ble_eq_true rfl⟩) (rc_preV hAm hA hw [4] rfl rfl 4 rfl (q := vwCl[12]) rfl) rfl rfl hl.1 rfl (lv_room (Nat.le_of_ble_eq_true rfl)) dX7_digest_230 ⟨Nat.le_of_ble_eq_true rfl, Nat.le_of_ble_eq_true rfl⟩) hA hw [4] [0, 1, 2, 3] rfl rfl rfl (by decide) (fun r_73 u_74 H locs hp hw => ?_)
  obtain ⟨rfl, rfl⟩ := hp
  have hw : rc_W E A s [(h4, .inl (E.2.1 3, 40, .inl (fun _ => 0))), (h5, .inl (E.2.1 3, 40, .inl (fun _ => 0))), (h2, .inr (4, [.int 0, .ref (E.2.2 0), .int 0])), (h3, .inr (4, [.int 0, .ref (E.2.2 0), .int 0])), (h0, .inr (12, [.int 0, .ref h1, .ref h2, .ref h3, .ref h4, .ref h5, .int 1, .int 3, .int 50, .int (-1), .int (-1), .int (-1), .int (-1), .int 0, .int 100, .int 1000, .long (-2918619841555243378)]))] H locs := hw
  refine rc_callv (wr := [(h4, .inl (E.2.1 3, 40, .inl (fun _ => 0))), (h5, .inl (E.2.1 3, 40, .inl (fun _ => 0))), (h2, .inr (4, [.int 0, .ref (E.2.2 0), .int 0])), (h3, .inr (4, [.int 0, .ref (E.2.2 0), .int 0]))]) (va_runV (As := [.int (-1)]) (rest := []) (Ts := []) ⟨hx, hb, hml, hown, fun _ h9 => absurd h9 List.not_mem_nil⟩ (cw_X7_add_18 l E _ h0 h1 h2 h3 h4 h5) (rc_cwV hAm qw_1466 qw_13 qw_1469 qw_1468 qs_72 rfl rfl hd_X7_add ⟨Nat.le_of_ble_eq_true rfl, Nat.le_of_ble_eq_true rfl⟩) (rc_preV hAm hA hw [4] rfl rfl 4 rfl (q := vwCl[12]) rfl) rfl rfl hl.1 rfl (lv_room (Nat.le_of_ble_eq_true rfl)) dX7_digest_233 ⟨Nat.le_of_ble_eq_true rfl, Nat.le_of_ble_eq_true rfl⟩) hA hw [4] [0, 1, 2, 3] rfl rfl rfl (by decide) (fun u_76 H locs hp hw => ?_)
  obtain ⟨rfl⟩ := hp
  have hw : rc_W E A s [(h4, .inl (E.2.1 3, 40, .inl (fun _ => 0))), (h5, .inl (E.2.1 3, 40, .inl (fun _ => 0))), (h2, .inr (4, [.int 0, .ref (E.2.2 0), .int 0])), (h3, .inr (4, [.int 0, .ref (E.2.2 0), .int 0])), (h0, .inr (12, [.int 0, .ref h1, .ref h2, .ref h3, .ref h4, .ref h5, .int 1, .int 3, .int 50, .int (-1), .int (-1), .int (-1), .int (-1), .int 0, .int 100, .int 1000, .long 1756505280335213361]))] H locs := hw
  refine lv_iinc (v := 2) (lv' := [(1, .int 2), (2, .int 6), (0, .ref h0)]) hx hb dX7_digest_236 hl (k := 0) rfl (by decide) (by decide) rfl (fun ls hl => ?_)
  refine lv_goto (tgt := 222) hx hb dX7_digest_239 (by decide) ?_
  refine lv_iload_n hx hb dX7_digest_222 rfl (lv_at hl 0 rfl) ?_
  refine lv_iconst (v := 4) hx hb dX7_digest_223 (by decide) ?_
  refine lv_icmp_ge (tgt := 242) hx hb dX7_digest_224 (by decide) (fun c9 => absurd c9 (by decide)) (fun _ => ?_)
  refine lv_aload_n hx hb dX7_digest_227 rfl (lv_at hl 2 rfl) ?_
  refine lv_aload_n hx hb dX7_digest_228 rfl (lv_at hl 2 rfl) ?_
  refine lv_iload_n hx hb dX7_digest_229 rfl (lv_at hl 0 rfl) ?_
  refine rc_calli (wr := [(h4, .inl (E.2.1 3, 40, .inl (fun _ => 0))), (h5, .inl (E.2.1 3, 40, .inl (fun _ => 0))), (h2, .inr (4, [.int 0, .ref (E.2.2 0), .int 0])), (h3, .inr (4, [.int 0, .ref (E.2.2 0), .int 0]))]) (va_runV (As := [.int 2]) (rest := [.ref h0]) (Ts := []) ⟨hx, hb, hml, hown, fun _ h9 => absurd h9 List.not_mem_nil⟩ (cw_X7_ofCaseNow_4 l E _ h0 h1 h2 h3 h4 h5) (rc_cwV hAm qw_1405 qw_13 qw_1408 qw_1407 qs_66 rfl rfl hd_X7_ofCaseNow ⟨Nat.le_of_ble_eq_true rfl, Nat.le_of_ble_eq_true rfl⟩) (rc_preV hAm hA hw [4] rfl rfl 4 rfl (q := vwCl[12]) rfl) rfl rfl hl.1 rfl (lv_room (Nat.le_of_ble_eq_true rfl)) dX7_digest_230 ⟨Nat.le_of_ble_eq_true rfl, Nat.le_of_ble_eq_true rfl⟩) hA hw [4] [0, 1, 2, 3] rfl rfl rfl (by decide) (fun r_77 u_78 H locs hp hw => ?_)
  obtain ⟨rfl, rfl⟩ := hp
  have hw : rc_W E A s [(h4, .inl (E.2.1 3, 40, .inl (fun _ => 0))), (h5, .inl (E.2.1 3, 40, .inl (fun _ => 0))), (h2, .inr (4, [.int 0, .ref (E.2.2 0), .int 0])), (h3, .inr (4, [.int 0, .ref (E.2.2 0), .int 0])), (h0, .inr (12, [.int 0, .ref h1, .ref h2, .ref h3, .ref h4, .ref h5, .int 1, .int 3, .int 50, .int (-1), .int (-1), .int (-1), .int (-1), .int 0, .int 100, .int 1000, .long 1756505280335213361]))] H locs := hw
  refine rc_callv (wr := [(h4, .inl (E.2.1 3, 40, .inl (fun _ => 0))), (h5, .inl (E.2.1 3, 40, .inl (fun _ => 0))), (h2, .inr (4, [.int 0, .ref (E.2.2 0), .int 0])), (h3, .inr (4, [.int 0, .ref (E.2.2 0), .int 0]))]) (va_runV (As := [.int (-1)]) (rest := []) (Ts := []) ⟨hx, hb, hml, hown, fun _ h9 => absurd h9 List.not_mem_nil⟩ (cw_X7_add_19 l E _ h0 h1 h2 h3 h4 h5) (rc_cwV hAm qw_1466 qw_13 qw_1469 qw_1468 qs_72 rfl rfl hd_X7_add ⟨Nat.le_of_ble_eq_true rfl, Nat.le_of_ble_eq_true rfl⟩) (rc_preV hAm hA hw [4] rfl rfl 4 rfl (q := vwCl[12]) rfl) rfl rfl hl.1 rfl (lv_room (Nat.le_of_ble_eq_true rfl)) dX7_digest_233 ⟨Nat.le_of_ble_eq_true rfl, Nat.le_of_ble_eq_true rfl⟩) hA hw [4] [0, 1, 2, 3] rfl rfl rfl (by decide) (fun u_80 H locs hp hw => ?_)
  obtain ⟨rfl⟩ := hp
  have hw : rc_W E A s [(h4, .inl (E.2.1 3, 40, .inl (fun _ => 0))), (h5, .inl (E.2.1 3, 40, .inl (fun _ => 0))), (h2, .inr (4, [.int 0, .ref (E.2.2 0), .int 0])), (h3, .inr (4, [.int 0, .ref (E.2.2 0), .int 0])), (h0, .inr (12, [.int 0, .ref h1, .ref h2, .ref h3, .ref h4, .ref h5, .int 1, .int 3, .int 50, .int (-1), .int (-1), .int (-1), .int (-1), .int 0, .int 100, .int 1000, .long (-888568530737040658)]))] H locs := hw
  refine lv_iinc (v := 3) (lv' := [(1, .int 3), (2, .int 6), (0, .ref h0)]) hx hb dX7_digest_236 hl (k := 0) rfl (by decide) (by decide) rfl (fun ls hl => ?_)
  refine lv_goto (tgt := 222) hx hb dX7_digest_239 (by decide) ?_
  refine lv_iload_n hx hb dX7_digest_222 rfl (lv_at hl 0 rfl) ?_
  refine lv_iconst (v := 4) hx hb dX7_digest_223 (by decide) ?_
  refine lv_icmp_ge (tgt := 242) hx hb dX7_digest_224 (by decide) (fun c9 => absurd c9 (by decide)) (fun _ => ?_)
  refine lv_aload_n hx hb dX7_digest_227 rfl (lv_at hl 2 rfl) ?_
  refine lv_aload_n hx hb dX7_digest_228 rfl (lv_at hl 2 rfl) ?_
  refine lv_iload_n hx hb dX7_digest_229 rfl (lv_at hl 0 rfl) ?_
  refine rc_calli (wr := [(h4, .inl (E.2.1 3, 40, .inl (fun _ => 0))), (h5, .inl (E.2.1 3, 40, .inl (fun _ => 0))), (h2, .inr (4, [.int 0, .ref (E.2.2 0), .int 0])), (h3, .inr (4, [.int 0, .ref (E.2.2 0), .int 0]))]) (va_runV (As := [.int 3]) (rest := [.ref h0]) (Ts := []) ⟨hx, hb, hml, hown, fun _ h9 => absurd h9 List.not_mem_nil⟩ (cw_X7_ofCaseNow_5 l E _ h0 h1 h2 h3 h4 h5) (rc_cwV hAm qw_1405 qw_13 qw_1408 qw_1407 qs_66 rfl rfl hd_X7_ofCaseNow ⟨Nat.le_of_ble_eq_true rfl, Nat.le_of_ble_eq_true rfl⟩) (rc_preV hAm hA hw [4] rfl rfl 4 rfl (q := vwCl[12]) rfl) rfl rfl hl.1 rfl (lv_room (Nat.le_of_ble_eq_true rfl)) dX7_digest_230 ⟨Nat.le_of_ble_eq_true rfl, Nat.le_of_ble_eq_true rfl⟩) hA hw [4] [0, 1, 2, 3] rfl rfl rfl (by decide) (fun r_81 u_82 H locs hp hw => ?_)
  obtain ⟨rfl, rfl⟩ := hp
  have hw : rc_W E A s [(h4, .inl (E.2.1 3, 40, .inl (fun _ => 0))), (h5, .inl (E.2.1 3, 40, .inl (fun _ => 0))), (h2, .inr (4, [.int 0, .ref (E.2.2 0), .int 0])), (h3, .inr (4, [.int 0, .ref (E.2.2 0), .int 0])), (h0, .inr (12, [.int 0, .ref h1, .ref h2, .ref h3, .ref h4, .ref h5, .int 1, .int 3, .int 50, .int (-1), .int (-1), .int (-1), .int (-1), .int 0, .int 100, .int 1000, .long (-888568530737040658)]))] H locs := hw
  refine rc_callv (wr := [(h4, .inl (E.2.1 3, 40, .inl (fun _ => 0))), (h5, .inl (E.2.1 3, 40, .inl (fun _ => 0))), (h2, .inr (4, [.int 0, .ref (E.2.2 0), .int 0])), (h3, .inr (4, [.int 0, .ref (E.2.2 0), .int 0]))]) (va_runV (As := [.int (-1)]) (rest := []) (Ts := []) ⟨hx, hb, hml, hown, fun _ h9 => absurd h9 List.not_mem_nil⟩ (cw_X7_add_20 l E _ h0 h1 h2 h3 h4 h5) (rc_cwV hAm qw_1466 qw_13 qw_1469 qw_1468 qs_72 rfl rfl hd_X7_add ⟨Nat.le_of_ble_eq_true rfl, Nat.le_of_ble_eq_true rfl⟩) (rc_preV hAm hA hw [4] rfl rfl 4 rfl (q := vwCl[12]) rfl) rfl rfl hl.1 rfl (lv_room (Nat.le_of_ble_eq_true rfl)) dX7_digest_233 ⟨Nat.le_of_ble_eq_true rfl, Nat.le_of_ble_eq_true rfl⟩) hA hw [4] [0, 1, 2, 3] rfl rfl rfl (by decide) (fun u_84 H locs hp hw => ?_)
  obtain ⟨rfl⟩ := hp
  have hw : rc_W E A s [(h4, .inl (E.2.1 3, 40, .inl (fun _ => 0))), (h5, .inl (E.2.1 3, 40, .inl (fun _ => 0))), (h2, .inr (4, [.int 0, .ref (E.2.2 0), .int 0])), (h3, .inr (4, [.int 0, .ref (E.2.2 0), .int 0])), (h0, .inr (12, [.int 0, .ref h1, .ref h2, .ref h3, .ref h4, .ref h5, .int 1, .int 3, .int 50, .int (-1), .int (-1), .int (-1), .int (-1), .int 0, .int 100, .int 1000, .long (-9098880379138708783)]))] H locs := hw
  refine lv_iinc (v := 4) (lv' := [(1, .int 4), (2, .int 6), (0, .ref h0)]) hx hb dX7_digest_236 hl (k := 0) rfl (by decide) (by decide) rfl (fun ls hl => ?_)
  refine lv_goto (tgt := 222) hx hb dX7_digest_239 (by decide) ?_
  refine lv_iload_n hx hb dX7_digest_222 rfl (lv_at hl 0 rfl) ?_
  refine lv_iconst (v := 4) hx hb dX7_digest_223 (by decide) ?_
  refine lv_icmp_ge (tgt := 242) hx hb dX7_digest_224 (by decide) (fun _ => ?_) (fun c9 => absurd (by decide) c9)
  refine lv_aload_n hx hb dX7_digest_242 rfl (lv_at hl 2 rfl) ?_
  refine lv_aload_n hx hb dX7_digest_243 rfl (lv_at hl 2 rfl) ?_
  refine lv_aload_n hx hb dX7_digest_244 rfl (lv_at hl 2 rfl) ?_
  refine rc_get (v := .int 0) hx hb hown hAm hw lyX7 4 rfl rfl 13 (by decide) qw_873 (fun _ h9 => h9) rfl dX7_digest_245 ?_
  refine rc_calli (wr := [(h4, .inl (E.2.1 3, 40, .inl (fun _ => 0))), (h5, .inl (E.2.1 3, 40, .inl (fun _ => 0))), (h2, .inr (4, [.int 0, .ref (E.2.2 0), .int 0])), (h3, .inr (4, [.int 0, .ref (E.2.2 0), .int 0]))]) (va_runV (As := [.int 0]) (rest := [.ref h0]) (Ts := []) ⟨hx, hb, hml, hown, fun _ h9 => absurd h9 List.not_mem_nil⟩ (cw_X7_moved_2 l E _ h0 h1 h2 h3 h4 h5) (rc_cwV hAm qw_1413 qw_13 qw_1416 qw_1415 qs_67 rfl rfl hd_X7_moved ⟨Nat.le_of_ble_eq_true rfl, Nat.le_of_ble_eq_true rfl⟩) (rc_preV hAm hA hw [4] rfl rfl 4 rfl (q := vwCl[12]) rfl) rfl rfl hl.1 rfl (lv_room (Nat.le_of_ble_eq_true rfl)) dX7_digest_248 ⟨Nat.le_of_ble_eq_true rfl, Nat.le_of_ble_eq_true rfl⟩) hA hw [4] [0, 1, 2, 3] rfl rfl rfl (by decide) (fun r_85 u_86 H locs hp hw => ?_)
  obtain ⟨rfl, rfl⟩ := hp
  have hw : rc_W E A s [(h4, .inl (E.2.1 3, 40, .inl (fun _ => 0))), (h5, .inl (E.2.1 3, 40, .inl (fun _ => 0))), (h2, .inr (4, [.int 0, .ref (E.2.2 0), .int 0])), (h3, .inr (4, [.int 0, .ref (E.2.2 0), .int 0])), (h0, .inr (12, [.int 0, .ref h1, .ref h2, .ref h3, .ref h4, .ref h5, .int 1, .int 3, .int 50, .int (-1), .int (-1), .int (-1), .int (-1), .int 0, .int 100, .int 1000, .long (-9098880379138708783)]))] H locs := hw
  refine rc_callv (wr := [(h4, .inl (E.2.1 3, 40, .inl (fun _ => 0))), (h5, .inl (E.2.1 3, 40, .inl (fun _ => 0))), (h2, .inr (4, [.int 0, .ref (E.2.2 0), .int 0])), (h3, .inr (4, [.int 0, .ref (E.2.2 0), .int 0]))]) (va_runV (As := [.int 0]) (rest := []) (Ts := []) ⟨hx, hb, hml, hown, fun _ h9 => absurd h9 List.not_mem_nil⟩ (cw_X7_add_21 l E _ h0 h1 h2 h3 h4 h5) (rc_cwV hAm qw_1466 qw_13 qw_1469 qw_1468 qs_72 rfl rfl hd_X7_add ⟨Nat.le_of_ble_eq_true rfl, Nat.le_of_ble_eq_true rfl⟩) (rc_preV hAm hA hw [4] rfl rfl 4 rfl (q := vwCl[12]) rfl) rfl rfl hl.1 rfl (lv_room (Nat.le_of_ble_eq_true rfl)) dX7_digest_251 ⟨Nat.le_of_ble_eq_true rfl, Nat.le_of_ble_eq_true rfl⟩) hA hw [4] [0, 1, 2, 3] rfl rfl rfl (by decide) (fun u_88 H locs hp hw => ?_)
  obtain ⟨rfl⟩ := hp
  have hw : rc_W E A s [(h4, .inl (E.2.1 3, 40, .inl (fun _ => 0))), (h5, .inl (E.2.1 3, 40, .inl (fun _ => 0))), (h2, .inr (4, [.int 0, .ref (E.2.2 0), .int 0])), (h3, .inr (4, [.int 0, .ref (E.2.2 0), .int 0])), (h0, .inr (12, [.int 0, .ref h1, .ref h2, .ref h3, .ref h4, .ref h5, .int 1, .int 3, .int 50, .int (-1), .int (-1), .int (-1), .int (-1), .int 0, .int 100, .int 1000, .long (-5364130647656698033)]))] H locs := hw
  refine lv_aload_n hx hb dX7_digest_254 rfl (lv_at hl 2 rfl) ?_
  refine rc_get (v := .long (-5364130647656698033)) hx hb hown hAm hw lyX7 4 rfl rfl 16 (by decide) qw_876 (fun _ h9 => h9) rfl dX7_digest_255 ?_
  exact rc_lret (v := (-5364130647656698033)) hx hb hr hlocks hw [(h0, .inr (12, [.int 0, .ref h1, .ref h2, .ref h3, .ref h4, .ref h5, .int 1, .int 3, .int 50, .int (-1), .int (-1), .int (-1), .int (-1), .int 0, .int 100, .int 1000, .long (-5364130647656698033)])), (h2, .inr (4, [.int 0, .ref (E.2.2 0), .int 0])), (h3, .inr (4, [.int 0, .ref (E.2.2 0), .int 0])), (h4, .inl (E.2.1 3, 40, .inl (fun _ => 0))), (h5, .inl (E.2.1 3, 40, .inl (fun _ => 0)))] (⟨rfl, rfl⟩) [4, 2, 3, 0, 1] rfl (by decide) (Nat.le_of_ble_eq_true rfl) (Nat.le_of_ble_eq_true rfl) dX7_digest_258
set_option maxHeartbeats 4000000 in
set_option maxRecDepth 100000 in
theorem cw_X7_is_12 (l : Launch) (E : rc_E) (sz : Nat) (x0 : Int32) : rc_Mi l yX7_is [Cond.code yX7_is cX7_is 3 (some FieldType.boolean)] { frames := 0, cells := 0, slots := 0, locals := 0 } E [.int x0, .int 1, .int 60] [] sz (S := va_W) (fun (r : Int32) (u : va_W) => (x0 < 1 ∧ 0 = r ∧ u = []) ∨ (¬ x0 < 1 ∧ 60 < x0 ∧ 0 = r ∧ u = []) ∨ (¬ x0 < 1 ∧ ¬ 60 < x0 ∧ 1 = r ∧ u = [])) (fun u => u) 0 0 := by
  refine rc_ini (cc := cX7_is) (maxL := 3) (ret := (some FieldType.boolean)) (by decide) rfl (Nat.le_of_ble_eq_true rfl) ?_
  intro p e s m args below meth c ls A hx hb hr hml _ hown hlocks hin hA hAm hw hl
  have hown : s.vm.findClass RX7 = some m.cls := hown
  have hl : lv_has ls 3 [(0, .int x0), (1, .int 1), (2, .int 60)] := hl
  refine lv_iload_n hx hb dX7_is_0 rfl (lv_at hl 0 rfl) ?_
  refine lv_iload_n hx hb dX7_is_1 rfl (lv_at hl 1 rfl) ?_
  refine lv_icmp_lt (tgt := 14) hx hb dX7_is_2 (by decide) (fun c_1 => ?_) (fun c_1 => ?_)
  · refine lv_iconst (v := 0) hx hb dX7_is_14 (by decide) ?_
    exact rc_zret (v := 0) hx hb hr hlocks hw rfl [] (Or.inl ⟨c_1, rfl, rfl⟩) [] rfl (by decide) (Nat.le_of_ble_eq_true rfl) (Nat.le_of_ble_eq_true rfl) dX7_is_15
  · refine lv_iload_n hx hb dX7_is_5 rfl (lv_at hl 0 rfl) ?_
    refine lv_iload_n hx hb dX7_is_6 rfl (lv_at hl 2 rfl) ?_
    refine lv_icmp_gt (tgt := 14) hx hb dX7_is_7 (by decide) (fun c_2 => ?_) (fun c_2 => ?_)
    · refine lv_iconst (v := 0) hx hb dX7_is_14 (by decide) ?_
      exact rc_zret (v := 0) hx hb hr hlocks hw rfl [] (Or.inr (Or.inl ⟨c_1, c_2, rfl, rfl⟩)) [] rfl (by decide) (Nat.le_of_ble_eq_true rfl) (Nat.le_of_ble_eq_true rfl) dX7_is_15
    · refine lv_iconst (v := 1) hx hb dX7_is_10 (by decide) ?_
      refine lv_goto (tgt := 15) hx hb dX7_is_11 (by decide) ?_
      exact rc_zret (v := 1) hx hb hr hlocks hw rfl [] (Or.inr (Or.inr ⟨c_1, c_2, rfl, rfl⟩)) [] rfl (by decide) (Nat.le_of_ble_eq_true rfl) (Nat.le_of_ble_eq_true rfl) dX7_is_15
set_option maxHeartbeats 4000000 in
set_option maxRecDepth 100000 in
theorem cw_X7_is_13 (l : Launch) (E : rc_E) (sz : Nat) (x0 : Int32) : rc_Mi l yX7_is [Cond.code yX7_is cX7_is 3 (some FieldType.boolean)] { frames := 0, cells := 0, slots := 0, locals := 0 } E [.int x0, .int 50, .int 200] [] sz (S := va_W) (fun (r : Int32) (u : va_W) => (x0 < 50 ∧ 0 = r ∧ u = []) ∨ (¬ x0 < 50 ∧ 200 < x0 ∧ 0 = r ∧ u = []) ∨ (¬ x0 < 50 ∧ ¬ 200 < x0 ∧ 1 = r ∧ u = [])) (fun u => u) 0 0 := by
  refine rc_ini (cc := cX7_is) (maxL := 3) (ret := (some FieldType.boolean)) (by decide) rfl (Nat.le_of_ble_eq_true rfl) ?_
  intro p e s m args below meth c ls A hx hb hr hml _ hown hlocks hin hA hAm hw hl
  have hown : s.vm.findClass RX7 = some m.cls := hown
  have hl : lv_has ls 3 [(0, .int x0), (1, .int 50), (2, .int 200)] := hl
  refine lv_iload_n hx hb dX7_is_0 rfl (lv_at hl 0 rfl) ?_
  refine lv_iload_n hx hb dX7_is_1 rfl (lv_at hl 1 rfl) ?_
  refine lv_icmp_lt (tgt := 14) hx hb dX7_is_2 (by decide) (fun c_1 => ?_) (fun c_1 => ?_)
  · refine lv_iconst (v := 0) hx hb dX7_is_14 (by decide) ?_
    exact rc_zret (v := 0) hx hb hr hlocks hw rfl [] (Or.inl ⟨c_1, rfl, rfl⟩) [] rfl (by decide) (Nat.le_of_ble_eq_true rfl) (Nat.le_of_ble_eq_true rfl) dX7_is_15
  · refine lv_iload_n hx hb dX7_is_5 rfl (lv_at hl 0 rfl) ?_
    refine lv_iload_n hx hb dX7_is_6 rfl (lv_at hl 2 rfl) ?_
    refine lv_icmp_gt (tgt := 14) hx hb dX7_is_7 (by decide) (fun c_2 => ?_) (fun c_2 => ?_)
    · refine lv_iconst (v := 0) hx hb dX7_is_14 (by decide) ?_
      exact rc_zret (v := 0) hx hb hr hlocks hw rfl [] (Or.inr (Or.inl ⟨c_1, c_2, rfl, rfl⟩)) [] rfl (by decide) (Nat.le_of_ble_eq_true rfl) (Nat.le_of_ble_eq_true rfl) dX7_is_15
    · refine lv_iconst (v := 1) hx hb dX7_is_10 (by decide) ?_
      refine lv_goto (tgt := 15) hx hb dX7_is_11 (by decide) ?_
      exact rc_zret (v := 1) hx hb hr hlocks hw rfl [] (Or.inr (Or.inr ⟨c_1, c_2, rfl, rfl⟩)) [] rfl (by decide) (Nat.le_of_ble_eq_true rfl) (Nat.le_of_ble_eq_true rfl) dX7_is_15
set_option maxHeartbeats 4000000 in
set_option maxRecDepth 100000 in
theorem cw_Jxd2413_init_da8c8 (l : Launch) (E : rc_E) (sz : Nat) (h0 : Nat) : rc_Mv l yJxd2413_init_da8c8 [Cond.code yJxd2413_init_da8c8 cJxd2413_init_da8c8 1 (none : Option FieldType)] { frames := 1, cells := 0, slots := 0, locals := 12 } E [.ref h0] [] sz (S := va_W) (fun (u : va_W) => (u = [])) (fun u => u) 0 0 := by
  refine rc_inv (cc := cJxd2413_init_da8c8) (maxL := 1) (ret := (none : Option FieldType)) (by decide) rfl (Nat.le_of_ble_eq_true rfl) ?_
  intro p e s m args below meth c ls A hx hb hr hml _ hown hlocks hin hA hAm hw hl
  have hown : s.vm.findClass RJxd2413 = some m.cls := hown
  have hl : lv_has ls 1 [(0, .ref h0)] := hl
  refine lv_aload_n hx hb dJxd2413_init_da8c8_0 rfl (lv_at hl 0 rfl) ?_
  refine rc_obj hx hb hown hAm qw_944 qw_40 qw_41 (by rw [hml]; exact hl.1) (Nat.le_of_ble_eq_true rfl) (Nat.le_of_ble_eq_true rfl) dJxd2413_init_da8c8_1 ?_
  exact rc_vret hx hb hr hlocks hw [] (rfl) [] rfl (by decide) (Nat.le_of_ble_eq_true rfl) (Nat.le_of_ble_eq_true rfl) dJxd2413_init_da8c8_4
theorem hd_Jxd2413_init_da8c8 : yJxd2413_init_da8c8.cls ≠ "java/lang/invoke/MethodHandle" ∧ yJxd2413_init_da8c8.cls ≠ "java/lang/invoke/VarHandle" ∧ (parseMethodDescriptor yJxd2413_init_da8c8.desc).map (fun d => d.parameters.length) = some 0 := by decide +kernel
set_option maxHeartbeats 4000000 in
set_option maxRecDepth 100000 in
theorem cw_J6_init_d00df (l : Launch) (E : rc_E) (sz : Nat) (h0 : Nat) (x0 : Int32) : rc_Mv l yJ6_init_d00df [Cond.code yJ6_init_d00df cJ6_init_d00df 2 (none : Option FieldType)] { frames := 2, cells := 0, slots := 0, locals := 32 } E [.ref h0, .int x0] [(h0, .inr (2, [.int 0]))] sz (S := va_W) (fun (u : va_W) => (u = [(h0, .inr (2, [.int x0]))])) (fun u => u) 0 0 := by
  refine rc_inv (cc := cJ6_init_d00df) (maxL := 2) (ret := (none : Option FieldType)) (by decide) rfl (Nat.le_of_ble_eq_true rfl) ?_
  intro p e s m args below meth c ls A hx hb hr hml _ hown hlocks hin hA hAm hw hl
  have hown : s.vm.findClass RJ6 = some m.cls := hown
  have hl : lv_has ls 2 [(0, .ref h0), (1, .int x0)] := hl
  refine lv_aload_n hx hb dJ6_init_d00df_0 rfl (lv_at hl 0 rfl) ?_
  refine rc_callv (wr := [(h0, .inr (2, [.int 0]))]) (va_runI (As := []) (rest := []) (Ts := []) ⟨hx, hb, hml, hown, fun _ h9 => absurd h9 List.not_mem_nil⟩ (cw_Jxd2413_init_da8c8 l E _ h0) (rc_cwI hAm qw_941 qw_20 qw_943 qw_942 rfl rfl rfl hd_Jxd2413_init_da8c8 ⟨Nat.le_of_ble_eq_true rfl, Nat.le_of_ble_eq_true rfl⟩) (rc_preS hAm hA hw [] rfl rfl) rfl rfl hl.1 rfl (lv_room (Nat.le_of_ble_eq_true rfl)) dJ6_init_d00df_1 ⟨Nat.le_of_ble_eq_true rfl, Nat.le_of_ble_eq_true rfl⟩) hA hw [] [0] rfl rfl rfl (by decide) (fun u_2 H locs hp hw => ?_)
  obtain ⟨rfl⟩ := hp
  have hw : rc_W E A s [(h0, .inr (2, [.int 0]))] H locs := hw
  refine lv_aload_n hx hb dJ6_init_d00df_4 rfl (lv_at hl 0 rfl) ?_
  refine lv_iload_n hx hb dJ6_init_d00df_5 rfl (lv_at hl 1 rfl) ?_
  refine rc_putF hx hb hown hAm hw lyJ6 tyJ6 tyJ6_ok nmJ6 0 rfl rfl 0 (by decide) qw_945 (fun _ h9 => h9) rfl hin rfl rfl rfl (Nat.le_of_ble_eq_true rfl) [(h0, .inr (2, [.int x0]))] rfl dJ6_init_d00df_6 (fun H locs hw => ?_)
  exact rc_vret hx hb hr hlocks hw [(h0, .inr (2, [.int x0]))] (rfl) [0] rfl (by decide) (Nat.le_of_ble_eq_true rfl) (Nat.le_of_ble_eq_true rfl) dJ6_init_d00df_9
theorem hd_J6_init_d00df : yJ6_init_d00df.cls ≠ "java/lang/invoke/MethodHandle" ∧ yJ6_init_d00df.cls ≠ "java/lang/invoke/VarHandle" ∧ (parseMethodDescriptor yJ6_init_d00df.desc).map (fun d => d.parameters.length) = some 1 := by decide +kernel
set_option maxHeartbeats 4000000 in
set_option maxRecDepth 100000 in
theorem cw_J6_valueOf_2dffe (l : Launch) (E : rc_E) (sz : Nat) (x0 : Int32) : rc_Mr l yJ6_valueOf_2dffe [Cond.code yJ6_valueOf_2dffe cJ6_valueOf_2dffe 1 (some (FieldType.object "java/lang/Integer"))] { frames := 3, cells := 1, slots := 1, locals := 53 } E [.int x0] [] sz (S := va_W) (fun (u : va_W) (r : Nat) => (∃ q1 : Nat, x0 < (-128) ∧ q1 = r ∧ u = [(q1, .inr (2, [.int x0]))]) ∨ (∃ q2 : Nat, ¬ x0 < (-128) ∧ 127 < x0 ∧ q2 = r ∧ u = [(q2, .inr (2, [.int x0]))]) ∨ (¬ x0 < (-128) ∧ ¬ 127 < x0 ∧ (E.2.2 (2 + (x0 + 128).toNatClampNeg)) = r ∧ u = [])) (fun u => u) 1 1 := by
  refine rc_inr (cc := cJ6_valueOf_2dffe) (maxL := 1) (ret := (some (FieldType.object "java/lang/Integer"))) (by decide) rfl (Nat.le_of_ble_eq_true rfl) ?_
  intro p e s m args below meth c ls A hx hb hr hml _ hown hlocks hin hA hAm hw hl
  have hown : s.vm.findClass RJ6 = some m.cls := hown
  have hl : lv_has ls 1 [(0, .int x0)] := hl
  refine lv_iload_n hx hb dJ6_valueOf_2dffe_0 rfl (lv_at hl 0 rfl) ?_
  refine lv_bipush (v := (-128)) hx hb dJ6_valueOf_2dffe_1 (by decide) ?_
  refine lv_icmp_lt (tgt := 23) hx hb dJ6_valueOf_2dffe_3 (by decide) (fun c_1 => ?_) (fun c_1 => ?_)
  · refine rc_new (C := RJ6) (ci := 2) hx hb hown hAm hA hw lyJ6 tyJ6 tyJ6_ok rfl qw_936 qw_937 qw_21 [.int 0] rfl (Nat.le_of_ble_eq_true rfl) (Nat.le_of_ble_eq_true rfl) dJ6_valueOf_2dffe_23 (fun q1 H hw => ?_)
    have hw : rc_W E A s [(q1, .inr (2, [.int 0]))] H _ := hw
    refine lv_dup hx hb dJ6_valueOf_2dffe_26 rfl ?_
    refine lv_iload_n hx hb dJ6_valueOf_2dffe_27 rfl (lv_at hl 0 rfl) ?_
    refine rc_callv (wr := []) (va_runI (As := [.int x0]) (rest := [.ref q1]) (Ts := []) ⟨hx, hb, hml, hown, fun _ h9 => absurd h9 List.not_mem_nil⟩ (cw_J6_init_d00df l E _ q1 x0) (rc_cwI hAm qw_938 qw_21 qw_940 qw_939 rfl rfl rfl hd_J6_init_d00df ⟨Nat.le_of_ble_eq_true rfl, Nat.le_of_ble_eq_true rfl⟩) (rc_preS hAm hA hw [0] rfl rfl) rfl rfl hl.1 rfl (lv_room (Nat.le_of_ble_eq_true rfl)) dJ6_valueOf_2dffe_28 ⟨Nat.le_of_ble_eq_true rfl, Nat.le_of_ble_eq_true rfl⟩) hA hw [0] [] rfl rfl rfl (by decide) (fun u_3 H locs hp hw => ?_)
    obtain ⟨rfl⟩ := hp
    have hw : rc_W E A s [(q1, .inr (2, [.int x0]))] H locs := hw
    exact rc_aret (v := q1) hx hb hr (by first | exact Or.inl ⟨_, rfl⟩ | exact Or.inr ⟨_, rfl⟩) hlocks hw [(q1, .inr (2, [.int x0]))] (Or.inl ⟨q1, c_1, rfl, rfl⟩) [0] rfl (by decide) (Nat.le_of_ble_eq_true rfl) (Nat.le_of_ble_eq_true rfl) dJ6_valueOf_2dffe_31
  · refine lv_iload_n hx hb dJ6_valueOf_2dffe_6 rfl (lv_at hl 0 rfl) ?_
    refine va_gets (v := .int 127) hx hb hAm.2.2.2.1 hw.2.2 hown (hAm.wd qw_932 rfl rfl) (fun _ h9 => h9) dJ6_valueOf_2dffe_7 ?_
    refine lv_icmp_gt (tgt := 23) hx hb dJ6_valueOf_2dffe_10 (by decide) (fun c_4 => ?_) (fun c_4 => ?_)
    · refine rc_new (C := RJ6) (ci := 2) hx hb hown hAm hA hw lyJ6 tyJ6 tyJ6_ok rfl qw_936 qw_937 qw_21 [.int 0] rfl (Nat.le_of_ble_eq_true rfl) (Nat.le_of_ble_eq_true rfl) dJ6_valueOf_2dffe_23 (fun q2 H hw => ?_)
      have hw : rc_W E A s [(q2, .inr (2, [.int 0]))] H _ := hw
      refine lv_dup hx hb dJ6_valueOf_2dffe_26 rfl ?_
      refine lv_iload_n hx hb dJ6_valueOf_2dffe_27 rfl (lv_at hl 0 rfl) ?_
      refine rc_callv (wr := []) (va_runI (As := [.int x0]) (rest := [.ref q2]) (Ts := []) ⟨hx, hb, hml, hown, fun _ h9 => absurd h9 List.not_mem_nil⟩ (cw_J6_init_d00df l E _ q2 x0) (rc_cwI hAm qw_938 qw_21 qw_940 qw_939 rfl rfl rfl hd_J6_init_d00df ⟨Nat.le_of_ble_eq_true rfl, Nat.le_of_ble_eq_true rfl⟩) (rc_preS hAm hA hw [0] rfl rfl) rfl rfl hl.1 rfl (lv_room (Nat.le_of_ble_eq_true rfl)) dJ6_valueOf_2dffe_28 ⟨Nat.le_of_ble_eq_true rfl, Nat.le_of_ble_eq_true rfl⟩) hA hw [0] [] rfl rfl rfl (by decide) (fun u_6 H locs hp hw => ?_)
      obtain ⟨rfl⟩ := hp
      have hw : rc_W E A s [(q2, .inr (2, [.int x0]))] H locs := hw
      exact rc_aret (v := q2) hx hb hr (by first | exact Or.inl ⟨_, rfl⟩ | exact Or.inr ⟨_, rfl⟩) hlocks hw [(q2, .inr (2, [.int x0]))] (Or.inr (Or.inl ⟨q2, c_1, c_4, rfl, rfl⟩)) [0] rfl (by decide) (Nat.le_of_ble_eq_true rfl) (Nat.le_of_ble_eq_true rfl) dJ6_valueOf_2dffe_31
    · refine va_gets (v := .ref (E.2.2 1)) hx hb hAm.2.2.2.2.1 hw.2.2 hown (hAm.wd qw_934 rfl rfl) (fun _ h9 => h9) dJ6_valueOf_2dffe_13 ?_
      refine lv_iload_n hx hb dJ6_valueOf_2dffe_16 rfl (lv_at hl 0 rfl) ?_
      refine lv_sipush (v := 128) hx hb dJ6_valueOf_2dffe_17 (by decide) ?_
      refine lv_iadd hx hb dJ6_valueOf_2dffe_20 ?_
      refine vb_tq (v := .ref (E.2.2 (2 + (x0 + 128).toNatClampNeg))) hx hb hAm.2.2.2.2.2.1 hw.2.2 (rc_smallIn c_1 c_4) rfl dJ6_valueOf_2dffe_21 ?_
      exact rc_aret (v := (E.2.2 (2 + (x0 + 128).toNatClampNeg))) hx hb hr (by first | exact Or.inl ⟨_, rfl⟩ | exact Or.inr ⟨_, rfl⟩) hlocks hw [] (Or.inr (Or.inr ⟨c_1, c_4, rfl, rfl⟩)) [] rfl (by decide) (Nat.le_of_ble_eq_true rfl) (Nat.le_of_ble_eq_true rfl) dJ6_valueOf_2dffe_22
theorem hd_J6_valueOf_2dffe : yJ6_valueOf_2dffe.cls ≠ "java/lang/invoke/MethodHandle" ∧ yJ6_valueOf_2dffe.cls ≠ "java/lang/invoke/VarHandle" ∧ (parseMethodDescriptor yJ6_valueOf_2dffe.desc).map (fun d => d.parameters.length) = some 1 := by decide +kernel
set_option maxHeartbeats 4000000 in
set_option maxRecDepth 100000 in
theorem cw_Jx4a65c_add_72be8_42 (l : Launch) (E : rc_E) (sz : Nat) (h0 : Nat) (k0 : Nat) (hk0 : k0 < 256) : rc_Mv l yJx4a65c_add_72be8 [Cond.code yJx4a65c_add_72be8 cJx4a65c_add_72be8 4 (none : Option FieldType)] { frames := 3, cells := 1, slots := 10, locals := 57 } E [.ref h0, .ref (E.2.2 (2 + k0)), .ref (E.2.2 0), .int 0] [(h0, .inr (4, [.int 1, .ref (E.2.2 0), .int 0]))] sz (S := va_W) (fun (u : va_W) => (∃ q1 : Nat, u = [(h0, .inr (4, [.int 1, .ref q1, .int 1])), (q1, .inl (E.2.1 2, 10, .inr (.inr (.inr (.inr (rc_rows [(E.2.2 (2 + k0))]))))))])) (fun u => u) 1 10 := by
  refine rc_inv (cc := cJx4a65c_add_72be8) (maxL := 4) (ret := (none : Option FieldType)) (by decide) rfl (Nat.le_of_ble_eq_true rfl) ?_
  intro p e s m args below meth c ls A hx hb hr hml _ hown hlocks hin hA hAm hw hl
  have hown : s.vm.findClass RJx4a65c = some m.cls := hown
  have hl : lv_has ls 4 [(0, .ref h0), (1, .ref (E.2.2 (2 + k0))), (2, .ref (E.2.2 0)), (3, .int 0)] := hl
  refine lv_iload_n hx hb dJx4a65c_add_72be8_0 rfl (lv_at hl 3 rfl) ?_
  refine lv_aload_n hx hb dJx4a65c_add_72be8_1 rfl (lv_at hl 2 rfl) ?_
  refine va_tlen hx hb hAm.2.2.1.2 hw.2.2 (v := 0) rfl dJx4a65c_add_72be8_2 ?_
  refine lv_icmp_ne (tgt := 11) hx hb dJx4a65c_add_72be8_3 (by decide) (fun c9 => absurd (by decide) c9) (fun _ => ?_)
  refine lv_aload_n hx hb dJx4a65c_add_72be8_6 rfl (lv_at hl 0 rfl) ?_
  refine rc_callr (wr := []) (va_runV (As := []) (rest := []) (Ts := []) ⟨hx, hb, hml, hown, fun _ h9 => absurd h9 List.not_mem_nil⟩ (cw_Jx4a65c_grow_d5877 l E _ h0) (rc_cwV hAm qw_187 qw_4 qw_190 qw_189 qs_1 rfl rfl hd_Jx4a65c_grow_d5877 ⟨Nat.le_of_ble_eq_true rfl, Nat.le_of_ble_eq_true rfl⟩) (rc_preV hAm hA hw [0] rfl rfl 0 rfl (q := vwCl[4]) rfl) rfl rfl hl.1 rfl (lv_room (Nat.le_of_ble_eq_true rfl)) dJx4a65c_add_72be8_7 ⟨Nat.le_of_ble_eq_true rfl, Nat.le_of_ble_eq_true rfl⟩) hA hw [0] [] rfl rfl rfl (by decide) (fun u_2 r_1 H locs hp hw => ?_)
  obtain ⟨q1, rfl, rfl⟩ := hp
  have hw : rc_W E A s [(h0, .inr (4, [.int 1, .ref q1, .int 0])), (q1, .inl (E.2.1 2, 10, .inr (.inr (.inr (.inr (rc_rows []))))))] H locs := hw
  refine lv_astore_n (lv' := [(2, .ref q1), (0, .ref h0), (1, .ref (E.2.2 (2 + k0))), (3, .int 0)]) hx hb dJx4a65c_add_72be8_10 rfl hl (by decide) rfl (fun ls hl => ?_)
  refine lv_aload_n hx hb dJx4a65c_add_72be8_11 rfl (lv_at hl 0 rfl) ?_
  refine lv_iload_n hx hb dJx4a65c_add_72be8_12 rfl (lv_at hl 3 rfl) ?_
  refine lv_aload_n hx hb dJx4a65c_add_72be8_13 rfl (lv_at hl 2 rfl) ?_
  refine rc_qastIR hx hb hAm hw 1 rfl qw_1482 hk0 rfl (vp_in_iff.mpr (by decide)) [(h0, .inr (4, [.int 1, .ref q1, .int 0])), (q1, .inl (E.2.1 2, 10, .inr (.inr (.inr (.inr (rc_rows [(E.2.2 (2 + k0))]))))))] rfl dJx4a65c_add_72be8_14 (fun H locs hw => ?_)
  refine lv_aload_n hx hb dJx4a65c_add_72be8_15 rfl (lv_at hl 1 rfl) ?_
  refine lv_iload_n hx hb dJx4a65c_add_72be8_16 rfl (lv_at hl 3 rfl) ?_
  refine lv_iconst (v := 1) hx hb dJx4a65c_add_72be8_17 (by decide) ?_
  refine lv_iadd hx hb dJx4a65c_add_72be8_18 ?_
  refine rc_topi 1 (by decide) ?_
  refine rc_put hx hb hown hAm hw lyJx4a65c tyJx4a65c tyJx4a65c_ok nmJx4a65c 0 rfl rfl 2 (by decide) qw_59 (fun _ h9 => h9) rfl rfl (by decide +kernel) (Nat.le_of_ble_eq_true rfl) [(h0, .inr (4, [.int 1, .ref q1, .int 1])), (q1, .inl (E.2.1 2, 10, .inr (.inr (.inr (.inr (rc_rows [(E.2.2 (2 + k0))]))))))] rfl dJx4a65c_add_72be8_19 (fun H locs hw => ?_)
  exact rc_vret hx hb hr hlocks hw [(h0, .inr (4, [.int 1, .ref q1, .int 1])), (q1, .inl (E.2.1 2, 10, .inr (.inr (.inr (.inr (rc_rows [(E.2.2 (2 + k0))]))))))] (⟨q1, rfl⟩) [0, 1] rfl (by decide) (Nat.le_of_ble_eq_true rfl) (Nat.le_of_ble_eq_true rfl) dJx4a65c_add_72be8_22
set_option maxHeartbeats 4000000 in
set_option maxRecDepth 100000 in
theorem cw_Jx4a65c_add_9ea2d_42 (l : Launch) (E : rc_E) (sz : Nat) (h0 : Nat) (k0 : Nat) (hk0 : k0 < 256) : rc_Mi l yJx4a65c_add_9ea2d [Cond.code yJx4a65c_add_9ea2d cJx4a65c_add_9ea2d 2 (some FieldType.boolean)] { frames := 4, cells := 1, slots := 10, locals := 80 } E [.ref h0, .ref (E.2.2 (2 + k0))] [(h0, .inr (4, [.int 0, .ref (E.2.2 0), .int 0]))] sz (S := va_W) (fun (r : Int32) (u : va_W) => (∃ q1 : Nat, 1 = r ∧ u = [(h0, .inr (4, [.int 1, .ref q1, .int 1])), (q1, .inl (E.2.1 2, 10, .inr (.inr (.inr (.inr (rc_rows [(E.2.2 (2 + k0))]))))))])) (fun u => u) 1 10 := by
  refine rc_ini (cc := cJx4a65c_add_9ea2d) (maxL := 2) (ret := (some FieldType.boolean)) (by decide) rfl (Nat.le_of_ble_eq_true rfl) ?_
  intro p e s m args below meth c ls A hx hb hr hml _ hown hlocks hin hA hAm hw hl
  have hown : s.vm.findClass RJx4a65c = some m.cls := hown
  have hl : lv_has ls 2 [(0, .ref h0), (1, .ref (E.2.2 (2 + k0)))] := hl
  refine lv_aload_n hx hb dJx4a65c_add_9ea2d_0 rfl (lv_at hl 0 rfl) ?_
  refine lv_dup hx hb dJx4a65c_add_9ea2d_1 rfl ?_
  refine rc_get (v := .int 0) hx hb hown hAm hw lyJx4a65c 0 rfl rfl 0 (by decide) qw_63 (fun x9 h9 => u_same (hAm.wd (a := args) qw_62 rfl rfl) x9 h9) rfl dJx4a65c_add_9ea2d_2 ?_
  refine lv_iconst (v := 1) hx hb dJx4a65c_add_9ea2d_5 (by decide) ?_
  refine lv_iadd hx hb dJx4a65c_add_9ea2d_6 ?_
  refine rc_topi 1 (by decide) ?_
  refine rc_put hx hb hown hAm hw lyJx4a65c tyJx4a65c tyJx4a65c_ok nmJx4a65c 0 rfl rfl 0 (by decide) qw_63 (fun x9 h9 => u_same (hAm.wd (a := args) qw_62 rfl rfl) x9 h9) rfl rfl (by decide +kernel) (Nat.le_of_ble_eq_true rfl) [(h0, .inr (4, [.int 1, .ref (E.2.2 0), .int 0]))] rfl dJx4a65c_add_9ea2d_7 (fun H locs hw => ?_)
  refine lv_aload_n hx hb dJx4a65c_add_9ea2d_10 rfl (lv_at hl 0 rfl) ?_
  refine lv_aload_n hx hb dJx4a65c_add_9ea2d_11 rfl (lv_at hl 1 rfl) ?_
  refine lv_aload_n hx hb dJx4a65c_add_9ea2d_12 rfl (lv_at hl 0 rfl) ?_
  refine rc_get (v := .ref (E.2.2 0)) hx hb hown hAm hw lyJx4a65c 0 rfl rfl 1 (by decide) qw_56 (fun _ h9 => h9) rfl dJx4a65c_add_9ea2d_13 ?_
  refine lv_aload_n hx hb dJx4a65c_add_9ea2d_16 rfl (lv_at hl 0 rfl) ?_
  refine rc_get (v := .int 0) hx hb hown hAm hw lyJx4a65c 0 rfl rfl 2 (by decide) qw_59 (fun _ h9 => h9) rfl dJx4a65c_add_9ea2d_17 ?_
  refine rc_callv (wr := []) (va_runV (As := [.ref (E.2.2 (2 + k0)), .ref (E.2.2 0), .int 0]) (rest := []) (Ts := []) ⟨hx, hb, hml, hown, fun _ h9 => absurd h9 List.not_mem_nil⟩ (cw_Jx4a65c_add_72be8_42 l E _ h0 k0 hk0) (rc_cwV hAm qw_183 qw_4 qw_186 qw_185 qs_0 rfl rfl hd_Jx4a65c_add_72be8 ⟨Nat.le_of_ble_eq_true rfl, Nat.le_of_ble_eq_true rfl⟩) (rc_preV hAm hA hw [0] rfl rfl 0 rfl (q := vwCl[4]) rfl) rfl rfl hl.1 rfl (lv_room (Nat.le_of_ble_eq_true rfl)) dJx4a65c_add_9ea2d_20 ⟨Nat.le_of_ble_eq_true rfl, Nat.le_of_ble_eq_true rfl⟩) hA hw [0] [] rfl rfl rfl (by decide) (fun u_2 H locs hp hw => ?_)
  obtain ⟨q1, rfl⟩ := hp
  have hw : rc_W E A s [(h0, .inr (4, [.int 1, .ref q1, .int 1])), (q1, .inl (E.2.1 2, 10, .inr (.inr (.inr (.inr (rc_rows [(E.2.2 (2 + k0))]))))))] H locs := hw
  refine lv_iconst (v := 1) hx hb dJx4a65c_add_9ea2d_23 (by decide) ?_
  exact rc_zret (v := 1) hx hb hr hlocks hw rfl [(h0, .inr (4, [.int 1, .ref q1, .int 1])), (q1, .inl (E.2.1 2, 10, .inr (.inr (.inr (.inr (rc_rows [(E.2.2 (2 + k0))]))))))] (⟨q1, rfl, rfl⟩) [0, 1] rfl (by decide) (Nat.le_of_ble_eq_true rfl) (Nat.le_of_ble_eq_true rfl) dJx4a65c_add_9ea2d_24
set_option maxHeartbeats 4000000 in
set_option maxRecDepth 100000 in
theorem cw_Jx4a65c_add_72be8_43 (l : Launch) (E : rc_E) (sz : Nat) (h0 : Nat) (h1 : Nat) (x0 : Int32) : rc_Mv l yJx4a65c_add_72be8 [Cond.code yJx4a65c_add_72be8 cJx4a65c_add_72be8 4 (none : Option FieldType)] { frames := 3, cells := 1, slots := 10, locals := 57 } E [.ref h0, .ref h1, .ref (E.2.2 0), .int 0] [(h0, .inr (4, [.int 1, .ref (E.2.2 0), .int 0])), (h1, .inr (2, [.int x0]))] sz (S := va_W) (fun (u : va_W) => (∃ q1 : Nat, u = [(h0, .inr (4, [.int 1, .ref q1, .int 1])), (h1, .inr (2, [.int x0])), (q1, .inl (E.2.1 2, 10, .inr (.inr (.inr (.inr (rc_rows [h1]))))))])) (fun u => u) 1 10 := by
  refine rc_inv (cc := cJx4a65c_add_72be8) (maxL := 4) (ret := (none : Option FieldType)) (by decide) rfl (Nat.le_of_ble_eq_true rfl) ?_
  intro p e s m args below meth c ls A hx hb hr hml _ hown hlocks hin hA hAm hw hl
  have hown : s.vm.findClass RJx4a65c = some m.cls := hown
  have hl : lv_has ls 4 [(0, .ref h0), (1, .ref h1), (2, .ref (E.2.2 0)), (3, .int 0)] := hl
  refine lv_iload_n hx hb dJx4a65c_add_72be8_0 rfl (lv_at hl 3 rfl) ?_
  refine lv_aload_n hx hb dJx4a65c_add_72be8_1 rfl (lv_at hl 2 rfl) ?_
  refine va_tlen hx hb hAm.2.2.1.2 hw.2.2 (v := 0) rfl dJx4a65c_add_72be8_2 ?_
  refine lv_icmp_ne (tgt := 11) hx hb dJx4a65c_add_72be8_3 (by decide) (fun c9 => absurd (by decide) c9) (fun _ => ?_)
  refine lv_aload_n hx hb dJx4a65c_add_72be8_6 rfl (lv_at hl 0 rfl) ?_
  refine rc_callr (wr := [(h1, .inr (2, [.int x0]))]) (va_runV (As := []) (rest := []) (Ts := []) ⟨hx, hb, hml, hown, fun _ h9 => absurd h9 List.not_mem_nil⟩ (cw_Jx4a65c_grow_d5877 l E _ h0) (rc_cwV hAm qw_187 qw_4 qw_190 qw_189 qs_1 rfl rfl hd_Jx4a65c_grow_d5877 ⟨Nat.le_of_ble_eq_true rfl, Nat.le_of_ble_eq_true rfl⟩) (rc_preV hAm hA hw [0] rfl rfl 0 rfl (q := vwCl[4]) rfl) rfl rfl hl.1 rfl (lv_room (Nat.le_of_ble_eq_true rfl)) dJx4a65c_add_72be8_7 ⟨Nat.le_of_ble_eq_true rfl, Nat.le_of_ble_eq_true rfl⟩) hA hw [0] [1] rfl rfl rfl (by decide) (fun u_2 r_1 H locs hp hw => ?_)
  obtain ⟨q1, rfl, rfl⟩ := hp
  have hw : rc_W E A s [(h1, .inr (2, [.int x0])), (h0, .inr (4, [.int 1, .ref q1, .int 0])), (q1, .inl (E.2.1 2, 10, .inr (.inr (.inr (.inr (rc_rows []))))))] H locs := hw
  refine lv_astore_n (lv' := [(2, .ref q1), (0, .ref h0), (1, .ref h1), (3, .int 0)]) hx hb dJx4a65c_add_72be8_10 rfl hl (by decide) rfl (fun ls hl => ?_)
  refine lv_aload_n hx hb dJx4a65c_add_72be8_11 rfl (lv_at hl 0 rfl) ?_
  refine lv_iload_n hx hb dJx4a65c_add_72be8_12 rfl (lv_at hl 3 rfl) ?_
  refine lv_aload_n hx hb dJx4a65c_add_72be8_13 rfl (lv_at hl 2 rfl) ?_
  refine rc_qastR (C := RJ6) hx hb hAm hw 2 rfl 0 rfl rfl qw_1482 rfl (vp_in_iff.mpr (by decide)) [(h1, .inr (2, [.int x0])), (h0, .inr (4, [.int 1, .ref q1, .int 0])), (q1, .inl (E.2.1 2, 10, .inr (.inr (.inr (.inr (rc_rows [h1]))))))] rfl dJx4a65c_add_72be8_14 (fun H locs hw => ?_)
  refine lv_aload_n hx hb dJx4a65c_add_72be8_15 rfl (lv_at hl 1 rfl) ?_
  refine lv_iload_n hx hb dJx4a65c_add_72be8_16 rfl (lv_at hl 3 rfl) ?_
  refine lv_iconst (v := 1) hx hb dJx4a65c_add_72be8_17 (by decide) ?_
  refine lv_iadd hx hb dJx4a65c_add_72be8_18 ?_
  refine rc_topi 1 (by decide) ?_
  refine rc_put hx hb hown hAm hw lyJx4a65c tyJx4a65c tyJx4a65c_ok nmJx4a65c 1 rfl rfl 2 (by decide) qw_59 (fun _ h9 => h9) rfl rfl (by decide +kernel) (Nat.le_of_ble_eq_true rfl) [(h1, .inr (2, [.int x0])), (h0, .inr (4, [.int 1, .ref q1, .int 1])), (q1, .inl (E.2.1 2, 10, .inr (.inr (.inr (.inr (rc_rows [h1]))))))] rfl dJx4a65c_add_72be8_19 (fun H locs hw => ?_)
  exact rc_vret hx hb hr hlocks hw [(h0, .inr (4, [.int 1, .ref q1, .int 1])), (h1, .inr (2, [.int x0])), (q1, .inl (E.2.1 2, 10, .inr (.inr (.inr (.inr (rc_rows [h1]))))))] (⟨q1, rfl⟩) [1, 0, 2] rfl (by decide) (Nat.le_of_ble_eq_true rfl) (Nat.le_of_ble_eq_true rfl) dJx4a65c_add_72be8_22
set_option maxHeartbeats 4000000 in
set_option maxRecDepth 100000 in
theorem cw_Jx4a65c_add_9ea2d_43 (l : Launch) (E : rc_E) (sz : Nat) (h0 : Nat) (h1 : Nat) (x0 : Int32) : rc_Mi l yJx4a65c_add_9ea2d [Cond.code yJx4a65c_add_9ea2d cJx4a65c_add_9ea2d 2 (some FieldType.boolean)] { frames := 4, cells := 1, slots := 10, locals := 80 } E [.ref h0, .ref h1] [(h0, .inr (4, [.int 0, .ref (E.2.2 0), .int 0])), (h1, .inr (2, [.int x0]))] sz (S := va_W) (fun (r : Int32) (u : va_W) => (∃ q1 : Nat, 1 = r ∧ u = [(h0, .inr (4, [.int 1, .ref q1, .int 1])), (h1, .inr (2, [.int x0])), (q1, .inl (E.2.1 2, 10, .inr (.inr (.inr (.inr (rc_rows [h1]))))))])) (fun u => u) 1 10 := by
  refine rc_ini (cc := cJx4a65c_add_9ea2d) (maxL := 2) (ret := (some FieldType.boolean)) (by decide) rfl (Nat.le_of_ble_eq_true rfl) ?_
  intro p e s m args below meth c ls A hx hb hr hml _ hown hlocks hin hA hAm hw hl
  have hown : s.vm.findClass RJx4a65c = some m.cls := hown
  have hl : lv_has ls 2 [(0, .ref h0), (1, .ref h1)] := hl
  refine lv_aload_n hx hb dJx4a65c_add_9ea2d_0 rfl (lv_at hl 0 rfl) ?_
  refine lv_dup hx hb dJx4a65c_add_9ea2d_1 rfl ?_
  refine rc_get (v := .int 0) hx hb hown hAm hw lyJx4a65c 0 rfl rfl 0 (by decide) qw_63 (fun x9 h9 => u_same (hAm.wd (a := args) qw_62 rfl rfl) x9 h9) rfl dJx4a65c_add_9ea2d_2 ?_
  refine lv_iconst (v := 1) hx hb dJx4a65c_add_9ea2d_5 (by decide) ?_
  refine lv_iadd hx hb dJx4a65c_add_9ea2d_6 ?_
  refine rc_topi 1 (by decide) ?_
  refine rc_put hx hb hown hAm hw lyJx4a65c tyJx4a65c tyJx4a65c_ok nmJx4a65c 0 rfl rfl 0 (by decide) qw_63 (fun x9 h9 => u_same (hAm.wd (a := args) qw_62 rfl rfl) x9 h9) rfl rfl (by decide +kernel) (Nat.le_of_ble_eq_true rfl) [(h0, .inr (4, [.int 1, .ref (E.2.2 0), .int 0])), (h1, .inr (2, [.int x0]))] rfl dJx4a65c_add_9ea2d_7 (fun H locs hw => ?_)
  refine lv_aload_n hx hb dJx4a65c_add_9ea2d_10 rfl (lv_at hl 0 rfl) ?_
  refine lv_aload_n hx hb dJx4a65c_add_9ea2d_11 rfl (lv_at hl 1 rfl) ?_
  refine lv_aload_n hx hb dJx4a65c_add_9ea2d_12 rfl (lv_at hl 0 rfl) ?_
  refine rc_get (v := .ref (E.2.2 0)) hx hb hown hAm hw lyJx4a65c 0 rfl rfl 1 (by decide) qw_56 (fun _ h9 => h9) rfl dJx4a65c_add_9ea2d_13 ?_
  refine lv_aload_n hx hb dJx4a65c_add_9ea2d_16 rfl (lv_at hl 0 rfl) ?_
  refine rc_get (v := .int 0) hx hb hown hAm hw lyJx4a65c 0 rfl rfl 2 (by decide) qw_59 (fun _ h9 => h9) rfl dJx4a65c_add_9ea2d_17 ?_
  refine rc_callv (wr := []) (va_runV (As := [.ref h1, .ref (E.2.2 0), .int 0]) (rest := []) (Ts := []) ⟨hx, hb, hml, hown, fun _ h9 => absurd h9 List.not_mem_nil⟩ (cw_Jx4a65c_add_72be8_43 l E _ h0 h1 x0) (rc_cwV hAm qw_183 qw_4 qw_186 qw_185 qs_0 rfl rfl hd_Jx4a65c_add_72be8 ⟨Nat.le_of_ble_eq_true rfl, Nat.le_of_ble_eq_true rfl⟩) (rc_preV hAm hA hw [0, 1] rfl rfl 0 rfl (q := vwCl[4]) rfl) rfl rfl hl.1 rfl (lv_room (Nat.le_of_ble_eq_true rfl)) dJx4a65c_add_9ea2d_20 ⟨Nat.le_of_ble_eq_true rfl, Nat.le_of_ble_eq_true rfl⟩) hA hw [0, 1] [] rfl rfl rfl (by decide) (fun u_2 H locs hp hw => ?_)
  obtain ⟨q1, rfl⟩ := hp
  have hw : rc_W E A s [(h0, .inr (4, [.int 1, .ref q1, .int 1])), (h1, .inr (2, [.int x0])), (q1, .inl (E.2.1 2, 10, .inr (.inr (.inr (.inr (rc_rows [h1]))))))] H locs := hw
  refine lv_iconst (v := 1) hx hb dJx4a65c_add_9ea2d_23 (by decide) ?_
  exact rc_zret (v := 1) hx hb hr hlocks hw rfl [(h0, .inr (4, [.int 1, .ref q1, .int 1])), (h1, .inr (2, [.int x0])), (q1, .inl (E.2.1 2, 10, .inr (.inr (.inr (.inr (rc_rows [h1]))))))] (⟨q1, rfl, rfl⟩) [0, 1, 2] rfl (by decide) (Nat.le_of_ble_eq_true rfl) (Nat.le_of_ble_eq_true rfl) dJx4a65c_add_9ea2d_24
set_option maxHeartbeats 4000000 in
set_option maxRecDepth 100000 in
theorem cw_Jx4a65c_add_72be8_44 (l : Launch) (E : rc_E) (sz : Nat) (h0 : Nat) (h1 : Nat) (h2 : Nat) : rc_Mv l yJx4a65c_add_72be8 [Cond.code yJx4a65c_add_72be8 cJx4a65c_add_72be8 4 (none : Option FieldType)] { frames := 3, cells := 1, slots := 10, locals := 57 } E [.ref h0, .ref h1, .ref (E.2.2 0), .int 0] [(h0, .inr (4, [.int 1, .ref (E.2.2 0), .int 0])), (h1, .inr (4, [.int 1, .ref h2, .int 1]))] sz (S := va_W) (fun (u : va_W) => (∃ q1 : Nat, u = [(h0, .inr (4, [.int 1, .ref q1, .int 1])), (h1, .inr (4, [.int 1, .ref h2, .int 1])), (q1, .inl (E.2.1 2, 10, .inr (.inr (.inr (.inr (rc_rows [h1]))))))])) (fun u => u) 1 10 := by
  refine rc_inv (cc := cJx4a65c_add_72be8) (maxL := 4) (ret := (none : Option FieldType)) (by decide) rfl (Nat.le_of_ble_eq_true rfl) ?_
  intro p e s m args below meth c ls A hx hb hr hml _ hown hlocks hin hA hAm hw hl
  have hown : s.vm.findClass RJx4a65c = some m.cls := hown
  have hl : lv_has ls 4 [(0, .ref h0), (1, .ref h1), (2, .ref (E.2.2 0)), (3, .int 0)] := hl
  refine lv_iload_n hx hb dJx4a65c_add_72be8_0 rfl (lv_at hl 3 rfl) ?_
  refine lv_aload_n hx hb dJx4a65c_add_72be8_1 rfl (lv_at hl 2 rfl) ?_
  refine va_tlen hx hb hAm.2.2.1.2 hw.2.2 (v := 0) rfl dJx4a65c_add_72be8_2 ?_
  refine lv_icmp_ne (tgt := 11) hx hb dJx4a65c_add_72be8_3 (by decide) (fun c9 => absurd (by decide) c9) (fun _ => ?_)
  refine lv_aload_n hx hb dJx4a65c_add_72be8_6 rfl (lv_at hl 0 rfl) ?_
  refine rc_callr (wr := [(h1, .inr (4, [.int 1, .ref h2, .int 1]))]) (va_runV (As := []) (rest := []) (Ts := []) ⟨hx, hb, hml, hown, fun _ h9 => absurd h9 List.not_mem_nil⟩ (cw_Jx4a65c_grow_d5877 l E _ h0) (rc_cwV hAm qw_187 qw_4 qw_190 qw_189 qs_1 rfl rfl hd_Jx4a65c_grow_d5877 ⟨Nat.le_of_ble_eq_true rfl, Nat.le_of_ble_eq_true rfl⟩) (rc_preV hAm hA hw [0] rfl rfl 0 rfl (q := vwCl[4]) rfl) rfl rfl hl.1 rfl (lv_room (Nat.le_of_ble_eq_true rfl)) dJx4a65c_add_72be8_7 ⟨Nat.le_of_ble_eq_true rfl, Nat.le_of_ble_eq_true rfl⟩) hA hw [0] [1] rfl rfl rfl (by decide) (fun u_2 r_1 H locs hp hw => ?_)
  obtain ⟨q1, rfl, rfl⟩ := hp
  have hw : rc_W E A s [(h1, .inr (4, [.int 1, .ref h2, .int 1])), (h0, .inr (4, [.int 1, .ref q1, .int 0])), (q1, .inl (E.2.1 2, 10, .inr (.inr (.inr (.inr (rc_rows []))))))] H locs := hw
  refine lv_astore_n (lv' := [(2, .ref q1), (0, .ref h0), (1, .ref h1), (3, .int 0)]) hx hb dJx4a65c_add_72be8_10 rfl hl (by decide) rfl (fun ls hl => ?_)
  refine lv_aload_n hx hb dJx4a65c_add_72be8_11 rfl (lv_at hl 0 rfl) ?_
  refine lv_iload_n hx hb dJx4a65c_add_72be8_12 rfl (lv_at hl 3 rfl) ?_
  refine lv_aload_n hx hb dJx4a65c_add_72be8_13 rfl (lv_at hl 2 rfl) ?_
  refine rc_qastR (C := RJx4a65c) hx hb hAm hw 2 rfl 0 rfl rfl qw_1484 rfl (vp_in_iff.mpr (by decide)) [(h1, .inr (4, [.int 1, .ref h2, .int 1])), (h0, .inr (4, [.int 1, .ref q1, .int 0])), (q1, .inl (E.2.1 2, 10, .inr (.inr (.inr (.inr (rc_rows [h1]))))))] rfl dJx4a65c_add_72be8_14 (fun H locs hw => ?_)
  refine lv_aload_n hx hb dJx4a65c_add_72be8_15 rfl (lv_at hl 1 rfl) ?_
  refine lv_iload_n hx hb dJx4a65c_add_72be8_16 rfl (lv_at hl 3 rfl) ?_
  refine lv_iconst (v := 1) hx hb dJx4a65c_add_72be8_17 (by decide) ?_
  refine lv_iadd hx hb dJx4a65c_add_72be8_18 ?_
  refine rc_topi 1 (by decide) ?_
  refine rc_put hx hb hown hAm hw lyJx4a65c tyJx4a65c tyJx4a65c_ok nmJx4a65c 1 rfl rfl 2 (by decide) qw_59 (fun _ h9 => h9) rfl rfl (by decide +kernel) (Nat.le_of_ble_eq_true rfl) [(h1, .inr (4, [.int 1, .ref h2, .int 1])), (h0, .inr (4, [.int 1, .ref q1, .int 1])), (q1, .inl (E.2.1 2, 10, .inr (.inr (.inr (.inr (rc_rows [h1]))))))] rfl dJx4a65c_add_72be8_19 (fun H locs hw => ?_)
  exact rc_vret hx hb hr hlocks hw [(h0, .inr (4, [.int 1, .ref q1, .int 1])), (h1, .inr (4, [.int 1, .ref h2, .int 1])), (q1, .inl (E.2.1 2, 10, .inr (.inr (.inr (.inr (rc_rows [h1]))))))] (⟨q1, rfl⟩) [1, 0, 2] rfl (by decide) (Nat.le_of_ble_eq_true rfl) (Nat.le_of_ble_eq_true rfl) dJx4a65c_add_72be8_22
set_option maxHeartbeats 4000000 in
set_option maxRecDepth 100000 in
theorem cw_Jx4a65c_add_9ea2d_44 (l : Launch) (E : rc_E) (sz : Nat) (h0 : Nat) (h1 : Nat) (h2 : Nat) : rc_Mi l yJx4a65c_add_9ea2d [Cond.code yJx4a65c_add_9ea2d cJx4a65c_add_9ea2d 2 (some FieldType.boolean)] { frames := 4, cells := 1, slots := 10, locals := 80 } E [.ref h0, .ref h1] [(h0, .inr (4, [.int 0, .ref (E.2.2 0), .int 0])), (h1, .inr (4, [.int 1, .ref h2, .int 1]))] sz (S := va_W) (fun (r : Int32) (u : va_W) => (∃ q1 : Nat, 1 = r ∧ u = [(h0, .inr (4, [.int 1, .ref q1, .int 1])), (h1, .inr (4, [.int 1, .ref h2, .int 1])), (q1, .inl (E.2.1 2, 10, .inr (.inr (.inr (.inr (rc_rows [h1]))))))])) (fun u => u) 1 10 := by
  refine rc_ini (cc := cJx4a65c_add_9ea2d) (maxL := 2) (ret := (some FieldType.boolean)) (by decide) rfl (Nat.le_of_ble_eq_true rfl) ?_
  intro p e s m args below meth c ls A hx hb hr hml _ hown hlocks hin hA hAm hw hl
  have hown : s.vm.findClass RJx4a65c = some m.cls := hown
  have hl : lv_has ls 2 [(0, .ref h0), (1, .ref h1)] := hl
  refine lv_aload_n hx hb dJx4a65c_add_9ea2d_0 rfl (lv_at hl 0 rfl) ?_
  refine lv_dup hx hb dJx4a65c_add_9ea2d_1 rfl ?_
  refine rc_get (v := .int 0) hx hb hown hAm hw lyJx4a65c 0 rfl rfl 0 (by decide) qw_63 (fun x9 h9 => u_same (hAm.wd (a := args) qw_62 rfl rfl) x9 h9) rfl dJx4a65c_add_9ea2d_2 ?_
  refine lv_iconst (v := 1) hx hb dJx4a65c_add_9ea2d_5 (by decide) ?_
  refine lv_iadd hx hb dJx4a65c_add_9ea2d_6 ?_
  refine rc_topi 1 (by decide) ?_
  refine rc_put hx hb hown hAm hw lyJx4a65c tyJx4a65c tyJx4a65c_ok nmJx4a65c 0 rfl rfl 0 (by decide) qw_63 (fun x9 h9 => u_same (hAm.wd (a := args) qw_62 rfl rfl) x9 h9) rfl rfl (by decide +kernel) (Nat.le_of_ble_eq_true rfl) [(h0, .inr (4, [.int 1, .ref (E.2.2 0), .int 0])), (h1, .inr (4, [.int 1, .ref h2, .int 1]))] rfl dJx4a65c_add_9ea2d_7 (fun H locs hw => ?_)
  refine lv_aload_n hx hb dJx4a65c_add_9ea2d_10 rfl (lv_at hl 0 rfl) ?_
  refine lv_aload_n hx hb dJx4a65c_add_9ea2d_11 rfl (lv_at hl 1 rfl) ?_
  refine lv_aload_n hx hb dJx4a65c_add_9ea2d_12 rfl (lv_at hl 0 rfl) ?_
  refine rc_get (v := .ref (E.2.2 0)) hx hb hown hAm hw lyJx4a65c 0 rfl rfl 1 (by decide) qw_56 (fun _ h9 => h9) rfl dJx4a65c_add_9ea2d_13 ?_
  refine lv_aload_n hx hb dJx4a65c_add_9ea2d_16 rfl (lv_at hl 0 rfl) ?_
  refine rc_get (v := .int 0) hx hb hown hAm hw lyJx4a65c 0 rfl rfl 2 (by decide) qw_59 (fun _ h9 => h9) rfl dJx4a65c_add_9ea2d_17 ?_
  refine rc_callv (wr := []) (va_runV (As := [.ref h1, .ref (E.2.2 0), .int 0]) (rest := []) (Ts := []) ⟨hx, hb, hml, hown, fun _ h9 => absurd h9 List.not_mem_nil⟩ (cw_Jx4a65c_add_72be8_44 l E _ h0 h1 h2) (rc_cwV hAm qw_183 qw_4 qw_186 qw_185 qs_0 rfl rfl hd_Jx4a65c_add_72be8 ⟨Nat.le_of_ble_eq_true rfl, Nat.le_of_ble_eq_true rfl⟩) (rc_preV hAm hA hw [0, 1] rfl rfl 0 rfl (q := vwCl[4]) rfl) rfl rfl hl.1 rfl (lv_room (Nat.le_of_ble_eq_true rfl)) dJx4a65c_add_9ea2d_20 ⟨Nat.le_of_ble_eq_true rfl, Nat.le_of_ble_eq_true rfl⟩) hA hw [0, 1] [] rfl rfl rfl (by decide) (fun u_2 H locs hp hw => ?_)
  obtain ⟨q1, rfl⟩ := hp
  have hw : rc_W E A s [(h0, .inr (4, [.int 1, .ref q1, .int 1])), (h1, .inr (4, [.int 1, .ref h2, .int 1])), (q1, .inl (E.2.1 2, 10, .inr (.inr (.inr (.inr (rc_rows [h1]))))))] H locs := hw
  refine lv_iconst (v := 1) hx hb dJx4a65c_add_9ea2d_23 (by decide) ?_
  exact rc_zret (v := 1) hx hb hr hlocks hw rfl [(h0, .inr (4, [.int 1, .ref q1, .int 1])), (h1, .inr (4, [.int 1, .ref h2, .int 1])), (q1, .inl (E.2.1 2, 10, .inr (.inr (.inr (.inr (rc_rows [h1]))))))] (⟨q1, rfl, rfl⟩) [0, 1, 2] rfl (by decide) (Nat.le_of_ble_eq_true rfl) (Nat.le_of_ble_eq_true rfl) dJx4a65c_add_9ea2d_24
set_option maxHeartbeats 4000000 in
set_option maxRecDepth 100000 in
theorem cw_X7_machine (l : Launch) (E : rc_E) (sz : Nat) (h0 : Nat) (x0 : Int32) (x1 : Int32) (h1 : Nat) (h2 : Nat) (h3 : Nat) (h4 : Nat) (h5 : Nat) : rc_Mi l yX7_machine [Cond.code yX7_machine cX7_machine 4 (some FieldType.int)] { frames := 5, cells := 6, slots := 35, locals := 101 } E [.ref h0, .int x0, .int x1] [(h0, .inr (12, [.int 0, .ref h1, .ref h2, .ref h3, .ref h4, .ref h5, .int 1, .int 3, .int 50, .int (-1), .int (-1), .int (-1), .int (-1), .int 0, .int 100, .int 1000, .long 0])), (h1, .inr (4, [.int 0, .ref (E.2.2 0), .int 0])), (h2, .inr (4, [.int 0, .ref (E.2.2 0), .int 0]))] sz (S := va_W) (fun (r : Int32) (u : va_W) => (x0 < 1 ∧ 0 = r ∧ u = [(h0, .inr (12, [.int 1, .ref h1, .ref h2, .ref h3, .ref h4, .ref h5, .int 1, .int 3, .int 50, .int (-1), .int (-1), .int (-1), .int (-1), .int 0, .int 100, .int 1000, .long 0])), (h1, .inr (4, [.int 0, .ref (E.2.2 0), .int 0])), (h2, .inr (4, [.int 0, .ref (E.2.2 0), .int 0]))]) ∨ (¬ x0 < 1 ∧ 60 < x0 ∧ 0 = r ∧ u = [(h0, .inr (12, [.int 1, .ref h1, .ref h2, .ref h3, .ref h4, .ref h5, .int 1, .int 3, .int 50, .int (-1), .int (-1), .int (-1), .int (-1), .int 0, .int 100, .int 1000, .long 0])), (h1, .inr (4, [.int 0, .ref (E.2.2 0), .int 0])), (h2, .inr (4, [.int 0, .ref (E.2.2 0), .int 0]))]) ∨ (¬ x0 < 1 ∧ ¬ 60 < x0 ∧ x1 < 50 ∧ 0 = r ∧ u = [(h0, .inr (12, [.int 1, .ref h1, .ref h2, .ref h3, .ref h4, .ref h5, .int 1, .int 3, .int 50, .int (-1), .int (-1), .int (-1), .int (-1), .int 0, .int 100, .int 1000, .long 0])), (h1, .inr (4, [.int 0, .ref (E.2.2 0), .int 0])), (h2, .inr (4, [.int 0, .ref (E.2.2 0), .int 0]))]) ∨ (¬ x0 < 1 ∧ ¬ 60 < x0 ∧ ¬ x1 < 50 ∧ 200 < x1 ∧ 0 = r ∧ u = [(h0, .inr (12, [.int 1, .ref h1, .ref h2, .ref h3, .ref h4, .ref h5, .int 1, .int 3, .int 50, .int (-1), .int (-1), .int (-1), .int (-1), .int 0, .int 100, .int 1000, .long 0])), (h1, .inr (4, [.int 0, .ref (E.2.2 0), .int 0])), (h2, .inr (4, [.int 0, .ref (E.2.2 0), .int 0]))]) ∨ (∃ q3 q6 q7 q4 q8 : Nat, ¬ x0 < 1 ∧ ¬ 60 < x0 ∧ ¬ x1 < 50 ∧ ¬ 200 < x1 ∧ ¬ x0 < (-128) ∧ ¬ 127 < x0 ∧ ¬ x1 < (-128) ∧ 127 < x1 ∧ 0 = r ∧ u = [(h0, .inr (12, [.int 0, .ref h1, .ref h2, .ref h3, .ref h4, .ref h5, .int 1, .int 3, .int 50, .int (-1), .int (-1), .int (-1), .int (-1), .int 0, .int 100, .int 1000, .long 0])), (h1, .inr (4, [.int 1, .ref q8, .int 1])), (h2, .inr (4, [.int 1, .ref q3, .int 1])), (q3, .inl (E.2.1 2, 10, .inr (.inr (.inr (.inr (rc_rows [(E.2.2 (2 + ((x0 + 128).toNatClampNeg)))])))))), (q6, .inr (2, [.int x1])), (q7, .inl (E.2.1 2, 10, .inr (.inr (.inr (.inr (rc_rows [q6])))))), (q4, .inr (4, [.int 1, .ref q7, .int 1])), (q8, .inl (E.2.1 2, 10, .inr (.inr (.inr (.inr (rc_rows [q4]))))))]) ∨ (∃ q3 q9 q4 q10 : Nat, ¬ x0 < 1 ∧ ¬ 60 < x0 ∧ ¬ x1 < 50 ∧ ¬ 200 < x1 ∧ ¬ x0 < (-128) ∧ ¬ 127 < x0 ∧ ¬ x1 < (-128) ∧ ¬ 127 < x1 ∧ 0 = r ∧ u = [(h0, .inr (12, [.int 0, .ref h1, .ref h2, .ref h3, .ref h4, .ref h5, .int 1, .int 3, .int 50, .int (-1), .int (-1), .int (-1), .int (-1), .int 0, .int 100, .int 1000, .long 0])), (h1, .inr (4, [.int 1, .ref q10, .int 1])), (h2, .inr (4, [.int 1, .ref q3, .int 1])), (q3, .inl (E.2.1 2, 10, .inr (.inr (.inr (.inr (rc_rows [(E.2.2 (2 + ((x0 + 128).toNatClampNeg)))])))))), (q9, .inl (E.2.1 2, 10, .inr (.inr (.inr (.inr (rc_rows [(E.2.2 (2 + ((x1 + 128).toNatClampNeg)))])))))), (q4, .inr (4, [.int 1, .ref q9, .int 1])), (q10, .inl (E.2.1 2, 10, .inr (.inr (.inr (.inr (rc_rows [q4]))))))])) (fun u => u) 6 35 := by
  refine rc_ini (cc := cX7_machine) (maxL := 4) (ret := (some FieldType.int)) (by decide) rfl (Nat.le_of_ble_eq_true rfl) ?_
  intro p e s m args below meth c ls A hx hb hr hml _ hown hlocks hin hA hAm hw hl
  have hown : s.vm.findClass RX7 = some m.cls := hown
  have hl : lv_has ls 4 [(0, .ref h0), (1, .int x0), (2, .int x1)] := hl
  refine lv_aload_n hx hb dX7_machine_0 rfl (lv_at hl 0 rfl) ?_
  refine lv_iconst (v := 0) hx hb dX7_machine_1 (by decide) ?_
  refine rc_put hx hb hown hAm hw lyX7 tyX7 tyX7_ok nmX7 0 rfl rfl 0 (by decide) qw_860 (fun _ h9 => h9) rfl rfl (by decide +kernel) (Nat.le_of_ble_eq_true rfl) [(h0, .inr (12, [.int 0, .ref h1, .ref h2, .ref h3, .ref h4, .ref h5, .int 1, .int 3, .int 50, .int (-1), .int (-1), .int (-1), .int (-1), .int 0, .int 100, .int 1000, .long 0])), (h1, .inr (4, [.int 0, .ref (E.2.2 0), .int 0])), (h2, .inr (4, [.int 0, .ref (E.2.2 0), .int 0]))] rfl dX7_machine_2 (fun H locs hw => ?_)
  refine lv_iload_n hx hb dX7_machine_5 rfl (lv_at hl 1 rfl) ?_
  refine lv_iconst (v := 1) hx hb dX7_machine_6 (by decide) ?_
  refine lv_bipush (v := 60) hx hb dX7_machine_7 (by decide) ?_
  refine rc_calli (wr := [(h0, .inr (12, [.int 0, .ref h1, .ref h2, .ref h3, .ref h4, .ref h5, .int 1, .int 3, .int 50, .int (-1), .int (-1), .int (-1), .int (-1), .int 0, .int 100, .int 1000, .long 0])), (h1, .inr (4, [.int 0, .ref (E.2.2 0), .int 0])), (h2, .inr (4, [.int 0, .ref (E.2.2 0), .int 0]))]) (va_runS (As := [.int x0, .int 1, .int 60]) (rest := []) (Ts := []) ⟨hx, hb, hml, hown, fun _ h9 => absurd h9 List.not_mem_nil⟩ (cw_X7_is_12 l E _ x0) (rc_cwS hAm qw_921 qw_13 qw_923 qw_922 rfl rfl hd_X7_is ⟨Nat.le_of_ble_eq_true rfl, Nat.le_of_ble_eq_true rfl⟩) (rc_preS hAm hA hw [] rfl rfl) rfl rfl hl.1 rfl (lv_room (Nat.le_of_ble_eq_true rfl)) dX7_machine_9 ⟨Nat.le_of_ble_eq_true rfl, Nat.le_of_ble_eq_true rfl⟩) hA hw [] [0, 1, 2] rfl rfl rfl (by decide) (fun r_1 u_2 H locs hp hw => ?_)
  rcases hp with ⟨c_3, rfl, rfl⟩ | ⟨c_4, c_5, rfl, rfl⟩ | ⟨c_6, c_7, rfl, rfl⟩
  · have hw : rc_W E A s [(h0, .inr (12, [.int 0, .ref h1, .ref h2, .ref h3, .ref h4, .ref h5, .int 1, .int 3, .int 50, .int (-1), .int (-1), .int (-1), .int (-1), .int 0, .int 100, .int 1000, .long 0])), (h1, .inr (4, [.int 0, .ref (E.2.2 0), .int 0])), (h2, .inr (4, [.int 0, .ref (E.2.2 0), .int 0]))] H locs := hw
    refine lv_if_eq (tgt := 27) hx hb dX7_machine_12 (by decide) (fun _ => ?_) (fun c9 => absurd (by decide) c9)
    refine lv_aload_n hx hb dX7_machine_27 rfl (lv_at hl 0 rfl) ?_
    refine lv_iconst (v := 1) hx hb dX7_machine_28 (by decide) ?_
    refine rc_calli (wr := [(h1, .inr (4, [.int 0, .ref (E.2.2 0), .int 0])), (h2, .inr (4, [.int 0, .ref (E.2.2 0), .int 0]))]) (va_runV (As := [.int 1]) (rest := []) (Ts := []) ⟨hx, hb, hml, hown, fun _ h9 => absurd h9 List.not_mem_nil⟩ (cw_X7_refuse l E _ h0 h1 h2 h3 h4 h5) (rc_cwV hAm qw_924 qw_13 qw_927 qw_926 qs_50 rfl rfl hd_X7_refuse ⟨Nat.le_of_ble_eq_true rfl, Nat.le_of_ble_eq_true rfl⟩) (rc_preV hAm hA hw [0] rfl rfl 0 rfl (q := vwCl[12]) rfl) rfl rfl hl.1 rfl (lv_room (Nat.le_of_ble_eq_true rfl)) dX7_machine_29 ⟨Nat.le_of_ble_eq_true rfl, Nat.le_of_ble_eq_true rfl⟩) hA hw [0] [1, 2] rfl rfl rfl (by decide) (fun r_8 u_9 H locs hp hw => ?_)
    obtain ⟨rfl, rfl⟩ := hp
    have hw : rc_W E A s [(h1, .inr (4, [.int 0, .ref (E.2.2 0), .int 0])), (h2, .inr (4, [.int 0, .ref (E.2.2 0), .int 0])), (h0, .inr (12, [.int 1, .ref h1, .ref h2, .ref h3, .ref h4, .ref h5, .int 1, .int 3, .int 50, .int (-1), .int (-1), .int (-1), .int (-1), .int 0, .int 100, .int 1000, .long 0]))] H locs := hw
    exact rc_iret (v := 0) hx hb hr hlocks hw [(h0, .inr (12, [.int 1, .ref h1, .ref h2, .ref h3, .ref h4, .ref h5, .int 1, .int 3, .int 50, .int (-1), .int (-1), .int (-1), .int (-1), .int 0, .int 100, .int 1000, .long 0])), (h1, .inr (4, [.int 0, .ref (E.2.2 0), .int 0])), (h2, .inr (4, [.int 0, .ref (E.2.2 0), .int 0]))] (Or.inl ⟨c_3, rfl, rfl⟩) [2, 0, 1] rfl (by decide) (Nat.le_of_ble_eq_true rfl) (Nat.le_of_ble_eq_true rfl) dX7_machine_32
  · have hw : rc_W E A s [(h0, .inr (12, [.int 0, .ref h1, .ref h2, .ref h3, .ref h4, .ref h5, .int 1, .int 3, .int 50, .int (-1), .int (-1), .int (-1), .int (-1), .int 0, .int 100, .int 1000, .long 0])), (h1, .inr (4, [.int 0, .ref (E.2.2 0), .int 0])), (h2, .inr (4, [.int 0, .ref (E.2.2 0), .int 0]))] H locs := hw
    refine lv_if_eq (tgt := 27) hx hb dX7_machine_12 (by decide) (fun _ => ?_) (fun c9 => absurd (by decide) c9)
    refine lv_aload_n hx hb dX7_machine_27 rfl (lv_at hl 0 rfl) ?_
    refine lv_iconst (v := 1) hx hb dX7_machine_28 (by decide) ?_
    refine rc_calli (wr := [(h1, .inr (4, [.int 0, .ref (E.2.2 0), .int 0])), (h2, .inr (4, [.int 0, .ref (E.2.2 0), .int 0]))]) (va_runV (As := [.int 1]) (rest := []) (Ts := []) ⟨hx, hb, hml, hown, fun _ h9 => absurd h9 List.not_mem_nil⟩ (cw_X7_refuse l E _ h0 h1 h2 h3 h4 h5) (rc_cwV hAm qw_924 qw_13 qw_927 qw_926 qs_50 rfl rfl hd_X7_refuse ⟨Nat.le_of_ble_eq_true rfl, Nat.le_of_ble_eq_true rfl⟩) (rc_preV hAm hA hw [0] rfl rfl 0 rfl (q := vwCl[12]) rfl) rfl rfl hl.1 rfl (lv_room (Nat.le_of_ble_eq_true rfl)) dX7_machine_29 ⟨Nat.le_of_ble_eq_true rfl, Nat.le_of_ble_eq_true rfl⟩) hA hw [0] [1, 2] rfl rfl rfl (by decide) (fun r_10 u_11 H locs hp hw => ?_)
    obtain ⟨rfl, rfl⟩ := hp
    have hw : rc_W E A s [(h1, .inr (4, [.int 0, .ref (E.2.2 0), .int 0])), (h2, .inr (4, [.int 0, .ref (E.2.2 0), .int 0])), (h0, .inr (12, [.int 1, .ref h1, .ref h2, .ref h3, .ref h4, .ref h5, .int 1, .int 3, .int 50, .int (-1), .int (-1), .int (-1), .int (-1), .int 0, .int 100, .int 1000, .long 0]))] H locs := hw
    exact rc_iret (v := 0) hx hb hr hlocks hw [(h0, .inr (12, [.int 1, .ref h1, .ref h2, .ref h3, .ref h4, .ref h5, .int 1, .int 3, .int 50, .int (-1), .int (-1), .int (-1), .int (-1), .int 0, .int 100, .int 1000, .long 0])), (h1, .inr (4, [.int 0, .ref (E.2.2 0), .int 0])), (h2, .inr (4, [.int 0, .ref (E.2.2 0), .int 0]))] (Or.inr (Or.inl ⟨c_4, c_5, rfl, rfl⟩)) [2, 0, 1] rfl (by decide) (Nat.le_of_ble_eq_true rfl) (Nat.le_of_ble_eq_true rfl) dX7_machine_32
  · have hw : rc_W E A s [(h0, .inr (12, [.int 0, .ref h1, .ref h2, .ref h3, .ref h4, .ref h5, .int 1, .int 3, .int 50, .int (-1), .int (-1), .int (-1), .int (-1), .int 0, .int 100, .int 1000, .long 0])), (h1, .inr (4, [.int 0, .ref (E.2.2 0), .int 0])), (h2, .inr (4, [.int 0, .ref (E.2.2 0), .int 0]))] H locs := hw
    refine lv_if_eq (tgt := 27) hx hb dX7_machine_12 (by decide) (fun c9 => absurd c9 (by decide)) (fun _ => ?_)
    refine lv_iload_n hx hb dX7_machine_15 rfl (lv_at hl 2 rfl) ?_
    refine lv_bipush (v := 50) hx hb dX7_machine_16 (by decide) ?_
    refine lv_sipush (v := 200) hx hb dX7_machine_18 (by decide) ?_
    refine rc_calli (wr := [(h0, .inr (12, [.int 0, .ref h1, .ref h2, .ref h3, .ref h4, .ref h5, .int 1, .int 3, .int 50, .int (-1), .int (-1), .int (-1), .int (-1), .int 0, .int 100, .int 1000, .long 0])), (h1, .inr (4, [.int 0, .ref (E.2.2 0), .int 0])), (h2, .inr (4, [.int 0, .ref (E.2.2 0), .int 0]))]) (va_runS (As := [.int x1, .int 50, .int 200]) (rest := []) (Ts := []) ⟨hx, hb, hml, hown, fun _ h9 => absurd h9 List.not_mem_nil⟩ (cw_X7_is_13 l E _ x1) (rc_cwS hAm qw_921 qw_13 qw_923 qw_922 rfl rfl hd_X7_is ⟨Nat.le_of_ble_eq_true rfl, Nat.le_of_ble_eq_true rfl⟩) (rc_preS hAm hA hw [] rfl rfl) rfl rfl hl.1 rfl (lv_room (Nat.le_of_ble_eq_true rfl)) dX7_machine_21 ⟨Nat.le_of_ble_eq_true rfl, Nat.le_of_ble_eq_true rfl⟩) hA hw [] [0, 1, 2] rfl rfl rfl (by decide) (fun r_12 u_13 H locs hp hw => ?_)
    rcases hp with ⟨c_14, rfl, rfl⟩ | ⟨c_15, c_16, rfl, rfl⟩ | ⟨c_17, c_18, rfl, rfl⟩
    · have hw : rc_W E A s [(h0, .inr (12, [.int 0, .ref h1, .ref h2, .ref h3, .ref h4, .ref h5, .int 1, .int 3, .int 50, .int (-1), .int (-1), .int (-1), .int (-1), .int 0, .int 100, .int 1000, .long 0])), (h1, .inr (4, [.int 0, .ref (E.2.2 0), .int 0])), (h2, .inr (4, [.int 0, .ref (E.2.2 0), .int 0]))] H locs := hw
      refine lv_if_ne (tgt := 33) hx hb dX7_machine_24 (by decide) (fun c9 => absurd (by decide) c9) (fun _ => ?_)
      refine lv_aload_n hx hb dX7_machine_27 rfl (lv_at hl 0 rfl) ?_
      refine lv_iconst (v := 1) hx hb dX7_machine_28 (by decide) ?_
      refine rc_calli (wr := [(h1, .inr (4, [.int 0, .ref (E.2.2 0), .int 0])), (h2, .inr (4, [.int 0, .ref (E.2.2 0), .int 0]))]) (va_runV (As := [.int 1]) (rest := []) (Ts := []) ⟨hx, hb, hml, hown, fun _ h9 => absurd h9 List.not_mem_nil⟩ (cw_X7_refuse l E _ h0 h1 h2 h3 h4 h5) (rc_cwV hAm qw_924 qw_13 qw_927 qw_926 qs_50 rfl rfl hd_X7_refuse ⟨Nat.le_of_ble_eq_true rfl, Nat.le_of_ble_eq_true rfl⟩) (rc_preV hAm hA hw [0] rfl rfl 0 rfl (q := vwCl[12]) rfl) rfl rfl hl.1 rfl (lv_room (Nat.le_of_ble_eq_true rfl)) dX7_machine_29 ⟨Nat.le_of_ble_eq_true rfl, Nat.le_of_ble_eq_true rfl⟩) hA hw [0] [1, 2] rfl rfl rfl (by decide) (fun r_19 u_20 H locs hp hw => ?_)
      obtain ⟨rfl, rfl⟩ := hp
      have hw : rc_W E A s [(h1, .inr (4, [.int 0, .ref (E.2.2 0), .int 0])), (h2, .inr (4, [.int 0, .ref (E.2.2 0), .int 0])), (h0, .inr (12, [.int 1, .ref h1, .ref h2, .ref h3, .ref h4, .ref h5, .int 1, .int 3, .int 50, .int (-1), .int (-1), .int (-1), .int (-1), .int 0, .int 100, .int 1000, .long 0]))] H locs := hw
      exact rc_iret (v := 0) hx hb hr hlocks hw [(h0, .inr (12, [.int 1, .ref h1, .ref h2, .ref h3, .ref h4, .ref h5, .int 1, .int 3, .int 50, .int (-1), .int (-1), .int (-1), .int (-1), .int 0, .int 100, .int 1000, .long 0])), (h1, .inr (4, [.int 0, .ref (E.2.2 0), .int 0])), (h2, .inr (4, [.int 0, .ref (E.2.2 0), .int 0]))] (Or.inr (Or.inr (Or.inl ⟨c_6, c_7, c_14, rfl, rfl⟩))) [2, 0, 1] rfl (by decide) (Nat.le_of_ble_eq_true rfl) (Nat.le_of_ble_eq_true rfl) dX7_machine_32
    · have hw : rc_W E A s [(h0, .inr (12, [.int 0, .ref h1, .ref h2, .ref h3, .ref h4, .ref h5, .int 1, .int 3, .int 50, .int (-1), .int (-1), .int (-1), .int (-1), .int 0, .int 100, .int 1000, .long 0])), (h1, .inr (4, [.int 0, .ref (E.2.2 0), .int 0])), (h2, .inr (4, [.int 0, .ref (E.2.2 0), .int 0]))] H locs := hw
      refine lv_if_ne (tgt := 33) hx hb dX7_machine_24 (by decide) (fun c9 => absurd (by decide) c9) (fun _ => ?_)
      refine lv_aload_n hx hb dX7_machine_27 rfl (lv_at hl 0 rfl) ?_
      refine lv_iconst (v := 1) hx hb dX7_machine_28 (by decide) ?_
      refine rc_calli (wr := [(h1, .inr (4, [.int 0, .ref (E.2.2 0), .int 0])), (h2, .inr (4, [.int 0, .ref (E.2.2 0), .int 0]))]) (va_runV (As := [.int 1]) (rest := []) (Ts := []) ⟨hx, hb, hml, hown, fun _ h9 => absurd h9 List.not_mem_nil⟩ (cw_X7_refuse l E _ h0 h1 h2 h3 h4 h5) (rc_cwV hAm qw_924 qw_13 qw_927 qw_926 qs_50 rfl rfl hd_X7_refuse ⟨Nat.le_of_ble_eq_true rfl, Nat.le_of_ble_eq_true rfl⟩) (rc_preV hAm hA hw [0] rfl rfl 0 rfl (q := vwCl[12]) rfl) rfl rfl hl.1 rfl (lv_room (Nat.le_of_ble_eq_true rfl)) dX7_machine_29 ⟨Nat.le_of_ble_eq_true rfl, Nat.le_of_ble_eq_true rfl⟩) hA hw [0] [1, 2] rfl rfl rfl (by decide) (fun r_21 u_22 H locs hp hw => ?_)
      obtain ⟨rfl, rfl⟩ := hp
      have hw : rc_W E A s [(h1, .inr (4, [.int 0, .ref (E.2.2 0), .int 0])), (h2, .inr (4, [.int 0, .ref (E.2.2 0), .int 0])), (h0, .inr (12, [.int 1, .ref h1, .ref h2, .ref h3, .ref h4, .ref h5, .int 1, .int 3, .int 50, .int (-1), .int (-1), .int (-1), .int (-1), .int 0, .int 100, .int 1000, .long 0]))] H locs := hw
      exact rc_iret (v := 0) hx hb hr hlocks hw [(h0, .inr (12, [.int 1, .ref h1, .ref h2, .ref h3, .ref h4, .ref h5, .int 1, .int 3, .int 50, .int (-1), .int (-1), .int (-1), .int (-1), .int 0, .int 100, .int 1000, .long 0])), (h1, .inr (4, [.int 0, .ref (E.2.2 0), .int 0])), (h2, .inr (4, [.int 0, .ref (E.2.2 0), .int 0]))] (Or.inr (Or.inr (Or.inr (Or.inl ⟨c_6, c_7, c_15, c_16, rfl, rfl⟩)))) [2, 0, 1] rfl (by decide) (Nat.le_of_ble_eq_true rfl) (Nat.le_of_ble_eq_true rfl) dX7_machine_32
    · have hw : rc_W E A s [(h0, .inr (12, [.int 0, .ref h1, .ref h2, .ref h3, .ref h4, .ref h5, .int 1, .int 3, .int 50, .int (-1), .int (-1), .int (-1), .int (-1), .int 0, .int 100, .int 1000, .long 0])), (h1, .inr (4, [.int 0, .ref (E.2.2 0), .int 0])), (h2, .inr (4, [.int 0, .ref (E.2.2 0), .int 0]))] H locs := hw
      refine lv_if_ne (tgt := 33) hx hb dX7_machine_24 (by decide) (fun _ => ?_) (fun c9 => absurd c9 (by decide))
      refine lv_aload_n hx hb dX7_machine_33 rfl (lv_at hl 0 rfl) ?_
      refine rc_get (v := .ref h2) hx hb hown hAm hw lyX7 0 rfl rfl 2 (by decide) qw_862 (fun _ h9 => h9) rfl dX7_machine_34 ?_
      refine rc_calli (wr := [(h0, .inr (12, [.int 0, .ref h1, .ref h2, .ref h3, .ref h4, .ref h5, .int 1, .int 3, .int 50, .int (-1), .int (-1), .int (-1), .int (-1), .int 0, .int 100, .int 1000, .long 0])), (h1, .inr (4, [.int 0, .ref (E.2.2 0), .int 0]))]) (va_runV (As := []) (rest := []) (Ts := []) ⟨hx, hb, hml, hown, fun _ h9 => absurd h9 List.not_mem_nil⟩ (cw_Jx4a65c_size_8abf5 l E _ h2) (rc_cwV hAm qw_928 qw_4 qw_289 qw_287 qw_288 rfl rfl hd_Jx4a65c_size_8abf5 ⟨Nat.le_of_ble_eq_true rfl, Nat.le_of_ble_eq_true rfl⟩) (rc_preV hAm hA hw [2] rfl rfl 2 rfl (q := vwCl[4]) rfl) rfl rfl hl.1 rfl (lv_room (Nat.le_of_ble_eq_true rfl)) dX7_machine_37 ⟨Nat.le_of_ble_eq_true rfl, Nat.le_of_ble_eq_true rfl⟩) hA hw [2] [0, 1] rfl rfl rfl (by decide) (fun r_23 u_24 H locs hp hw => ?_)
      obtain ⟨rfl, rfl⟩ := hp
      have hw : rc_W E A s [(h0, .inr (12, [.int 0, .ref h1, .ref h2, .ref h3, .ref h4, .ref h5, .int 1, .int 3, .int 50, .int (-1), .int (-1), .int (-1), .int (-1), .int 0, .int 100, .int 1000, .long 0])), (h1, .inr (4, [.int 0, .ref (E.2.2 0), .int 0])), (h2, .inr (4, [.int 0, .ref (E.2.2 0), .int 0]))] H locs := hw
      refine lv_iconst (v := 4) hx hb dX7_machine_40 (by decide) ?_
      refine lv_icmp_ne (tgt := 50) hx hb dX7_machine_41 (by decide) (fun _ => ?_) (fun c9 => absurd c9 (by decide))
      refine lv_aload_n hx hb dX7_machine_50 rfl (lv_at hl 0 rfl) ?_
      refine rc_get (v := .ref h2) hx hb hown hAm hw lyX7 0 rfl rfl 2 (by decide) qw_862 (fun _ h9 => h9) rfl dX7_machine_51 ?_
      refine lv_iload_n hx hb dX7_machine_54 rfl (lv_at hl 1 rfl) ?_
      refine rc_callr (wr := [(h0, .inr (12, [.int 0, .ref h1, .ref h2, .ref h3, .ref h4, .ref h5, .int 1, .int 3, .int 50, .int (-1), .int (-1), .int (-1), .int (-1), .int 0, .int 100, .int 1000, .long 0])), (h1, .inr (4, [.int 0, .ref (E.2.2 0), .int 0])), (h2, .inr (4, [.int 0, .ref (E.2.2 0), .int 0]))]) (va_runS (As := [.int x0]) (rest := [.ref h2]) (Ts := []) ⟨hx, hb, hml, hown, fun _ h9 => absurd h9 List.not_mem_nil⟩ (cw_J6_valueOf_2dffe l E _ x0) (rc_cwS hAm qw_929 qw_21 qw_931 qw_930 rfl rfl hd_J6_valueOf_2dffe ⟨Nat.le_of_ble_eq_true rfl, Nat.le_of_ble_eq_true rfl⟩) (rc_preS hAm hA hw [] rfl rfl) rfl rfl hl.1 rfl (lv_room (Nat.le_of_ble_eq_true rfl)) dX7_machine_55 ⟨Nat.le_of_ble_eq_true rfl, Nat.le_of_ble_eq_true rfl⟩) hA hw [] [0, 1, 2] rfl rfl rfl (by decide) (fun u_26 r_25 H locs hp hw => ?_)
      rcases hp with ⟨q1, c_27, rfl, rfl⟩ | ⟨q2, c_28, c_29, rfl, rfl⟩ | ⟨c_30, c_31, rfl, rfl⟩
      · exact (show False by have g_c_6 := rc_n1 (b := 1) c_6 rfl; have g_c_7 := rc_n2 (b := 60) c_7 rfl; have g_c_27 := rc_g1 (b := (-128)) c_27 rfl; omega).elim
      · exact (show False by have g_c_6 := rc_n1 (b := 1) c_6 rfl; have g_c_7 := rc_n2 (b := 60) c_7 rfl; have g_c_28 := rc_n1 (b := (-128)) c_28 rfl; have g_c_29 := rc_g2 (b := 127) c_29 rfl; omega).elim
      · have hw : rc_W E A s [(h0, .inr (12, [.int 0, .ref h1, .ref h2, .ref h3, .ref h4, .ref h5, .int 1, .int 3, .int 50, .int (-1), .int (-1), .int (-1), .int (-1), .int 0, .int 100, .int 1000, .long 0])), (h1, .inr (4, [.int 0, .ref (E.2.2 0), .int 0])), (h2, .inr (4, [.int 0, .ref (E.2.2 0), .int 0]))] H locs := hw
        refine rc_calli (wr := [(h0, .inr (12, [.int 0, .ref h1, .ref h2, .ref h3, .ref h4, .ref h5, .int 1, .int 3, .int 50, .int (-1), .int (-1), .int (-1), .int (-1), .int 0, .int 100, .int 1000, .long 0])), (h1, .inr (4, [.int 0, .ref (E.2.2 0), .int 0]))]) (va_runV (As := [.ref (E.2.2 (2 + (x0 + 128).toNatClampNeg))]) (rest := []) (Ts := []) ⟨hx, hb, hml, hown, fun _ h9 => absurd h9 List.not_mem_nil⟩ (cw_Jx4a65c_add_9ea2d_42 l E _ h2 ((x0 + 128).toNatClampNeg) (rc_small c_30 c_31)) (rc_cwV hAm qw_949 qw_4 qw_182 qw_180 qw_181 rfl rfl hd_Jx4a65c_add_9ea2d ⟨Nat.le_of_ble_eq_true rfl, Nat.le_of_ble_eq_true rfl⟩) (rc_preV hAm hA hw [2] rfl rfl 2 rfl (q := vwCl[4]) rfl) rfl rfl hl.1 rfl (lv_room (Nat.le_of_ble_eq_true rfl)) dX7_machine_58 ⟨Nat.le_of_ble_eq_true rfl, Nat.le_of_ble_eq_true rfl⟩) hA hw [2] [0, 1] rfl rfl rfl (by decide) (fun r_32 u_33 H locs hp hw => ?_)
        obtain ⟨q3, rfl, rfl⟩ := hp
        have hw : rc_W E A s [(h0, .inr (12, [.int 0, .ref h1, .ref h2, .ref h3, .ref h4, .ref h5, .int 1, .int 3, .int 50, .int (-1), .int (-1), .int (-1), .int (-1), .int 0, .int 100, .int 1000, .long 0])), (h1, .inr (4, [.int 0, .ref (E.2.2 0), .int 0])), (h2, .inr (4, [.int 1, .ref q3, .int 1])), (q3, .inl (E.2.1 2, 10, .inr (.inr (.inr (.inr (rc_rows [(E.2.2 (2 + ((x0 + 128).toNatClampNeg)))]))))))] H locs := hw
        refine lv_pop hx hb dX7_machine_61 rfl ?_
        refine rc_new (C := RJx4a65c) (ci := 4) hx hb hown hAm hA hw lyJx4a65c tyJx4a65c tyJx4a65c_ok rfl qw_858 qw_43 qw_4 [.int 0, .null, .int 0] rfl (Nat.le_of_ble_eq_true rfl) (Nat.le_of_ble_eq_true rfl) dX7_machine_62 (fun q4 H hw => ?_)
        have hw : rc_W E A s [(h0, .inr (12, [.int 0, .ref h1, .ref h2, .ref h3, .ref h4, .ref h5, .int 1, .int 3, .int 50, .int (-1), .int (-1), .int (-1), .int (-1), .int 0, .int 100, .int 1000, .long 0])), (h1, .inr (4, [.int 0, .ref (E.2.2 0), .int 0])), (h2, .inr (4, [.int 1, .ref q3, .int 1])), (q3, .inl (E.2.1 2, 10, .inr (.inr (.inr (.inr (rc_rows [(E.2.2 (2 + ((x0 + 128).toNatClampNeg)))])))))), (q4, .inr (4, [.int 0, .null, .int 0]))] H _ := hw
        refine lv_dup hx hb dX7_machine_65 rfl ?_
        refine rc_callv (wr := [(h0, .inr (12, [.int 0, .ref h1, .ref h2, .ref h3, .ref h4, .ref h5, .int 1, .int 3, .int 50, .int (-1), .int (-1), .int (-1), .int (-1), .int 0, .int 100, .int 1000, .long 0])), (h1, .inr (4, [.int 0, .ref (E.2.2 0), .int 0])), (h2, .inr (4, [.int 1, .ref q3, .int 1])), (q3, .inl (E.2.1 2, 10, .inr (.inr (.inr (.inr (rc_rows [(E.2.2 (2 + ((x0 + 128).toNatClampNeg)))]))))))]) (va_runI (As := []) (rest := [.ref q4]) (Ts := []) ⟨hx, hb, hml, hown, fun _ h9 => absurd h9 List.not_mem_nil⟩ (cw_Jx4a65c_init_da8c8 l E _ q4) (rc_cwI hAm qw_859 qw_4 qw_46 qw_45 rfl rfl rfl hd_Jx4a65c_init_da8c8 ⟨Nat.le_of_ble_eq_true rfl, Nat.le_of_ble_eq_true rfl⟩) (rc_preS hAm hA hw [4] rfl rfl) rfl rfl hl.1 rfl (lv_room (Nat.le_of_ble_eq_true rfl)) dX7_machine_66 ⟨Nat.le_of_ble_eq_true rfl, Nat.le_of_ble_eq_true rfl⟩) hA hw [4] [0, 1, 2, 3] rfl rfl rfl (by decide) (fun u_35 H locs hp hw => ?_)
        obtain ⟨rfl⟩ := hp
        have hw : rc_W E A s [(h0, .inr (12, [.int 0, .ref h1, .ref h2, .ref h3, .ref h4, .ref h5, .int 1, .int 3, .int 50, .int (-1), .int (-1), .int (-1), .int (-1), .int 0, .int 100, .int 1000, .long 0])), (h1, .inr (4, [.int 0, .ref (E.2.2 0), .int 0])), (h2, .inr (4, [.int 1, .ref q3, .int 1])), (q3, .inl (E.2.1 2, 10, .inr (.inr (.inr (.inr (rc_rows [(E.2.2 (2 + ((x0 + 128).toNatClampNeg)))])))))), (q4, .inr (4, [.int 0, .ref (E.2.2 0), .int 0]))] H locs := hw
        refine lv_astore_n (lv' := [(3, .ref q4), (0, .ref h0), (1, .int x0), (2, .int x1)]) hx hb dX7_machine_69 rfl hl (by decide) rfl (fun ls hl => ?_)
        refine lv_aload_n hx hb dX7_machine_70 rfl (lv_at hl 0 rfl) ?_
        refine lv_iload_n hx hb dX7_machine_71 rfl (lv_at hl 3 rfl) ?_
        refine rc_callr (wr := [(h0, .inr (12, [.int 0, .ref h1, .ref h2, .ref h3, .ref h4, .ref h5, .int 1, .int 3, .int 50, .int (-1), .int (-1), .int (-1), .int (-1), .int 0, .int 100, .int 1000, .long 0])), (h1, .inr (4, [.int 0, .ref (E.2.2 0), .int 0])), (h2, .inr (4, [.int 1, .ref q3, .int 1])), (q3, .inl (E.2.1 2, 10, .inr (.inr (.inr (.inr (rc_rows [(E.2.2 (2 + ((x0 + 128).toNatClampNeg)))])))))), (q4, .inr (4, [.int 0, .ref (E.2.2 0), .int 0]))]) (va_runS (As := [.int x1]) (rest := [.ref q4]) (Ts := []) ⟨hx, hb, hml, hown, fun _ h9 => absurd h9 List.not_mem_nil⟩ (cw_J6_valueOf_2dffe l E _ x1) (rc_cwS hAm qw_929 qw_21 qw_931 qw_930 rfl rfl hd_J6_valueOf_2dffe ⟨Nat.le_of_ble_eq_true rfl, Nat.le_of_ble_eq_true rfl⟩) (rc_preS hAm hA hw [] rfl rfl) rfl rfl hl.1 rfl (lv_room (Nat.le_of_ble_eq_true rfl)) dX7_machine_72 ⟨Nat.le_of_ble_eq_true rfl, Nat.le_of_ble_eq_true rfl⟩) hA hw [] [0, 1, 2, 3, 4] rfl rfl rfl (by decide) (fun u_37 r_36 H locs hp hw => ?_)
        rcases hp with ⟨q5, c_38, rfl, rfl⟩ | ⟨q6, c_39, c_40, rfl, rfl⟩ | ⟨c_41, c_42, rfl, rfl⟩
        · exact (show False by have g_c_17 := rc_n1 (b := 50) c_17 rfl; have g_c_18 := rc_n2 (b := 200) c_18 rfl; have g_c_38 := rc_g1 (b := (-128)) c_38 rfl; omega).elim
        · have hw : rc_W E A s [(h0, .inr (12, [.int 0, .ref h1, .ref h2, .ref h3, .ref h4, .ref h5, .int 1, .int 3, .int 50, .int (-1), .int (-1), .int (-1), .int (-1), .int 0, .int 100, .int 1000, .long 0])), (h1, .inr (4, [.int 0, .ref (E.2.2 0), .int 0])), (h2, .inr (4, [.int 1, .ref q3, .int 1])), (q3, .inl (E.2.1 2, 10, .inr (.inr (.inr (.inr (rc_rows [(E.2.2 (2 + ((x0 + 128).toNatClampNeg)))])))))), (q4, .inr (4, [.int 0, .ref (E.2.2 0), .int 0])), (q6, .inr (2, [.int x1]))] H locs := hw
          refine rc_calli (wr := [(h0, .inr (12, [.int 0, .ref h1, .ref h2, .ref h3, .ref h4, .ref h5, .int 1, .int 3, .int 50, .int (-1), .int (-1), .int (-1), .int (-1), .int 0, .int 100, .int 1000, .long 0])), (h1, .inr (4, [.int 0, .ref (E.2.2 0), .int 0])), (h2, .inr (4, [.int 1, .ref q3, .int 1])), (q3, .inl (E.2.1 2, 10, .inr (.inr (.inr (.inr (rc_rows [(E.2.2 (2 + ((x0 + 128).toNatClampNeg)))]))))))]) (va_runV (As := [.ref q6]) (rest := []) (Ts := []) ⟨hx, hb, hml, hown, fun _ h9 => absurd h9 List.not_mem_nil⟩ (cw_Jx4a65c_add_9ea2d_43 l E _ q4 q6 x1) (rc_cwV hAm qw_949 qw_4 qw_182 qw_180 qw_181 rfl rfl hd_Jx4a65c_add_9ea2d ⟨Nat.le_of_ble_eq_true rfl, Nat.le_of_ble_eq_true rfl⟩) (rc_preV hAm hA hw [4, 5] rfl rfl 4 rfl (q := vwCl[4]) rfl) rfl rfl hl.1 rfl (lv_room (Nat.le_of_ble_eq_true rfl)) dX7_machine_75 ⟨Nat.le_of_ble_eq_true rfl, Nat.le_of_ble_eq_true rfl⟩) hA hw [4, 5] [0, 1, 2, 3] rfl rfl rfl (by decide) (fun r_43 u_44 H locs hp hw => ?_)
          obtain ⟨q7, rfl, rfl⟩ := hp
          have hw : rc_W E A s [(h0, .inr (12, [.int 0, .ref h1, .ref h2, .ref h3, .ref h4, .ref h5, .int 1, .int 3, .int 50, .int (-1), .int (-1), .int (-1), .int (-1), .int 0, .int 100, .int 1000, .long 0])), (h1, .inr (4, [.int 0, .ref (E.2.2 0), .int 0])), (h2, .inr (4, [.int 1, .ref q3, .int 1])), (q3, .inl (E.2.1 2, 10, .inr (.inr (.inr (.inr (rc_rows [(E.2.2 (2 + ((x0 + 128).toNatClampNeg)))])))))), (q4, .inr (4, [.int 1, .ref q7, .int 1])), (q6, .inr (2, [.int x1])), (q7, .inl (E.2.1 2, 10, .inr (.inr (.inr (.inr (rc_rows [q6]))))))] H locs := hw
          refine lv_pop hx hb dX7_machine_78 rfl ?_
          refine lv_aload_n hx hb dX7_machine_79 rfl (lv_at hl 1 rfl) ?_
          refine rc_get (v := .ref h1) hx hb hown hAm hw lyX7 0 rfl rfl 1 (by decide) qw_861 (fun _ h9 => h9) rfl dX7_machine_80 ?_
          refine lv_aload_n hx hb dX7_machine_83 rfl (lv_at hl 0 rfl) ?_
          refine rc_calli (wr := [(h0, .inr (12, [.int 0, .ref h1, .ref h2, .ref h3, .ref h4, .ref h5, .int 1, .int 3, .int 50, .int (-1), .int (-1), .int (-1), .int (-1), .int 0, .int 100, .int 1000, .long 0])), (h2, .inr (4, [.int 1, .ref q3, .int 1])), (q3, .inl (E.2.1 2, 10, .inr (.inr (.inr (.inr (rc_rows [(E.2.2 (2 + ((x0 + 128).toNatClampNeg)))])))))), (q6, .inr (2, [.int x1])), (q7, .inl (E.2.1 2, 10, .inr (.inr (.inr (.inr (rc_rows [q6]))))))]) (va_runV (As := [.ref q4]) (rest := []) (Ts := []) ⟨hx, hb, hml, hown, fun _ h9 => absurd h9 List.not_mem_nil⟩ (cw_Jx4a65c_add_9ea2d_44 l E _ h1 q4 q7) (rc_cwV hAm qw_949 qw_4 qw_182 qw_180 qw_181 rfl rfl hd_Jx4a65c_add_9ea2d ⟨Nat.le_of_ble_eq_true rfl, Nat.le_of_ble_eq_true rfl⟩) (rc_preV hAm hA hw [1, 4] rfl rfl 1 rfl (q := vwCl[4]) rfl) rfl rfl hl.1 rfl (lv_room (Nat.le_of_ble_eq_true rfl)) dX7_machine_84 ⟨Nat.le_of_ble_eq_true rfl, Nat.le_of_ble_eq_true rfl⟩) hA hw [1, 4] [0, 2, 3, 5, 6] rfl rfl rfl (by decide) (fun r_45 u_46 H locs hp hw => ?_)
          obtain ⟨q8, rfl, rfl⟩ := hp
          have hw : rc_W E A s [(h0, .inr (12, [.int 0, .ref h1, .ref h2, .ref h3, .ref h4, .ref h5, .int 1, .int 3, .int 50, .int (-1), .int (-1), .int (-1), .int (-1), .int 0, .int 100, .int 1000, .long 0])), (h2, .inr (4, [.int 1, .ref q3, .int 1])), (q3, .inl (E.2.1 2, 10, .inr (.inr (.inr (.inr (rc_rows [(E.2.2 (2 + ((x0 + 128).toNatClampNeg)))])))))), (q6, .inr (2, [.int x1])), (q7, .inl (E.2.1 2, 10, .inr (.inr (.inr (.inr (rc_rows [q6])))))), (h1, .inr (4, [.int 1, .ref q8, .int 1])), (q4, .inr (4, [.int 1, .ref q7, .int 1])), (q8, .inl (E.2.1 2, 10, .inr (.inr (.inr (.inr (rc_rows [q4]))))))] H locs := hw
          refine lv_pop hx hb dX7_machine_87 rfl ?_
          refine lv_aload_n hx hb dX7_machine_88 rfl (lv_at hl 1 rfl) ?_
          refine rc_get (v := .ref h2) hx hb hown hAm hw lyX7 0 rfl rfl 2 (by decide) qw_862 (fun _ h9 => h9) rfl dX7_machine_89 ?_
          refine rc_calli (wr := [(h0, .inr (12, [.int 0, .ref h1, .ref h2, .ref h3, .ref h4, .ref h5, .int 1, .int 3, .int 50, .int (-1), .int (-1), .int (-1), .int (-1), .int 0, .int 100, .int 1000, .long 0])), (q3, .inl (E.2.1 2, 10, .inr (.inr (.inr (.inr (rc_rows [(E.2.2 (2 + ((x0 + 128).toNatClampNeg)))])))))), (q6, .inr (2, [.int x1])), (q7, .inl (E.2.1 2, 10, .inr (.inr (.inr (.inr (rc_rows [q6])))))), (h1, .inr (4, [.int 1, .ref q8, .int 1])), (q4, .inr (4, [.int 1, .ref q7, .int 1])), (q8, .inl (E.2.1 2, 10, .inr (.inr (.inr (.inr (rc_rows [q4]))))))]) (va_runV (As := []) (rest := []) (Ts := []) ⟨hx, hb, hml, hown, fun _ h9 => absurd h9 List.not_mem_nil⟩ (cw_Jx4a65c_size_8abf5_2 l E _ h2 q3) (rc_cwV hAm qw_928 qw_4 qw_289 qw_287 qw_288 rfl rfl hd_Jx4a65c_size_8abf5 ⟨Nat.le_of_ble_eq_true rfl, Nat.le_of_ble_eq_true rfl⟩) (rc_preV hAm hA hw [1] rfl rfl 1 rfl (q := vwCl[4]) rfl) rfl rfl hl.1 rfl (lv_room (Nat.le_of_ble_eq_true rfl)) dX7_machine_92 ⟨Nat.le_of_ble_eq_true rfl, Nat.le_of_ble_eq_true rfl⟩) hA hw [1] [0, 2, 3, 4, 5, 6, 7] rfl rfl rfl (by decide) (fun r_47 u_48 H locs hp hw => ?_)
          obtain ⟨rfl, rfl⟩ := hp
          have hw : rc_W E A s [(h0, .inr (12, [.int 0, .ref h1, .ref h2, .ref h3, .ref h4, .ref h5, .int 1, .int 3, .int 50, .int (-1), .int (-1), .int (-1), .int (-1), .int 0, .int 100, .int 1000, .long 0])), (q3, .inl (E.2.1 2, 10, .inr (.inr (.inr (.inr (rc_rows [(E.2.2 (2 + ((x0 + 128).toNatClampNeg)))])))))), (q6, .inr (2, [.int x1])), (q7, .inl (E.2.1 2, 10, .inr (.inr (.inr (.inr (rc_rows [q6])))))), (h1, .inr (4, [.int 1, .ref q8, .int 1])), (q4, .inr (4, [.int 1, .ref q7, .int 1])), (q8, .inl (E.2.1 2, 10, .inr (.inr (.inr (.inr (rc_rows [q4])))))), (h2, .inr (4, [.int 1, .ref q3, .int 1]))] H locs := hw
          refine lv_iconst (v := 1) hx hb dX7_machine_95 (by decide) ?_
          refine lv_isub hx hb dX7_machine_96 ?_
          refine rc_topi 0 (by decide) ?_
          exact rc_iret (v := 0) hx hb hr hlocks hw [(h0, .inr (12, [.int 0, .ref h1, .ref h2, .ref h3, .ref h4, .ref h5, .int 1, .int 3, .int 50, .int (-1), .int (-1), .int (-1), .int (-1), .int 0, .int 100, .int 1000, .long 0])), (h1, .inr (4, [.int 1, .ref q8, .int 1])), (h2, .inr (4, [.int 1, .ref q3, .int 1])), (q3, .inl (E.2.1 2, 10, .inr (.inr (.inr (.inr (rc_rows [(E.2.2 (2 + ((x0 + 128).toNatClampNeg)))])))))), (q6, .inr (2, [.int x1])), (q7, .inl (E.2.1 2, 10, .inr (.inr (.inr (.inr (rc_rows [q6])))))), (q4, .inr (4, [.int 1, .ref q7, .int 1])), (q8, .inl (E.2.1 2, 10, .inr (.inr (.inr (.inr (rc_rows [q4]))))))] (Or.inr (Or.inr (Or.inr (Or.inr (Or.inl ⟨q3, q6, q7, q4, q8, c_6, c_7, c_17, c_18, c_30, c_31, c_39, c_40, rfl, rfl⟩))))) [0, 4, 7, 1, 2, 3, 5, 6] rfl (by decide) (Nat.le_of_ble_eq_true rfl) (Nat.le_of_ble_eq_true rfl) dX7_machine_97
        · have hw : rc_W E A s [(h0, .inr (12, [.int 0, .ref h1, .ref h2, .ref h3, .ref h4, .ref h5, .int 1, .int 3, .int 50, .int (-1), .int (-1), .int (-1), .int (-1), .int 0, .int 100, .int 1000, .long 0])), (h1, .inr (4, [.int 0, .ref (E.2.2 0), .int 0])), (h2, .inr (4, [.int 1, .ref q3, .int 1])), (q3, .inl (E.2.1 2, 10, .inr (.inr (.inr (.inr (rc_rows [(E.2.2 (2 + ((x0 + 128).toNatClampNeg)))])))))), (q4, .inr (4, [.int 0, .ref (E.2.2 0), .int 0]))] H locs := hw
          refine rc_calli (wr := [(h0, .inr (12, [.int 0, .ref h1, .ref h2, .ref h3, .ref h4, .ref h5, .int 1, .int 3, .int 50, .int (-1), .int (-1), .int (-1), .int (-1), .int 0, .int 100, .int 1000, .long 0])), (h1, .inr (4, [.int 0, .ref (E.2.2 0), .int 0])), (h2, .inr (4, [.int 1, .ref q3, .int 1])), (q3, .inl (E.2.1 2, 10, .inr (.inr (.inr (.inr (rc_rows [(E.2.2 (2 + ((x0 + 128).toNatClampNeg)))]))))))]) (va_runV (As := [.ref (E.2.2 (2 + (x1 + 128).toNatClampNeg))]) (rest := []) (Ts := []) ⟨hx, hb, hml, hown, fun _ h9 => absurd h9 List.not_mem_nil⟩ (cw_Jx4a65c_add_9ea2d_42 l E _ q4 ((x1 + 128).toNatClampNeg) (rc_small c_41 c_42)) (rc_cwV hAm qw_949 qw_4 qw_182 qw_180 qw_181 rfl rfl hd_Jx4a65c_add_9ea2d ⟨Nat.le_of_ble_eq_true rfl, Nat.le_of_ble_eq_true rfl⟩) (rc_preV hAm hA hw [4] rfl rfl 4 rfl (q := vwCl[4]) rfl) rfl rfl hl.1 rfl (lv_room (Nat.le_of_ble_eq_true rfl)) dX7_machine_75 ⟨Nat.le_of_ble_eq_true rfl, Nat.le_of_ble_eq_true rfl⟩) hA hw [4] [0, 1, 2, 3] rfl rfl rfl (by decide) (fun r_49 u_50 H locs hp hw => ?_)
          obtain ⟨q9, rfl, rfl⟩ := hp
          have hw : rc_W E A s [(h0, .inr (12, [.int 0, .ref h1, .ref h2, .ref h3, .ref h4, .ref h5, .int 1, .int 3, .int 50, .int (-1), .int (-1), .int (-1), .int (-1), .int 0, .int 100, .int 1000, .long 0])), (h1, .inr (4, [.int 0, .ref (E.2.2 0), .int 0])), (h2, .inr (4, [.int 1, .ref q3, .int 1])), (q3, .inl (E.2.1 2, 10, .inr (.inr (.inr (.inr (rc_rows [(E.2.2 (2 + ((x0 + 128).toNatClampNeg)))])))))), (q4, .inr (4, [.int 1, .ref q9, .int 1])), (q9, .inl (E.2.1 2, 10, .inr (.inr (.inr (.inr (rc_rows [(E.2.2 (2 + ((x1 + 128).toNatClampNeg)))]))))))] H locs := hw
          refine lv_pop hx hb dX7_machine_78 rfl ?_
          refine lv_aload_n hx hb dX7_machine_79 rfl (lv_at hl 1 rfl) ?_
          refine rc_get (v := .ref h1) hx hb hown hAm hw lyX7 0 rfl rfl 1 (by decide) qw_861 (fun _ h9 => h9) rfl dX7_machine_80 ?_
          refine lv_aload_n hx hb dX7_machine_83 rfl (lv_at hl 0 rfl) ?_
          refine rc_calli (wr := [(h0, .inr (12, [.int 0, .ref h1, .ref h2, .ref h3, .ref h4, .ref h5, .int 1, .int 3, .int 50, .int (-1), .int (-1), .int (-1), .int (-1), .int 0, .int 100, .int 1000, .long 0])), (h2, .inr (4, [.int 1, .ref q3, .int 1])), (q3, .inl (E.2.1 2, 10, .inr (.inr (.inr (.inr (rc_rows [(E.2.2 (2 + ((x0 + 128).toNatClampNeg)))])))))), (q9, .inl (E.2.1 2, 10, .inr (.inr (.inr (.inr (rc_rows [(E.2.2 (2 + ((x1 + 128).toNatClampNeg)))]))))))]) (va_runV (As := [.ref q4]) (rest := []) (Ts := []) ⟨hx, hb, hml, hown, fun _ h9 => absurd h9 List.not_mem_nil⟩ (cw_Jx4a65c_add_9ea2d_44 l E _ h1 q4 q9) (rc_cwV hAm qw_949 qw_4 qw_182 qw_180 qw_181 rfl rfl hd_Jx4a65c_add_9ea2d ⟨Nat.le_of_ble_eq_true rfl, Nat.le_of_ble_eq_true rfl⟩) (rc_preV hAm hA hw [1, 4] rfl rfl 1 rfl (q := vwCl[4]) rfl) rfl rfl hl.1 rfl (lv_room (Nat.le_of_ble_eq_true rfl)) dX7_machine_84 ⟨Nat.le_of_ble_eq_true rfl, Nat.le_of_ble_eq_true rfl⟩) hA hw [1, 4] [0, 2, 3, 5] rfl rfl rfl (by decide) (fun r_51 u_52 H locs hp hw => ?_)
          obtain ⟨q10, rfl, rfl⟩ := hp
          have hw : rc_W E A s [(h0, .inr (12, [.int 0, .ref h1, .ref h2, .ref h3, .ref h4, .ref h5, .int 1, .int 3, .int 50, .int (-1), .int (-1), .int (-1), .int (-1), .int 0, .int 100, .int 1000, .long 0])), (h2, .inr (4, [.int 1, .ref q3, .int 1])), (q3, .inl (E.2.1 2, 10, .inr (.inr (.inr (.inr (rc_rows [(E.2.2 (2 + ((x0 + 128).toNatClampNeg)))])))))), (q9, .inl (E.2.1 2, 10, .inr (.inr (.inr (.inr (rc_rows [(E.2.2 (2 + ((x1 + 128).toNatClampNeg)))])))))), (h1, .inr (4, [.int 1, .ref q10, .int 1])), (q4, .inr (4, [.int 1, .ref q9, .int 1])), (q10, .inl (E.2.1 2, 10, .inr (.inr (.inr (.inr (rc_rows [q4]))))))] H locs := hw
          refine lv_pop hx hb dX7_machine_87 rfl ?_
          refine lv_aload_n hx hb dX7_machine_88 rfl (lv_at hl 1 rfl) ?_
          refine rc_get (v := .ref h2) hx hb hown hAm hw lyX7 0 rfl rfl 2 (by decide) qw_862 (fun _ h9 => h9) rfl dX7_machine_89 ?_
          refine rc_calli (wr := [(h0, .inr (12, [.int 0, .ref h1, .ref h2, .ref h3, .ref h4, .ref h5, .int 1, .int 3, .int 50, .int (-1), .int (-1), .int (-1), .int (-1), .int 0, .int 100, .int 1000, .long 0])), (q3, .inl (E.2.1 2, 10, .inr (.inr (.inr (.inr (rc_rows [(E.2.2 (2 + ((x0 + 128).toNatClampNeg)))])))))), (q9, .inl (E.2.1 2, 10, .inr (.inr (.inr (.inr (rc_rows [(E.2.2 (2 + ((x1 + 128).toNatClampNeg)))])))))), (h1, .inr (4, [.int 1, .ref q10, .int 1])), (q4, .inr (4, [.int 1, .ref q9, .int 1])), (q10, .inl (E.2.1 2, 10, .inr (.inr (.inr (.inr (rc_rows [q4]))))))]) (va_runV (As := []) (rest := []) (Ts := []) ⟨hx, hb, hml, hown, fun _ h9 => absurd h9 List.not_mem_nil⟩ (cw_Jx4a65c_size_8abf5_2 l E _ h2 q3) (rc_cwV hAm qw_928 qw_4 qw_289 qw_287 qw_288 rfl rfl hd_Jx4a65c_size_8abf5 ⟨Nat.le_of_ble_eq_true rfl, Nat.le_of_ble_eq_true rfl⟩) (rc_preV hAm hA hw [1] rfl rfl 1 rfl (q := vwCl[4]) rfl) rfl rfl hl.1 rfl (lv_room (Nat.le_of_ble_eq_true rfl)) dX7_machine_92 ⟨Nat.le_of_ble_eq_true rfl, Nat.le_of_ble_eq_true rfl⟩) hA hw [1] [0, 2, 3, 4, 5, 6] rfl rfl rfl (by decide) (fun r_53 u_54 H locs hp hw => ?_)
          obtain ⟨rfl, rfl⟩ := hp
          have hw : rc_W E A s [(h0, .inr (12, [.int 0, .ref h1, .ref h2, .ref h3, .ref h4, .ref h5, .int 1, .int 3, .int 50, .int (-1), .int (-1), .int (-1), .int (-1), .int 0, .int 100, .int 1000, .long 0])), (q3, .inl (E.2.1 2, 10, .inr (.inr (.inr (.inr (rc_rows [(E.2.2 (2 + ((x0 + 128).toNatClampNeg)))])))))), (q9, .inl (E.2.1 2, 10, .inr (.inr (.inr (.inr (rc_rows [(E.2.2 (2 + ((x1 + 128).toNatClampNeg)))])))))), (h1, .inr (4, [.int 1, .ref q10, .int 1])), (q4, .inr (4, [.int 1, .ref q9, .int 1])), (q10, .inl (E.2.1 2, 10, .inr (.inr (.inr (.inr (rc_rows [q4])))))), (h2, .inr (4, [.int 1, .ref q3, .int 1]))] H locs := hw
          refine lv_iconst (v := 1) hx hb dX7_machine_95 (by decide) ?_
          refine lv_isub hx hb dX7_machine_96 ?_
          refine rc_topi 0 (by decide) ?_
          exact rc_iret (v := 0) hx hb hr hlocks hw [(h0, .inr (12, [.int 0, .ref h1, .ref h2, .ref h3, .ref h4, .ref h5, .int 1, .int 3, .int 50, .int (-1), .int (-1), .int (-1), .int (-1), .int 0, .int 100, .int 1000, .long 0])), (h1, .inr (4, [.int 1, .ref q10, .int 1])), (h2, .inr (4, [.int 1, .ref q3, .int 1])), (q3, .inl (E.2.1 2, 10, .inr (.inr (.inr (.inr (rc_rows [(E.2.2 (2 + ((x0 + 128).toNatClampNeg)))])))))), (q9, .inl (E.2.1 2, 10, .inr (.inr (.inr (.inr (rc_rows [(E.2.2 (2 + ((x1 + 128).toNatClampNeg)))])))))), (q4, .inr (4, [.int 1, .ref q9, .int 1])), (q10, .inl (E.2.1 2, 10, .inr (.inr (.inr (.inr (rc_rows [q4]))))))] (Or.inr (Or.inr (Or.inr (Or.inr (Or.inr ⟨q3, q9, q4, q10, c_6, c_7, c_17, c_18, c_30, c_31, c_41, c_42, rfl, rfl⟩))))) [0, 3, 6, 1, 2, 4, 5] rfl (by decide) (Nat.le_of_ble_eq_true rfl) (Nat.le_of_ble_eq_true rfl) dX7_machine_97
