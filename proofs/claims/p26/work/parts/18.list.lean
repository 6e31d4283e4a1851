set_option maxHeartbeats 4000000 in
set_option maxRecDepth 100000 in
theorem li_newLength (l : Launch) (E : rc_E) (sz : Nat) (G : tg_G) (o9 g9 p9 : Nat) (h1 : o9 ≤ 100) (h2 : 0 < g9 ∧ g9 ≤ 100) (h3 : p9 ≤ 100) : tg_M l yJ8_newLength_cabcc [Cond.code yJ8_newLength_cabcc cJ8_newLength_cabcc 4 (some FieldType.int)] { frames := 1, cells := 0, slots := 0, locals := 14 } E [.int (nI o9), .int (nI g9), .int (nI p9)] G sz (tg_Qi E (fun r u => r = nI (o9 + max g9 p9) ∧ u = G)) 0 0 := by
  refine tg_in (cc := cJ8_newLength_cabcc) (maxL := 4) (ret := (some FieldType.int)) (tg_Qi E (fun r u => r = nI (o9 + max g9 p9) ∧ u = G)) (by decide) rfl (Nat.le_of_ble_eq_true rfl) ?_
  intro p e s m args below meth cd ls A hx hb hr hml hown hlocks hin hA hAm hw hl
  have hown : s.vm.findClass RJ8 = some m.cls := hown
  have hl : lv_has ls 4 [(0, .int (nI o9)), (1, .int (nI g9)), (2, .int (nI p9))] := hl
  obtain ⟨h2, h4⟩ := h2
  refine lv_iload_n hx hb dJ8_newLength_cabcc_0 rfl (lv_at hl 0 rfl) ?_
  refine lv_iload_n hx hb dJ8_newLength_cabcc_1 rfl (lv_at hl 1 rfl) ?_
  refine lv_iload_n hx hb dJ8_newLength_cabcc_2 rfl (lv_at hl 2 rfl) ?_
  refine va_mmax hx hb (by rw [hml]; exact hl.1.symm) hown (hAm.wd qw_186 rfl rfl) (hAm.wd qw_187 rfl rfl) (hAm.wd qw_10 rfl rfl) (hAm.wd qw_188 rfl rfl) (Nat.le_of_ble_eq_true rfl) (Nat.le_of_ble_eq_true rfl) (Nat.le_of_ble_eq_true rfl) (Nat.le_of_ble_eq_true rfl) dJ8_newLength_cabcc_3 ?_
  refine rc_topi (nI (max g9 p9)) (nb_max (a := g9) (b := p9) (by omega) (by omega)) ?_
  refine lv_iadd hx hb dJ8_newLength_cabcc_6 ?_
  refine rc_topi (nI (o9 + max g9 p9)) (nI_add o9 (max g9 p9)) ?_
  refine lv_istore_n (lv' := [(3, .int (nI (o9 + max g9 p9))), (0, .int (nI o9)), (1, .int (nI g9)), (2, .int (nI p9))]) hx hb dJ8_newLength_cabcc_7 rfl hl (by decide) rfl (fun ls hl => ?_)
  refine lv_iconst (v := 0) hx hb dJ8_newLength_cabcc_8 (by decide) ?_
  refine lv_iload_n hx hb dJ8_newLength_cabcc_9 rfl (lv_at hl 0 rfl) ?_
  refine lv_icmp_ge (tgt := 21) hx hb dJ8_newLength_cabcc_10 (by decide) (fun c9 => absurd c9 (fun z9 => absurd ((nI_leI (a := o9 + max g9 p9) (b := 0) (by omega) (by omega)).mp z9) (by omega))) (fun _ => ?_)
  refine lv_iload_n hx hb dJ8_newLength_cabcc_13 rfl (lv_at hl 0 rfl) ?_
  refine lv_ldc (v := 2147483639) hx hb hown (hAm.wd qw_189 rfl rfl) dJ8_newLength_cabcc_14 ?_
  refine lv_icmp_gt (tgt := 21) hx hb dJ8_newLength_cabcc_16 (by decide) (fun c9 => absurd c9 (fun z9 => absurd ((nI_ltI (a := 2147483639) (b := o9 + max g9 p9) (by omega) (by omega)).mp z9) (by omega))) (fun _ => ?_)
  refine lv_iload_n hx hb dJ8_newLength_cabcc_19 rfl (lv_at hl 0 rfl) ?_
  exact tg_iret hx hb hr hlocks hw (⟨rfl, rfl⟩) (Nat.le_of_ble_eq_true rfl) (Nat.le_of_ble_eq_true rfl) dJ8_newLength_cabcc_20
set_option maxHeartbeats 4000000 in
set_option maxRecDepth 100000 in
theorem li_copyOf3 (l : Launch) (E : rc_E) (sz : Nat) (G : tg_G) {t1 aa cap N1 : Nat} {f : Nat → Option Nat} (h1 : cap ≤ N1) (hN : N1 ≤ 200) (ht : t1 ≠ 63) {ci : Nat} {C9 : String} {T9 : u_T} {N9 : Nat} (hci : vwCl[ci]? = some (C9, T9, N9)) (hca : Cond.castable C9 "java/lang/Object" ∈ lw_tbl) (hel : ∀ i9, i9 < cap → ∀ y9, f i9 = some y9 → ∃ (te : Nat) (vs : List Value), te ≠ 63 ∧ G te = some (y9, .inr (ci, vs))) (h2 : G t1 = some (aa, .inl (E.2.1 2, cap, .inr (.inr (.inr (.inr f)))))) : tg_M l yJ7_copyOf_6403c [Cond.code yJ7_copyOf_6403c cJ7_copyOf_6403c 4 (some (FieldType.array (FieldType.object "java/lang/Object")))] { frames := 1, cells := 1, slots := 200, locals := 40 } E [.ref aa, .int (nI N1), .ref (E.2.2 300)] G sz (tg_Qr E (fun u a9 => (∃ f2 : Nat → Option Nat, u 63 = some (a9, .inl (E.2.1 2, N1, .inr (.inr (.inr (.inr f2))))) ∧ ∀ i9, i9 < cap → f2 i9 = f i9) ∧ ∀ t9, t9 ≠ 63 → u t9 = G t9)) 1 200 := by
  refine tg_in (cc := cJ7_copyOf_6403c) (maxL := 4) (ret := (some (FieldType.array (FieldType.object "java/lang/Object")))) (tg_Qr E (fun u a9 => (∃ f2 : Nat → Option Nat, u 63 = some (a9, .inl (E.2.1 2, N1, .inr (.inr (.inr (.inr f2))))) ∧ ∀ i9, i9 < cap → f2 i9 = f i9) ∧ ∀ t9, t9 ≠ 63 → u t9 = G t9)) (by decide) rfl (Nat.le_of_ble_eq_true rfl) ?_
  intro p e s m args below meth cd ls A hx hb hr hml hown hlocks hin hA hAm hw hl
  have hown : s.vm.findClass RJ7 = some m.cls := hown
  have hl : lv_has ls 4 [(0, .ref aa), (1, .int (nI N1)), (2, .ref (E.2.2 300))] := hl
  refine lv_aload_n hx hb dJ7_copyOf_6403c_0 rfl (lv_at hl 2 rfl) ?_
  refine va_ldcM hx hb hown (hAm.wd qw_214 rfl rfl) hAm.2.2.2 dJ7_copyOf_6403c_1 ?_
  refine lv_acmp_ne (rx := (some (E.2.2 300))) (ry := (some (E.2.2 300))) (tgt := 13) hx hb dJ7_copyOf_6403c_3 (by decide) (fun c9 => absurd rfl c9) (fun _ => ?_)
  refine lv_iload_n hx hb dJ7_copyOf_6403c_6 rfl (lv_at hl 1 rfl) ?_
  refine tg_qnew 63 hx hb hown hAm hA hw qw_216 qw_215 N1 (nI_pos (by omega)) (nI_clamp (by omega)) (by omega) (Nat.le_of_ble_eq_true rfl) (by show _ ≤ 200; omega) dJ7_copyOf_6403c_7 (fun q_1 G_2 H g_3 o_4 hw => ?_)
  refine W.widen (k := 1) (n := 200) (Nat.le_of_ble_eq_true rfl) (by omega) ?_
  have h2 := (o_4 _ (by omega)).trans h2
  have kq_1 : G_2 63 = some (q_1, .inl (E.2.1 2, N1, .inr (.inr (.inr (.inr (fun _ => none)))))) := g_3
  refine lv_goto (tgt := 24) hx hb dJ7_copyOf_6403c_10 (by decide) ?_
  refine lv_astore_n (lv' := [(3, .ref q_1), (0, .ref aa), (1, .int (nI N1)), (2, .ref (E.2.2 300))]) hx hb dJ7_copyOf_6403c_24 rfl hl (by decide) rfl (fun ls hl => ?_)
  refine lv_aload_n hx hb dJ7_copyOf_6403c_25 rfl (lv_at hl 1 rfl) ?_
  refine lv_iconst (v := 0) hx hb dJ7_copyOf_6403c_26 (by decide) ?_
  refine lv_aload_n hx hb dJ7_copyOf_6403c_27 rfl (lv_at hl 0 rfl) ?_
  refine lv_iconst (v := 0) hx hb dJ7_copyOf_6403c_28 (by decide) ?_
  refine lv_aload_n hx hb dJ7_copyOf_6403c_29 rfl (lv_at hl 1 rfl) ?_
  refine tg_alen hx hb hAm hw 2 h2 rfl (nI cap) rfl dJ7_copyOf_6403c_30 ?_
  refine lv_iload_n hx hb dJ7_copyOf_6403c_31 rfl (lv_at hl 2 rfl) ?_
  refine va_mmin hx hb (by rw [hml]; exact hl.1.symm) hown (hAm.wd qw_217 rfl rfl) (hAm.wd qw_218 rfl rfl) (hAm.wd qw_10 rfl rfl) (hAm.wd qw_219 rfl rfl) (Nat.le_of_ble_eq_true rfl) (Nat.le_of_ble_eq_true rfl) (Nat.le_of_ble_eq_true rfl) (Nat.le_of_ble_eq_true rfl) dJ7_copyOf_6403c_32 ?_
  refine rc_topi (nI (min cap N1)) (nb_min (a := cap) (b := N1) (by omega) (by omega)) ?_
  have hel2 : tg_els G_2 ci (min cap N1) f := fun i9 h9 y9 z9 => by obtain ⟨te, vs, e0, e1⟩ := hel i9 (by omega) y9 z9; exact ⟨te, vs, (o_4 te e0).trans e1⟩
  refine tg_copy (C := C9) (ci := ci) hx hb (by rw [hml]; exact hl.1.symm) hown hAm hw qw_220 qw_222 qw_221 qw_12 h2 kq_1 (nI_pos (by omega)) (by rw [nI_clamp (by omega)]; omega) (by rw [nI_clamp (by omega)]; omega) hci (by rw [nI_clamp (by omega)]; exact hel2) hca (Nat.le_of_ble_eq_true rfl) (Nat.le_of_ble_eq_true rfl) dJ7_copyOf_6403c_35 (fun G_5 H locs g_6 o_7 hw => ?_)
  rw [nI_clamp (by omega)] at g_6
  have h2 := (o_7 _ (by omega)).trans h2
  have kq_1 : G_5 63 = some (q_1, .inl (E.2.1 2, N1, .inr (.inr (.inr (.inr (va_cpy f (fun _ => none) 0 0 (min cap N1))))))) := g_6
  refine lv_aload_n hx hb dJ7_copyOf_6403c_38 rfl (lv_at hl 0 rfl) ?_
  exact tg_aret hx hb hr (by first | exact Or.inl ⟨_, rfl⟩ | exact Or.inr ⟨_, rfl⟩) hlocks hw (⟨⟨_, kq_1, fun i9 h9 => (by unfold va_cpy; rw [if_pos (by omega)]; simp)⟩, (fun t9 h9 => (o_7 t9 h9).trans ((o_4 t9 h9)))⟩) (Nat.le_of_ble_eq_true rfl) (Nat.le_of_ble_eq_true rfl) dJ7_copyOf_6403c_39
theorem hd_J7_copyOf_6403c : yJ7_copyOf_6403c.cls ≠ "java/lang/invoke/MethodHandle" ∧ yJ7_copyOf_6403c.cls ≠ "java/lang/invoke/VarHandle" ∧ (parseMethodDescriptor yJ7_copyOf_6403c.desc).map (fun d => d.parameters.length) = some 3 := by decide +kernel
set_option maxHeartbeats 4000000 in
set_option maxRecDepth 100000 in
theorem li_copyOf (l : Launch) (E : rc_E) (sz : Nat) (G : tg_G) {t1 aa cap N1 : Nat} {f : Nat → Option Nat} (h1 : cap ≤ N1) (hN : N1 ≤ 200) (ht : t1 ≠ 63) {ci : Nat} {C9 : String} {T9 : u_T} {N9 : Nat} (hci : vwCl[ci]? = some (C9, T9, N9)) (hca : Cond.castable C9 "java/lang/Object" ∈ lw_tbl) (hel : ∀ i9, i9 < cap → ∀ y9, f i9 = some y9 → ∃ (te : Nat) (vs : List Value), te ≠ 63 ∧ G te = some (y9, .inr (ci, vs))) (h2 : G t1 = some (aa, .inl (E.2.1 2, cap, .inr (.inr (.inr (.inr f)))))) : tg_M l yJ7_copyOf_1904c [Cond.code yJ7_copyOf_1904c cJ7_copyOf_1904c 2 (some (FieldType.array (FieldType.object "java/lang/Object")))] { frames := 2, cells := 1, slots := 200, locals := 63 } E [.ref aa, .int (nI N1)] G sz (tg_Qr E (fun u a9 => (∃ f2 : Nat → Option Nat, u 63 = some (a9, .inl (E.2.1 2, N1, .inr (.inr (.inr (.inr f2))))) ∧ ∀ i9, i9 < cap → f2 i9 = f i9) ∧ ∀ t9, t9 ≠ 63 → u t9 = G t9)) 1 200 := by
  refine tg_in (cc := cJ7_copyOf_1904c) (maxL := 2) (ret := (some (FieldType.array (FieldType.object "java/lang/Object")))) (tg_Qr E (fun u a9 => (∃ f2 : Nat → Option Nat, u 63 = some (a9, .inl (E.2.1 2, N1, .inr (.inr (.inr (.inr f2))))) ∧ ∀ i9, i9 < cap → f2 i9 = f i9) ∧ ∀ t9, t9 ≠ 63 → u t9 = G t9)) (by decide) rfl (Nat.le_of_ble_eq_true rfl) ?_
  intro p e s m args below meth cd ls A hx hb hr hml hown hlocks hin hA hAm hw hl
  have hown : s.vm.findClass RJ7 = some m.cls := hown
  have hl : lv_has ls 2 [(0, .ref aa), (1, .int (nI N1))] := hl
  refine lv_aload_n hx hb dJ7_copyOf_1904c_0 rfl (lv_at hl 0 rfl) ?_
  refine lv_iload_n hx hb dJ7_copyOf_1904c_1 rfl (lv_at hl 1 rfl) ?_
  refine lv_aload_n hx hb dJ7_copyOf_1904c_2 rfl (lv_at hl 0 rfl) ?_
  refine tg_getC hx hb (by rw [hml]; exact hl.1.symm) hown hAm hw qw_196 qw_813 qw_812 qw_197 qw_210 h2 (Nat.le_of_ble_eq_true rfl) (Nat.le_of_ble_eq_true rfl) dJ7_copyOf_1904c_3 ?_
  refine tg_callr (va_runS (As := [.ref aa, .int (nI N1), .ref (E.2.2 300)]) (rest := []) (Ts := []) ⟨hx, hb, hml, hown, fun _ h9 => absurd h9 List.not_mem_nil⟩ (li_copyOf3 l E _ G h1 hN ht hci hca hel h2) (rc_cwS hAm qw_211 qw_11 qw_213 qw_212 rfl rfl hd_J7_copyOf_6403c ⟨Nat.le_of_ble_eq_true rfl, Nat.le_of_ble_eq_true rfl⟩) (tg_preS hAm hA hw) rfl rfl hl.1 rfl (lv_room (Nat.le_of_ble_eq_true rfl)) dJ7_copyOf_1904c_6 ⟨Nat.le_of_ble_eq_true rfl, Nat.le_of_ble_eq_true rfl⟩) hA hw (fun G_1 r_2 H locs hp hw => ?_)
  obtain ⟨⟨f2, hf2, hf3⟩, hu⟩ := hp
  have h2 := (hu _ (by omega)).trans h2
  exact tg_aret hx hb hr (by first | exact Or.inl ⟨_, rfl⟩ | exact Or.inr ⟨_, rfl⟩) hlocks hw (⟨⟨f2, hf2, hf3⟩, hu⟩) (Nat.le_of_ble_eq_true rfl) (Nat.le_of_ble_eq_true rfl) dJ7_copyOf_1904c_9
set_option maxHeartbeats 4000000 in
set_option maxRecDepth 100000 in
theorem li_growE1 (l : Launch) (E : rc_E) (sz : Nat) (G : tg_G) {t a : Nat} {mc : Int32} (h1 : G t = some (a, .inr (0, [.int mc, .ref (E.2.2 0), .int (nI 0)]))) : tg_M l yJx4a65c_grow_92f84 [Cond.code yJx4a65c_grow_92f84 cJx4a65c_grow_92f84 4 (some (FieldType.array (FieldType.object "java/lang/Object")))] { frames := 1, cells := 1, slots := 10, locals := 14 } E [.ref a, .int 1] G sz (tg_Qr E (fun u a9 => u t = some (a, .inr (0, [.int mc, .ref a9, .int (nI 0)])) ∧ u (t + 1) = some (a9, .inl (E.2.1 2, 10, .inr (.inr (.inr (.inr (fun _ => none)))))) ∧ ∀ t9, t9 ≠ t → t9 ≠ t + 1 → u t9 = G t9)) 1 10 := by
  refine tg_in (cc := cJx4a65c_grow_92f84) (maxL := 4) (ret := (some (FieldType.array (FieldType.object "java/lang/Object")))) (tg_Qr E (fun u a9 => u t = some (a, .inr (0, [.int mc, .ref a9, .int (nI 0)])) ∧ u (t + 1) = some (a9, .inl (E.2.1 2, 10, .inr (.inr (.inr (.inr (fun _ => none)))))) ∧ ∀ t9, t9 ≠ t → t9 ≠ t + 1 → u t9 = G t9)) (by decide) rfl (Nat.le_of_ble_eq_true rfl) ?_
  intro p e s m args below meth cd ls A hx hb hr hml hown hlocks hin hA hAm hw hl
  have hown : s.vm.findClass RJx4a65c = some m.cls := hown
  have hl : lv_has ls 4 [(0, .ref a), (1, .int 1)] := hl
  refine lv_aload_n hx hb dJx4a65c_grow_92f84_0 rfl (lv_at hl 0 rfl) ?_
  refine tg_get (v := .ref (E.2.2 0)) hx hb hown hAm hw lyJx4a65c h1 rfl 1 (by decide) qw_47 (fun _ h9 => h9) rfl dJx4a65c_grow_92f84_1 ?_
  refine va_tlen hx hb hAm.2.2.1.2 hw.2.2 (v := 0) rfl dJx4a65c_grow_92f84_4 ?_
  refine lv_istore_n (lv' := [(2, .int 0), (0, .ref a), (1, .int 1)]) hx hb dJx4a65c_grow_92f84_5 rfl hl (by decide) rfl (fun ls hl => ?_)
  refine lv_iload_n hx hb dJx4a65c_grow_92f84_6 rfl (lv_at hl 0 rfl) ?_
  refine lv_if_gt (tgt := 20) hx hb dJx4a65c_grow_92f84_7 (by decide) (fun c9 => absurd c9 (by decide)) (fun _ => ?_)
  refine lv_aload_n hx hb dJx4a65c_grow_92f84_10 rfl (lv_at hl 1 rfl) ?_
  refine tg_get (v := .ref (E.2.2 0)) hx hb hown hAm hw lyJx4a65c h1 rfl 1 (by decide) qw_47 (fun _ h9 => h9) rfl dJx4a65c_grow_92f84_11 ?_
  refine va_gets (v := .ref (E.2.2 0)) hx hb hAm.2.2.1.1 hw.2.2 hown (hAm.wd qw_45 rfl rfl) (fun _ h9 => h9) dJx4a65c_grow_92f84_14 ?_
  refine lv_acmp_eq (rx := (some (E.2.2 0))) (ry := (some (E.2.2 0))) (tgt := 45) hx hb dJx4a65c_grow_92f84_17 (by decide) (fun _ => ?_) (fun c9 => absurd rfl c9)
  refine lv_aload_n hx hb dJx4a65c_grow_92f84_45 rfl (lv_at hl 1 rfl) ?_
  refine lv_bipush (v := 10) hx hb dJx4a65c_grow_92f84_46 (by decide) ?_
  refine lv_iload_n hx hb dJx4a65c_grow_92f84_48 rfl (lv_at hl 2 rfl) ?_
  refine va_mmax hx hb (by rw [hml]; exact hl.1.symm) hown (hAm.wd qw_223 rfl rfl) (hAm.wd qw_187 rfl rfl) (hAm.wd qw_10 rfl rfl) (hAm.wd qw_188 rfl rfl) (Nat.le_of_ble_eq_true rfl) (Nat.le_of_ble_eq_true rfl) (Nat.le_of_ble_eq_true rfl) (Nat.le_of_ble_eq_true rfl) dJx4a65c_grow_92f84_49 ?_
  refine rc_topi 10 (by decide) ?_
  refine tg_qnew (t + 1) hx hb hown hAm hA hw qw_224 qw_215 10 (by decide) (by decide) (Nat.le_of_ble_eq_true rfl) (Nat.le_of_ble_eq_true rfl) (Nat.le_of_ble_eq_true rfl) dJx4a65c_grow_92f84_52 (fun q_1 G_2 H g_3 o_4 hw => ?_)
  have h1 := (o_4 _ (by omega)).trans h1
  have kq_1 : G_2 (t + 1) = some (q_1, .inl (E.2.1 2, 10, .inr (.inr (.inr (.inr (fun _ => none)))))) := g_3
  refine lv_dup_x1 hx hb dJx4a65c_grow_92f84_55 rfl rfl ?_
  refine tg_put hx hb hown hAm hw lyJx4a65c tyJx4a65c tyJx4a65c_ok nmJx4a65c h1 rfl 1 (by decide) qw_47 (fun _ h9 => h9) rfl rfl rfl (Nat.le_of_ble_eq_true rfl) dJx4a65c_grow_92f84_56 (fun G_5 H locs g_6 o_7 hw => ?_)
  have kq_1 := (o_7 _ (by omega)).trans kq_1
  have h1 : G_5 t = some (a, .inr (0, [.int mc, .ref q_1, .int (nI 0)])) := g_6
  exact tg_aret hx hb hr (by first | exact Or.inl ⟨_, rfl⟩ | exact Or.inr ⟨_, rfl⟩) hlocks hw (⟨h1, kq_1, (fun t9 h8 h9 => (o_7 t9 (by omega)).trans ((o_4 t9 (by omega))))⟩) (Nat.le_of_ble_eq_true rfl) (Nat.le_of_ble_eq_true rfl) dJx4a65c_grow_92f84_59
theorem hd_J8_newLength_cabcc : yJ8_newLength_cabcc.cls ≠ "java/lang/invoke/MethodHandle" ∧ yJ8_newLength_cabcc.cls ≠ "java/lang/invoke/VarHandle" ∧ (parseMethodDescriptor yJ8_newLength_cabcc.desc).map (fun d => d.parameters.length) = some 3 := by decide +kernel
theorem hd_J7_copyOf_1904c : yJ7_copyOf_1904c.cls ≠ "java/lang/invoke/MethodHandle" ∧ yJ7_copyOf_1904c.cls ≠ "java/lang/invoke/VarHandle" ∧ (parseMethodDescriptor yJ7_copyOf_1904c.desc).map (fun d => d.parameters.length) = some 2 := by decide +kernel
set_option maxHeartbeats 4000000 in
set_option maxRecDepth 100000 in
theorem li_growF1 (l : Launch) (E : rc_E) (sz : Nat) (G : tg_G) {t a aa n : Nat} {mc : Int32} {f : Nat → Option Nat} (hn0 : 0 < n) (hn : n ≤ 60) (ht : t + 1 < 63) {ci : Nat} {C9 : String} {T9 : u_T} {N9 : Nat} (hci : vwCl[ci]? = some (C9, T9, N9)) (hca : Cond.castable C9 "java/lang/Object" ∈ lw_tbl) (hel : ∀ i9, i9 < n → ∀ y9, f i9 = some y9 → ∃ (te : Nat) (vs : List Value), te ≠ 63 ∧ G te = some (y9, .inr (ci, vs))) (h1 : G t = some (a, .inr (0, [.int mc, .ref aa, .int (nI n)]))) (h2 : G (t + 1) = some (aa, .inl (E.2.1 2, n, .inr (.inr (.inr (.inr f)))))) : tg_M l yJx4a65c_grow_92f84 [Cond.code yJx4a65c_grow_92f84 cJx4a65c_grow_92f84 4 (some (FieldType.array (FieldType.object "java/lang/Object")))] { frames := 3, cells := 1, slots := 200, locals := 84 } E [.ref a, .int (nI (n + 1))] G sz (tg_Qr E (fun u a9 => u t = some (a, .inr (0, [.int mc, .ref a9, .int (nI n)])) ∧ (∃ f2 : Nat → Option Nat, u 63 = some (a9, .inl (E.2.1 2, n + max (n + 1 - n) (n / 2), .inr (.inr (.inr (.inr f2))))) ∧ ∀ i9, i9 < n → f2 i9 = f i9) ∧ ∀ t9, t9 ≠ t → t9 ≠ 63 → u t9 = G t9)) 1 200 := by
  refine tg_in (cc := cJx4a65c_grow_92f84) (maxL := 4) (ret := (some (FieldType.array (FieldType.object "java/lang/Object")))) (tg_Qr E (fun u a9 => u t = some (a, .inr (0, [.int mc, .ref a9, .int (nI n)])) ∧ (∃ f2 : Nat → Option Nat, u 63 = some (a9, .inl (E.2.1 2, n + max (n + 1 - n) (n / 2), .inr (.inr (.inr (.inr f2))))) ∧ ∀ i9, i9 < n → f2 i9 = f i9) ∧ ∀ t9, t9 ≠ t → t9 ≠ 63 → u t9 = G t9)) (by decide) rfl (Nat.le_of_ble_eq_true rfl) ?_
  intro p e s m args below meth cd ls A hx hb hr hml hown hlocks hin hA hAm hw hl
  have hown : s.vm.findClass RJx4a65c = some m.cls := hown
  have hl : lv_has ls 4 [(0, .ref a), (1, .int (nI (n + 1)))] := hl
  refine lv_aload_n hx hb dJx4a65c_grow_92f84_0 rfl (lv_at hl 0 rfl) ?_
  refine tg_get (v := .ref aa) hx hb hown hAm hw lyJx4a65c h1 rfl 1 (by decide) qw_47 (fun _ h9 => h9) rfl dJx4a65c_grow_92f84_1 ?_
  refine tg_alen hx hb hAm hw 2 h2 rfl (nI n) rfl dJx4a65c_grow_92f84_4 ?_
  refine lv_istore_n (lv' := [(2, .int (nI n)), (0, .ref a), (1, .int (nI (n + 1)))]) hx hb dJx4a65c_grow_92f84_5 rfl hl (by decide) rfl (fun ls hl => ?_)
  refine lv_iload_n hx hb dJx4a65c_grow_92f84_6 rfl (lv_at hl 0 rfl) ?_
  refine lv_if_gt (tgt := 20) hx hb dJx4a65c_grow_92f84_7 (by decide) (fun _ => ?_) (fun c9 => absurd ((nI_ltI (a := 0) (b := n) (by omega) (by omega)).mpr (by omega)) c9)
  refine lv_iload_n hx hb dJx4a65c_grow_92f84_20 rfl (lv_at hl 0 rfl) ?_
  refine lv_iload_n hx hb dJx4a65c_grow_92f84_21 rfl (lv_at hl 2 rfl) ?_
  refine lv_iload_n hx hb dJx4a65c_grow_92f84_22 rfl (lv_at hl 0 rfl) ?_
  refine lv_isub hx hb dJx4a65c_grow_92f84_23 ?_
  refine rc_topi (nI (n + 1 - n)) (pk_sub (a := n + 1) (b := n) (by omega)) ?_
  refine lv_iload_n hx hb dJx4a65c_grow_92f84_24 rfl (lv_at hl 0 rfl) ?_
  refine lv_iconst (v := 1) hx hb dJx4a65c_grow_92f84_25 (by decide) ?_
  refine lv_ishr hx hb dJx4a65c_grow_92f84_26 ?_
  refine rc_topi (nI (n / 2)) (pk_shrN (by omega) _ 1 (by decide)) ?_
  refine tg_callRi (va_runS (As := [.int (nI n), .int (nI (n + 1 - n)), .int (nI (n / 2))]) (rest := []) (Ts := []) ⟨hx, hb, hml, hown, fun _ h9 => absurd h9 List.not_mem_nil⟩ (li_newLength l E _ G n (n + 1 - n) (n / 2) (by omega) (by omega) (by omega)) (rc_cwS hAm qw_183 qw_9 qw_185 qw_184 rfl rfl hd_J8_newLength_cabcc ⟨Nat.le_of_ble_eq_true rfl, Nat.le_of_ble_eq_true rfl⟩) (tg_preS hAm hA hw) rfl rfl hl.1 rfl (lv_room (Nat.le_of_ble_eq_true rfl)) dJx4a65c_grow_92f84_27 ⟨Nat.le_of_ble_eq_true rfl, Nat.le_of_ble_eq_true rfl⟩) hA hw (fun H locs hw => ?_)
  refine lv_istore_n (lv' := [(3, .int (nI (n + max (n + 1 - n) (n / 2)))), (2, .int (nI n)), (0, .ref a), (1, .int (nI (n + 1)))]) hx hb dJx4a65c_grow_92f84_30 rfl hl (by decide) rfl (fun ls hl => ?_)
  refine lv_aload_n hx hb dJx4a65c_grow_92f84_31 rfl (lv_at hl 2 rfl) ?_
  refine lv_aload_n hx hb dJx4a65c_grow_92f84_32 rfl (lv_at hl 2 rfl) ?_
  refine tg_get (v := .ref aa) hx hb hown hAm hw lyJx4a65c h1 rfl 1 (by decide) qw_47 (fun _ h9 => h9) rfl dJx4a65c_grow_92f84_33 ?_
  refine lv_iload_n hx hb dJx4a65c_grow_92f84_36 rfl (lv_at hl 0 rfl) ?_
  refine tg_callr (va_runS (As := [.ref aa, .int (nI (n + max (n + 1 - n) (n / 2)))]) (rest := [.ref a]) (Ts := []) ⟨hx, hb, hml, hown, fun _ h9 => absurd h9 List.not_mem_nil⟩ (li_copyOf l E _ G (N1 := n + max (n + 1 - n) (n / 2)) (by omega) (by omega) (by omega) hci hca hel h2) (rc_cwS hAm qw_193 qw_11 qw_195 qw_194 rfl rfl hd_J7_copyOf_1904c ⟨Nat.le_of_ble_eq_true rfl, Nat.le_of_ble_eq_true rfl⟩) (tg_preS hAm hA hw) rfl rfl hl.1 rfl (lv_room (Nat.le_of_ble_eq_true rfl)) dJx4a65c_grow_92f84_37 ⟨Nat.le_of_ble_eq_true rfl, Nat.le_of_ble_eq_true rfl⟩) hA hw (fun G_1 r_2 H locs hp hw => ?_)
  obtain ⟨⟨f2, hf2, hf3⟩, hu⟩ := hp
  have h1 := (hu _ (by omega)).trans h1
  have h2 := (hu _ (by omega)).trans h2
  refine lv_dup_x1 hx hb dJx4a65c_grow_92f84_40 rfl rfl ?_
  refine tg_put hx hb hown hAm hw lyJx4a65c tyJx4a65c tyJx4a65c_ok nmJx4a65c h1 rfl 1 (by decide) qw_47 (fun _ h9 => h9) rfl rfl rfl (Nat.le_of_ble_eq_true rfl) dJx4a65c_grow_92f84_41 (fun G_3 H locs g_4 o_5 hw => ?_)
  have h2 := (o_5 _ (by omega)).trans h2
  have hf2 := (o_5 _ (by omega)).trans hf2
  have h1 : G_3 t = some (a, .inr (0, [.int mc, .ref r_2, .int (nI n)])) := g_4
  exact tg_aret hx hb hr (by first | exact Or.inl ⟨_, rfl⟩ | exact Or.inr ⟨_, rfl⟩) hlocks hw (⟨h1, ⟨f2, hf2, hf3⟩, (fun t9 h8 h9 => (o_5 t9 (by omega)).trans ((hu t9 (by omega))))⟩) (Nat.le_of_ble_eq_true rfl) (Nat.le_of_ble_eq_true rfl) dJx4a65c_grow_92f84_44
theorem hd_Jx4a65c_grow_92f84 : yJx4a65c_grow_92f84.cls ≠ "java/lang/invoke/MethodHandle" ∧ yJx4a65c_grow_92f84.cls ≠ "java/lang/invoke/VarHandle" ∧ (parseMethodDescriptor yJx4a65c_grow_92f84.desc).map (fun d => d.parameters.length) = some 1 := by decide +kernel
set_option maxHeartbeats 4000000 in
set_option maxRecDepth 100000 in
theorem li_growE (l : Launch) (E : rc_E) (sz : Nat) (G : tg_G) {t a : Nat} {mc : Int32} (h1 : G t = some (a, .inr (0, [.int mc, .ref (E.2.2 0), .int (nI 0)]))) : tg_M l yJx4a65c_grow_d5877 [Cond.code yJx4a65c_grow_d5877 cJx4a65c_grow_d5877 1 (some (FieldType.array (FieldType.object "java/lang/Object")))] { frames := 2, cells := 1, slots := 10, locals := 37 } E [.ref a] G sz (tg_Qr E (fun u a9 => u t = some (a, .inr (0, [.int mc, .ref a9, .int (nI 0)])) ∧ u (t + 1) = some (a9, .inl (E.2.1 2, 10, .inr (.inr (.inr (.inr (fun _ => none)))))) ∧ ∀ t9, t9 ≠ t → t9 ≠ t + 1 → u t9 = G t9)) 1 10 := by
  refine tg_in (cc := cJx4a65c_grow_d5877) (maxL := 1) (ret := (some (FieldType.array (FieldType.object "java/lang/Object")))) (tg_Qr E (fun u a9 => u t = some (a, .inr (0, [.int mc, .ref a9, .int (nI 0)])) ∧ u (t + 1) = some (a9, .inl (E.2.1 2, 10, .inr (.inr (.inr (.inr (fun _ => none)))))) ∧ ∀ t9, t9 ≠ t → t9 ≠ t + 1 → u t9 = G t9)) (by decide) rfl (Nat.le_of_ble_eq_true rfl) ?_
  intro p e s m args below meth cd ls A hx hb hr hml hown hlocks hin hA hAm hw hl
  have hown : s.vm.findClass RJx4a65c = some m.cls := hown
  have hl : lv_has ls 1 [(0, .ref a)] := hl
  refine lv_aload_n hx hb dJx4a65c_grow_d5877_0 rfl (lv_at hl 0 rfl) ?_
  refine lv_aload_n hx hb dJx4a65c_grow_d5877_1 rfl (lv_at hl 0 rfl) ?_
  refine tg_get (v := .int (nI 0)) hx hb hown hAm hw lyJx4a65c h1 rfl 2 (by decide) qw_48 (fun _ h9 => h9) rfl dJx4a65c_grow_d5877_2 ?_
  refine lv_iconst (v := 1) hx hb dJx4a65c_grow_d5877_5 (by decide) ?_
  refine lv_iadd hx hb dJx4a65c_grow_d5877_6 ?_
  refine rc_topi (nI (0 + 1)) (nI_add 0 1) ?_
  refine rc_topi 1 rfl ?_
  refine tg_callr (va_runV (As := [.int 1]) (rest := []) (Ts := []) ⟨hx, hb, hml, hown, fun _ h9 => absurd h9 List.not_mem_nil⟩ (li_growE1 l E _ G h1) (rc_cwV hAm qw_179 qw_4 qw_182 qw_181 qs_2 rfl rfl hd_Jx4a65c_grow_92f84 ⟨Nat.le_of_ble_eq_true rfl, Nat.le_of_ble_eq_true rfl⟩) (tg_preV hAm hA hw h1 (q := vwCl[0]) rfl) rfl rfl hl.1 rfl (lv_room (Nat.le_of_ble_eq_true rfl)) dJx4a65c_grow_d5877_7 ⟨Nat.le_of_ble_eq_true rfl, Nat.le_of_ble_eq_true rfl⟩) hA hw (fun G_1 r_2 H locs hp hw => ?_)
  obtain ⟨h1, h2, hu⟩ := hp
  exact tg_aret hx hb hr (by first | exact Or.inl ⟨_, rfl⟩ | exact Or.inr ⟨_, rfl⟩) hlocks hw (⟨h1, h2, hu⟩) (Nat.le_of_ble_eq_true rfl) (Nat.le_of_ble_eq_true rfl) dJx4a65c_grow_d5877_10
set_option maxHeartbeats 4000000 in
set_option maxRecDepth 100000 in
theorem li_growF (l : Launch) (E : rc_E) (sz : Nat) (G : tg_G) {t a aa n : Nat} {mc : Int32} {f : Nat → Option Nat} (hn0 : 0 < n) (hn : n ≤ 60) (ht : t + 1 < 63) {ci : Nat} {C9 : String} {T9 : u_T} {N9 : Nat} (hci : vwCl[ci]? = some (C9, T9, N9)) (hca : Cond.castable C9 "java/lang/Object" ∈ lw_tbl) (hel : ∀ i9, i9 < n → ∀ y9, f i9 = some y9 → ∃ (te : Nat) (vs : List Value), te ≠ 63 ∧ G te = some (y9, .inr (ci, vs))) (h1 : G t = some (a, .inr (0, [.int mc, .ref aa, .int (nI n)]))) (h2 : G (t + 1) = some (aa, .inl (E.2.1 2, n, .inr (.inr (.inr (.inr f)))))) : tg_M l yJx4a65c_grow_d5877 [Cond.code yJx4a65c_grow_d5877 cJx4a65c_grow_d5877 1 (some (FieldType.array (FieldType.object "java/lang/Object")))] { frames := 4, cells := 1, slots := 200, locals := 107 } E [.ref a] G sz (tg_Qr E (fun u a9 => u t = some (a, .inr (0, [.int mc, .ref a9, .int (nI n)])) ∧ (∃ f2 : Nat → Option Nat, u 63 = some (a9, .inl (E.2.1 2, n + max (n + 1 - n) (n / 2), .inr (.inr (.inr (.inr f2))))) ∧ ∀ i9, i9 < n → f2 i9 = f i9) ∧ ∀ t9, t9 ≠ t → t9 ≠ 63 → u t9 = G t9)) 1 200 := by
  refine tg_in (cc := cJx4a65c_grow_d5877) (maxL := 1) (ret := (some (FieldType.array (FieldType.object "java/lang/Object")))) (tg_Qr E (fun u a9 => u t = some (a, .inr (0, [.int mc, .ref a9, .int (nI n)])) ∧ (∃ f2 : Nat → Option Nat, u 63 = some (a9, .inl (E.2.1 2, n + max (n + 1 - n) (n / 2), .inr (.inr (.inr (.inr f2))))) ∧ ∀ i9, i9 < n → f2 i9 = f i9) ∧ ∀ t9, t9 ≠ t → t9 ≠ 63 → u t9 = G t9)) (by decide) rfl (Nat.le_of_ble_eq_true rfl) ?_
  intro p e s m args below meth cd ls A hx hb hr hml hown hlocks hin hA hAm hw hl
  have hown : s.vm.findClass RJx4a65c = some m.cls := hown
  have hl : lv_has ls 1 [(0, .ref a)] := hl
  refine lv_aload_n hx hb dJx4a65c_grow_d5877_0 rfl (lv_at hl 0 rfl) ?_
  refine lv_aload_n hx hb dJx4a65c_grow_d5877_1 rfl (lv_at hl 0 rfl) ?_
  refine tg_get (v := .int (nI n)) hx hb hown hAm hw lyJx4a65c h1 rfl 2 (by decide) qw_48 (fun _ h9 => h9) rfl dJx4a65c_grow_d5877_2 ?_
  refine lv_iconst (v := 1) hx hb dJx4a65c_grow_d5877_5 (by decide) ?_
  refine lv_iadd hx hb dJx4a65c_grow_d5877_6 ?_
  refine rc_topi (nI (n + 1)) (nI_add n 1) ?_
  refine tg_callr (va_runV (As := [.int (nI (n + 1))]) (rest := []) (Ts := []) ⟨hx, hb, hml, hown, fun _ h9 => absurd h9 List.not_mem_nil⟩ (li_growF1 l E _ G hn0 hn ht hci hca hel h1 h2) (rc_cwV hAm qw_179 qw_4 qw_182 qw_181 qs_2 rfl rfl hd_Jx4a65c_grow_92f84 ⟨Nat.le_of_ble_eq_true rfl, Nat.le_of_ble_eq_true rfl⟩) (tg_preV hAm hA hw h1 (q := vwCl[0]) rfl) rfl rfl hl.1 rfl (lv_room (Nat.le_of_ble_eq_true rfl)) dJx4a65c_grow_d5877_7 ⟨Nat.le_of_ble_eq_true rfl, Nat.le_of_ble_eq_true rfl⟩) hA hw (fun G_1 r_2 H locs hp hw => ?_)
  obtain ⟨h1, ⟨f2, hf2, hf3⟩, hu⟩ := hp
  have h2 := (hu _ (by omega) (by omega)).trans h2
  exact tg_aret hx hb hr (by first | exact Or.inl ⟨_, rfl⟩ | exact Or.inr ⟨_, rfl⟩) hlocks hw (⟨h1, ⟨f2, hf2, hf3⟩, hu⟩) (Nat.le_of_ble_eq_true rfl) (Nat.le_of_ble_eq_true rfl) dJx4a65c_grow_d5877_10
theorem hd_Jx4a65c_grow_d5877 : yJx4a65c_grow_d5877.cls ≠ "java/lang/invoke/MethodHandle" ∧ yJx4a65c_grow_d5877.cls ≠ "java/lang/invoke/VarHandle" ∧ (parseMethodDescriptor yJx4a65c_grow_d5877.desc).map (fun d => d.parameters.length) = some 0 := by decide +kernel
set_option maxHeartbeats 4000000 in
set_option maxRecDepth 100000 in
theorem li_add3 (l : Launch) (E : rc_E) (sz : Nat) (G : tg_G) {t te a aa ea n e1 : Nat} {mc e0 e2 e3 e4 : Int32} {el : Nat → Nat} (hcase : (n = 0 ∧ aa = E.2.2 0) ∨ ∃ (cap : Nat) (f : Nat → Option Nat), G (t + 1) = some (aa, .inl (E.2.1 2, cap, .inr (.inr (.inr (.inr f))))) ∧ (n ≤ cap ∧ 0 < cap) ∧ cap ≤ 200 ∧ ∀ i9, i9 < n → f i9 = some (el i9)) (helm : ∀ i9, i9 < n → ∃ (te : Nat) (vs : List Value), te ≠ 63 ∧ G te = some (el i9, .inr (5, vs))) (hn : n < 60) (ht : t + 1 < 63) (h1 : G t = some (a, .inr (0, [.int mc, .ref aa, .int (nI n)]))) (he : G te = some (ea, .inr (5, [.int e0, .ref e1, .int e2, .int e3, .int e4]))) (hte : te ≠ t ∧ te ≠ t + 1 ∧ te ≠ 63) : tg_M l yJx4a65c_add_72be8 [Cond.code yJx4a65c_add_72be8 cJx4a65c_add_72be8 4 (none : Option FieldType)] { frames := 5, cells := 1, slots := 200, locals := 127 } E [.ref a, .ref ea, .ref aa, .int (nI n)] G sz (tg_Qv E (fun u => ltH E u t a (n + 1) (fun i9 => if i9 = n then ea else el i9) ∧ ∀ t9, t9 ≠ t → t9 ≠ t + 1 → t9 ≠ 63 → u t9 = G t9)) 1 200 := by
  refine tg_in (cc := cJx4a65c_add_72be8) (maxL := 4) (ret := (none : Option FieldType)) (tg_Qv E (fun u => ltH E u t a (n + 1) (fun i9 => if i9 = n then ea else el i9) ∧ ∀ t9, t9 ≠ t → t9 ≠ t + 1 → t9 ≠ 63 → u t9 = G t9)) (by decide) rfl (Nat.le_of_ble_eq_true rfl) ?_
  intro p e s m args below meth cd ls A hx hb hr hml hown hlocks hin hA hAm hw hl
  have hown : s.vm.findClass RJx4a65c = some m.cls := hown
  have hl : lv_has ls 4 [(0, .ref a), (1, .ref ea), (2, .ref aa), (3, .int (nI n))] := hl
  obtain ⟨hte1, hte2, hte3⟩ := hte
  rcases hcase with ⟨z0, z1⟩ | ⟨cap, f, h2, hcap, hcap2, hf⟩
  · subst z0
    subst z1
    refine lv_iload_n hx hb dJx4a65c_add_72be8_0 rfl (lv_at hl 3 rfl) ?_
    refine lv_aload_n hx hb dJx4a65c_add_72be8_1 rfl (lv_at hl 2 rfl) ?_
    refine va_tlen hx hb hAm.2.2.1.2 hw.2.2 (v := 0) rfl dJx4a65c_add_72be8_2 ?_
    refine lv_icmp_ne (tgt := 11) hx hb dJx4a65c_add_72be8_3 (by decide) (fun c9 => absurd ((nI_eq (a := 0) (b := 0) (by omega) (by omega)).mpr (by omega)) c9) (fun _ => ?_)
    refine lv_aload_n hx hb dJx4a65c_add_72be8_6 rfl (lv_at hl 0 rfl) ?_
    refine tg_callr (va_runV (As := []) (rest := []) (Ts := []) ⟨hx, hb, hml, hown, fun _ h9 => absurd h9 List.not_mem_nil⟩ (li_growE l E _ G h1) (rc_cwV hAm qw_175 qw_4 qw_178 qw_177 qs_1 rfl rfl hd_Jx4a65c_grow_d5877 ⟨Nat.le_of_ble_eq_true rfl, Nat.le_of_ble_eq_true rfl⟩) (tg_preV hAm hA hw h1 (q := vwCl[0]) rfl) rfl rfl hl.1 rfl (lv_room (Nat.le_of_ble_eq_true rfl)) dJx4a65c_add_72be8_7 ⟨Nat.le_of_ble_eq_true rfl, Nat.le_of_ble_eq_true rfl⟩) hA hw (fun G_1 r_2 H locs hp hw => ?_)
    obtain ⟨h1, h2, hu⟩ := hp
    have he := (hu _ (by omega) (by omega)).trans he
    refine lv_astore_n (lv' := [(2, .ref r_2), (0, .ref a), (1, .ref ea), (3, .int (nI 0))]) hx hb dJx4a65c_add_72be8_10 rfl hl (by decide) rfl (fun ls hl => ?_)
    refine lv_aload_n hx hb dJx4a65c_add_72be8_11 rfl (lv_at hl 0 rfl) ?_
    refine lv_iload_n hx hb dJx4a65c_add_72be8_12 rfl (lv_at hl 3 rfl) ?_
    refine lv_aload_n hx hb dJx4a65c_add_72be8_13 rfl (lv_at hl 2 rfl) ?_
    refine tg_qast (C := RX4) hx hb hAm hw h2 he rfl qw_808 (vp_in_nI (n := 0) (N := 10) (by omega) (by omega)) dJx4a65c_add_72be8_14 (fun G_3 H locs g_4 o_5 hw => ?_)
    rw [nI_clamp (by omega)] at g_4
    have h1 := (o_5 _ (by omega)).trans h1
    have he := (o_5 _ (by omega)).trans he
    have h2 : G_3 (t + 1) = some (r_2, .inl (E.2.1 2, 10, .inr (.inr (.inr (.inr (va_up (fun _ => none) 0 (some ea))))))) := g_4
    refine lv_aload_n hx hb dJx4a65c_add_72be8_15 rfl (lv_at hl 1 rfl) ?_
    refine lv_iload_n hx hb dJx4a65c_add_72be8_16 rfl (lv_at hl 3 rfl) ?_
    refine lv_iconst (v := 1) hx hb dJx4a65c_add_72be8_17 (by decide) ?_
    refine lv_iadd hx hb dJx4a65c_add_72be8_18 ?_
    refine rc_topi (nI (0 + 1)) (nI_add 0 1) ?_
    refine tg_put hx hb hown hAm hw lyJx4a65c tyJx4a65c tyJx4a65c_ok nmJx4a65c h1 rfl 2 (by decide) qw_48 (fun _ h9 => h9) rfl rfl rfl (Nat.le_of_ble_eq_true rfl) dJx4a65c_add_72be8_19 (fun G_6 H locs g_7 o_8 hw => ?_)
    have he := (o_8 _ (by omega)).trans he
    have h2 := (o_8 _ (by omega)).trans h2
    have h1 : G_6 t = some (a, .inr (0, [.int mc, .ref r_2, .int (nI (0 + 1))])) := g_7
    exact tg_vret hx hb hr hlocks hw (⟨⟨mc, _, h1, Or.inr ⟨10, _, h2, by omega, by omega, fun i9 h9 => by obtain rfl : i9 = 0 := (by omega); rfl⟩⟩, (fun t9 h7 h8 h9 => (o_8 t9 (by omega)).trans ((o_5 t9 (by omega)).trans ((hu t9 h7 h8))))⟩) (Nat.le_of_ble_eq_true rfl) (Nat.le_of_ble_eq_true rfl) dJx4a65c_add_72be8_22
  · by_cases hz : n = cap
    · subst hz
      refine lv_iload_n hx hb dJx4a65c_add_72be8_0 rfl (lv_at hl 3 rfl) ?_
      refine lv_aload_n hx hb dJx4a65c_add_72be8_1 rfl (lv_at hl 2 rfl) ?_
      refine tg_alen hx hb hAm hw 2 h2 rfl (nI n) rfl dJx4a65c_add_72be8_2 ?_
      refine lv_icmp_ne (tgt := 11) hx hb dJx4a65c_add_72be8_3 (by decide) (fun c9 => absurd ((nI_eq (a := n) (b := n) (by omega) (by omega)).mpr (by omega)) c9) (fun _ => ?_)
      refine lv_aload_n hx hb dJx4a65c_add_72be8_6 rfl (lv_at hl 0 rfl) ?_
      refine tg_callr (va_runV (As := []) (rest := []) (Ts := []) ⟨hx, hb, hml, hown, fun _ h9 => absurd h9 List.not_mem_nil⟩ (li_growF l E _ G (by omega) (by omega) ht (ci := 5) rfl qw_808 (fun i9 h9 y9 z9 => by obtain ⟨t8, vs, e0, e1⟩ := helm i9 h9; exact ⟨t8, vs, e0, by rw [← Option.some.inj ((hf i9 h9).symm.trans z9)]; exact e1⟩) h1 h2) (rc_cwV hAm qw_175 qw_4 qw_178 qw_177 qs_1 rfl rfl hd_Jx4a65c_grow_d5877 ⟨Nat.le_of_ble_eq_true rfl, Nat.le_of_ble_eq_true rfl⟩) (tg_preV hAm hA hw h1 (q := vwCl[0]) rfl) rfl rfl hl.1 rfl (lv_room (Nat.le_of_ble_eq_true rfl)) dJx4a65c_add_72be8_7 ⟨Nat.le_of_ble_eq_true rfl, Nat.le_of_ble_eq_true rfl⟩) hA hw (fun G_9 r_10 H locs hp hw => ?_)
      obtain ⟨h1, ⟨f2, hf2, hf3⟩, hu⟩ := hp
      have he := (hu _ (by omega) (by omega)).trans he
      have h2 := (hu _ (by omega) (by omega)).trans h2
      refine lv_astore_n (lv' := [(2, .ref r_10), (0, .ref a), (1, .ref ea), (3, .int (nI n))]) hx hb dJx4a65c_add_72be8_10 rfl hl (by decide) rfl (fun ls hl => ?_)
      obtain ⟨Gm, hw, hm1, hm2⟩ := tg_move hw (t1 := t + 1) (t2 := 63) (by omega) hf2
      have h1 := (hm2 _ (by omega) (by omega)).trans h1
      have he := (hm2 _ (by omega) (by omega)).trans he
      refine lv_aload_n hx hb dJx4a65c_add_72be8_11 rfl (lv_at hl 0 rfl) ?_
      refine lv_iload_n hx hb dJx4a65c_add_72be8_12 rfl (lv_at hl 3 rfl) ?_
      refine lv_aload_n hx hb dJx4a65c_add_72be8_13 rfl (lv_at hl 2 rfl) ?_
      refine tg_qast (C := RX4) hx hb hAm hw hm1 he rfl qw_808 (vp_in_nI (n := n) (N := n + max (n + 1 - n) (n / 2)) (by omega) (by omega)) dJx4a65c_add_72be8_14 (fun G_11 H locs g_12 o_13 hw => ?_)
      rw [nI_clamp (by omega)] at g_12
      have h1 := (o_13 _ (by omega)).trans h1
      have he := (o_13 _ (by omega)).trans he
      have hm1 : G_11 (t + 1) = some (r_10, .inl (E.2.1 2, n + max (n + 1 - n) (n / 2), .inr (.inr (.inr (.inr (va_up f2 n (some ea))))))) := g_12
      refine lv_aload_n hx hb dJx4a65c_add_72be8_15 rfl (lv_at hl 1 rfl) ?_
      refine lv_iload_n hx hb dJx4a65c_add_72be8_16 rfl (lv_at hl 3 rfl) ?_
      refine lv_iconst (v := 1) hx hb dJx4a65c_add_72be8_17 (by decide) ?_
      refine lv_iadd hx hb dJx4a65c_add_72be8_18 ?_
      refine rc_topi (nI (n + 1)) (nI_add n 1) ?_
      refine tg_put hx hb hown hAm hw lyJx4a65c tyJx4a65c tyJx4a65c_ok nmJx4a65c h1 rfl 2 (by decide) qw_48 (fun _ h9 => h9) rfl rfl rfl (Nat.le_of_ble_eq_true rfl) dJx4a65c_add_72be8_19 (fun G_14 H locs g_15 o_16 hw => ?_)
      have he := (o_16 _ (by omega)).trans he
      have hm1 := (o_16 _ (by omega)).trans hm1
      have h1 : G_14 t = some (a, .inr (0, [.int mc, .ref r_10, .int (nI (n + 1))])) := g_15
      exact tg_vret hx hb hr hlocks hw (⟨⟨mc, _, h1, Or.inr ⟨_, _, hm1, by omega, by omega, fun i9 h9 => (by by_cases e9 : i9 = n; (rw [e9, va_up_self]; exact (congrArg some (if_pos rfl)).symm); (rw [va_up_ne _ _ e9]; exact ((hf3 i9 (by omega)).trans (hf i9 (by omega))).trans (congrArg some (if_neg e9).symm)))⟩⟩, (fun t9 h7 h8 h9 => (o_16 t9 (by omega)).trans ((o_13 t9 (by omega)).trans ((hm2 t9 h8 h9).trans ((hu t9 h7 h9)))))⟩) (Nat.le_of_ble_eq_true rfl) (Nat.le_of_ble_eq_true rfl) dJx4a65c_add_72be8_22
    · have hz2 : n < cap := by omega
      refine lv_iload_n hx hb dJx4a65c_add_72be8_0 rfl (lv_at hl 3 rfl) ?_
      refine lv_aload_n hx hb dJx4a65c_add_72be8_1 rfl (lv_at hl 2 rfl) ?_
      refine tg_alen hx hb hAm hw 2 h2 rfl (nI cap) rfl dJx4a65c_add_72be8_2 ?_
      refine lv_icmp_ne (tgt := 11) hx hb dJx4a65c_add_72be8_3 (by decide) (fun _ => ?_) (fun c9 => absurd c9 (fun z9 => absurd ((nI_eq (a := n) (b := cap) (by omega) (by omega)).mp z9) (by omega)))
      refine lv_aload_n hx hb dJx4a65c_add_72be8_11 rfl (lv_at hl 2 rfl) ?_
      refine lv_iload_n hx hb dJx4a65c_add_72be8_12 rfl (lv_at hl 3 rfl) ?_
      refine lv_aload_n hx hb dJx4a65c_add_72be8_13 rfl (lv_at hl 1 rfl) ?_
      refine tg_qast (C := RX4) hx hb hAm hw h2 he rfl qw_808 (vp_in_nI (n := n) (N := cap) (by omega) (by omega)) dJx4a65c_add_72be8_14 (fun G_17 H locs g_18 o_19 hw => ?_)
      rw [nI_clamp (by omega)] at g_18
      have h1 := (o_19 _ (by omega)).trans h1
      have he := (o_19 _ (by omega)).trans he
      have h2 : G_17 (t + 1) = some (aa, .inl (E.2.1 2, cap, .inr (.inr (.inr (.inr (va_up f n (some ea))))))) := g_18
      refine lv_aload_n hx hb dJx4a65c_add_72be8_15 rfl (lv_at hl 0 rfl) ?_
      refine lv_iload_n hx hb dJx4a65c_add_72be8_16 rfl (lv_at hl 3 rfl) ?_
      refine lv_iconst (v := 1) hx hb dJx4a65c_add_72be8_17 (by decide) ?_
      refine lv_iadd hx hb dJx4a65c_add_72be8_18 ?_
      refine rc_topi (nI (n + 1)) (nI_add n 1) ?_
      refine tg_put hx hb hown hAm hw lyJx4a65c tyJx4a65c tyJx4a65c_ok nmJx4a65c h1 rfl 2 (by decide) qw_48 (fun _ h9 => h9) rfl rfl rfl (Nat.le_of_ble_eq_true rfl) dJx4a65c_add_72be8_19 (fun G_20 H locs g_21 o_22 hw => ?_)
      have he := (o_22 _ (by omega)).trans he
      have h2 := (o_22 _ (by omega)).trans h2
      have h1 : G_20 t = some (a, .inr (0, [.int mc, .ref aa, .int (nI (n + 1))])) := g_21
      exact tg_vret hx hb hr hlocks hw (⟨⟨mc, _, h1, Or.inr ⟨_, _, h2, by omega, by omega, fun i9 h9 => (by by_cases e9 : i9 = n; (rw [e9, va_up_self]; exact (congrArg some (if_pos rfl)).symm); (rw [va_up_ne _ _ e9]; exact (hf i9 (by omega)).trans (congrArg some (if_neg e9).symm)))⟩⟩, (fun t9 h7 h8 h9 => (o_22 t9 (by omega)).trans ((o_19 t9 (by omega))))⟩) (Nat.le_of_ble_eq_true rfl) (Nat.le_of_ble_eq_true rfl) dJx4a65c_add_72be8_22
