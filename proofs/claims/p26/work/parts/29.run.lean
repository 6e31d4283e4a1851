theorem hd_Jx4a65c_add_72be8 : yJx4a65c_add_72be8.cls ≠ "java/lang/invoke/MethodHandle" ∧ yJx4a65c_add_72be8.cls ≠ "java/lang/invoke/VarHandle" ∧ (parseMethodDescriptor yJx4a65c_add_72be8.desc).map (fun d => d.parameters.length) = some 3 := by decide +kernel
set_option maxHeartbeats 4000000 in
set_option maxRecDepth 100000 in
theorem li_add (l : Launch) (E : rc_E) (sz : Nat) (G : tg_G) {t te a ea n e1 : Nat} {e0 e2 e3 e4 : Int32} {el : Nat → Nat} (hL : ltH E G t a n el) (helm : ∀ i9, i9 < n → ∃ (te9 : Nat) (vs : List Value), te9 ≠ 63 ∧ te9 ≠ t ∧ G te9 = some (el i9, .inr (5, vs))) (hn : n < 60) (ht : t + 1 < 63) (he : G te = some (ea, .inr (5, [.int e0, .ref e1, .int e2, .int e3, .int e4]))) (hte : te ≠ t ∧ te ≠ t + 1 ∧ te ≠ 63) : tg_M l yJx4a65c_add_9ea2d [Cond.code yJx4a65c_add_9ea2d cJx4a65c_add_9ea2d 2 (some FieldType.boolean)] { frames := 6, cells := 1, slots := 200, locals := 150 } E [.ref a, .ref ea] G sz (tg_Qi E (fun r u => ltH E u t a (n + 1) (fun i9 => if i9 = n then ea else el i9) ∧ ∀ t9, t9 ≠ t → t9 ≠ t + 1 → t9 ≠ 63 → u t9 = G t9)) 1 200 := by
  refine tg_in (cc := cJx4a65c_add_9ea2d) (maxL := 2) (ret := (some FieldType.boolean)) (tg_Qi E (fun r u => ltH E u t a (n + 1) (fun i9 => if i9 = n then ea else el i9) ∧ ∀ t9, t9 ≠ t → t9 ≠ t + 1 → t9 ≠ 63 → u t9 = G t9)) (by decide) rfl (Nat.le_of_ble_eq_true rfl) ?_
  intro p e s m args below meth cd ls A hx hb hr hml hown hlocks hin hA hAm hw hl
  have hown : s.vm.findClass RJx4a65c = some m.cls := hown
  have hl : lv_has ls 2 [(0, .ref a), (1, .ref ea)] := hl
  obtain ⟨mc, aa, h1, hcase⟩ := hL
  obtain ⟨hte1, hte2, hte3⟩ := id hte
  refine lv_aload_n hx hb dJx4a65c_add_9ea2d_0 rfl (lv_at hl 0 rfl) ?_
  refine lv_dup hx hb dJx4a65c_add_9ea2d_1 rfl ?_
  refine tg_get (v := .int mc) hx hb hown hAm hw lyJx4a65c h1 rfl 0 (by decide) qw_50 (fun x9 h9 => u_same (hAm.wd (a := args) qw_51 rfl rfl) x9 h9) rfl dJx4a65c_add_9ea2d_2 ?_
  refine lv_iconst (v := 1) hx hb dJx4a65c_add_9ea2d_5 (by decide) ?_
  refine lv_iadd hx hb dJx4a65c_add_9ea2d_6 ?_
  refine tg_put hx hb hown hAm hw lyJx4a65c tyJx4a65c tyJx4a65c_ok nmJx4a65c h1 rfl 0 (by decide) qw_50 (fun x9 h9 => u_same (hAm.wd (a := args) qw_51 rfl rfl) x9 h9) rfl rfl rfl (Nat.le_of_ble_eq_true rfl) dJx4a65c_add_9ea2d_7 (fun G_1 H locs g_2 o_3 hw => ?_)
  have he := (o_3 _ (by omega)).trans he
  have h1 : G_1 t = some (a, .inr (0, [.int (mc + 1), .ref aa, .int (nI n)])) := g_2
  have hcase : (n = 0 ∧ aa = E.2.2 0) ∨ ∃ (cap : Nat) (f : Nat → Option Nat), G_1 (t + 1) = some (aa, .inl (E.2.1 2, cap, .inr (.inr (.inr (.inr f))))) ∧ (n ≤ cap ∧ 0 < cap) ∧ cap ≤ 200 ∧ ∀ i9, i9 < n → f i9 = some (el i9) := hcase.imp id (fun ⟨cap, f, k1, k2⟩ => ⟨cap, f, (o_3 _ (by omega)).trans k1, k2⟩)
  have helm : ∀ i9, i9 < n → ∃ (te : Nat) (vs : List Value), te ≠ 63 ∧ G_1 te = some (el i9, .inr (5, vs)) := fun i9 h9 => by obtain ⟨te9, vs, k1, k2, k3⟩ := helm i9 h9; exact ⟨te9, vs, k1, (o_3 te9 k2).trans k3⟩
  refine lv_aload_n hx hb dJx4a65c_add_9ea2d_10 rfl (lv_at hl 0 rfl) ?_
  refine lv_aload_n hx hb dJx4a65c_add_9ea2d_11 rfl (lv_at hl 1 rfl) ?_
  refine lv_aload_n hx hb dJx4a65c_add_9ea2d_12 rfl (lv_at hl 0 rfl) ?_
  refine tg_get (v := .ref aa) hx hb hown hAm hw lyJx4a65c h1 rfl 1 (by decide) qw_47 (fun _ h9 => h9) rfl dJx4a65c_add_9ea2d_13 ?_
  refine lv_aload_n hx hb dJx4a65c_add_9ea2d_16 rfl (lv_at hl 0 rfl) ?_
  refine tg_get (v := .int (nI n)) hx hb hown hAm hw lyJx4a65c h1 rfl 2 (by decide) qw_48 (fun _ h9 => h9) rfl dJx4a65c_add_9ea2d_17 ?_
  refine tg_callv (va_runV (As := [.ref ea, .ref aa, .int (nI n)]) (rest := []) (Ts := []) ⟨hx, hb, hml, hown, fun _ h9 => absurd h9 List.not_mem_nil⟩ (li_add3 l E _ G_1 hcase helm hn ht h1 he ⟨hte1, hte2, hte3⟩) (rc_cwV hAm qw_171 qw_4 qw_174 qw_173 qs_0 rfl rfl hd_Jx4a65c_add_72be8 ⟨Nat.le_of_ble_eq_true rfl, Nat.le_of_ble_eq_true rfl⟩) (tg_preV hAm hA hw h1 (q := vwCl[0]) rfl) rfl rfl hl.1 rfl (lv_room (Nat.le_of_ble_eq_true rfl)) dJx4a65c_add_9ea2d_20 ⟨Nat.le_of_ble_eq_true rfl, Nat.le_of_ble_eq_true rfl⟩) hA hw (fun G_4 H locs hp hw => ?_)
  obtain ⟨hL2, hu⟩ := hp
  refine lv_iconst (v := 1) hx hb dJx4a65c_add_9ea2d_23 (by decide) ?_
  exact tg_zret hx hb hr hlocks hw rfl (⟨hL2, fun t9 h7 h8 h9 => (hu t9 h7 h8 h9).trans (o_3 t9 h7)⟩) (Nat.le_of_ble_eq_true rfl) (Nat.le_of_ble_eq_true rfl) dJx4a65c_add_9ea2d_24
theorem hd_X3_worthOf : yX3_worthOf.cls ≠ "java/lang/invoke/MethodHandle" ∧ yX3_worthOf.cls ≠ "java/lang/invoke/VarHandle" ∧ (parseMethodDescriptor yX3_worthOf.desc).map (fun d => d.parameters.length) = some 1 := by decide +kernel
set_option maxHeartbeats 4000000 in
set_option maxRecDepth 100000 in
theorem lf_runInit (l : Launch) (E : rc_E) (sz : Nat) (G : tg_G) {t tm a ma sc ti : Nat} {m0 m1 m3 m4 m5 m6 m7 : Int32} (cc : Int32) (hne : t ≠ tm) (h0 : 0 < sc) (hs : sc < 2 ^ 31) (ht : ti < 20000) (h1 : G t = some (a, .inr (5, [.int 0, .null, .int 0, .int 0, .int 0]))) (h2 : G tm = some (ma, .inr (4, [.int m0, .int m1, .int (nI sc), .int m3, .int m4, .int m5, .int m6, .int m7]))) : tg_M l yX4_init [Cond.code yX4_init cX4_init 4 (none : Option FieldType)] { frames := 1, cells := 0, slots := 0, locals := 21 } E [.ref a, .int cc, .ref ma, .int (nI ti)] G sz (tg_Qv E (fun u => u t = some (a, .inr (5, [.int cc, .ref ma, .int (nI ti), .int (nI (ti * 100 / sc)), .int 0])) ∧ ∀ t9, t9 ≠ t → u t9 = G t9)) 0 0 := by
  refine tg_in (cc := cX4_init) (maxL := 4) (ret := (none : Option FieldType)) (tg_Qv E (fun u => u t = some (a, .inr (5, [.int cc, .ref ma, .int (nI ti), .int (nI (ti * 100 / sc)), .int 0])) ∧ ∀ t9, t9 ≠ t → u t9 = G t9)) (by decide) rfl (Nat.le_of_ble_eq_true rfl) ?_
  intro p e s m args below meth cd ls A hx hb hr hml hown hlocks hin hA hAm hw hl
  have hown : s.vm.findClass RX4 = some m.cls := hown
  have hl : lv_has ls 4 [(0, .ref a), (1, .int cc), (2, .ref ma), (3, .int (nI ti))] := hl
  refine lv_aload_n hx hb dX4_init_0 rfl (lv_at hl 0 rfl) ?_
  refine rc_obj hx hb hown hAm qw_729 qw_31 qw_32 (by rw [hml]; exact hl.1) (Nat.le_of_ble_eq_true rfl) (Nat.le_of_ble_eq_true rfl) dX4_init_1 ?_
  refine lv_aload_n hx hb dX4_init_4 rfl (lv_at hl 0 rfl) ?_
  refine lv_iconst (v := 0) hx hb dX4_init_5 (by decide) ?_
  refine tg_put hx hb hown hAm hw lyX4 tyX4 tyX4_ok nmX4 h1 rfl 4 (by decide) qw_744 (fun _ h9 => h9) rfl (by decide +kernel) (by decide +kernel) (Nat.le_of_ble_eq_true rfl) dX4_init_6 (fun G_1 H locs g_2 o_3 hw => ?_)
  have h2 := (o_3 _ (by omega)).trans h2
  have h1 : G_1 t = some (a, .inr (5, [.int 0, .null, .int 0, .int 0, .int 0])) := g_2
  refine lv_aload_n hx hb dX4_init_9 rfl (lv_at hl 0 rfl) ?_
  refine lv_iload_n hx hb dX4_init_10 rfl (lv_at hl 1 rfl) ?_
  refine tg_putF hx hb hown hAm hw lyX4 tyX4 tyX4_ok nmX4 h1 rfl 0 (by decide) qw_734 (fun _ h9 => h9) rfl hin rfl rfl rfl (Nat.le_of_ble_eq_true rfl) dX4_init_11 (fun G_4 H locs g_5 o_6 hw => ?_)
  have h2 := (o_6 _ (by omega)).trans h2
  have h1 : G_4 t = some (a, .inr (5, [.int cc, .null, .int 0, .int 0, .int 0])) := g_5
  refine lv_aload_n hx hb dX4_init_14 rfl (lv_at hl 0 rfl) ?_
  refine lv_aload_n hx hb dX4_init_15 rfl (lv_at hl 2 rfl) ?_
  refine tg_putF hx hb hown hAm hw lyX4 tyX4 tyX4_ok nmX4 h1 rfl 1 (by decide) qw_736 (fun _ h9 => h9) rfl hin rfl rfl rfl (Nat.le_of_ble_eq_true rfl) dX4_init_16 (fun G_7 H locs g_8 o_9 hw => ?_)
  have h2 := (o_9 _ (by omega)).trans h2
  have h1 : G_7 t = some (a, .inr (5, [.int cc, .ref ma, .int 0, .int 0, .int 0])) := g_8
  refine lv_aload_n hx hb dX4_init_19 rfl (lv_at hl 0 rfl) ?_
  refine lv_iload_n hx hb dX4_init_20 rfl (lv_at hl 3 rfl) ?_
  refine tg_putF hx hb hown hAm hw lyX4 tyX4 tyX4_ok nmX4 h1 rfl 2 (by decide) qw_739 (fun _ h9 => h9) rfl hin rfl rfl rfl (Nat.le_of_ble_eq_true rfl) dX4_init_21 (fun G_10 H locs g_11 o_12 hw => ?_)
  have h2 := (o_12 _ (by omega)).trans h2
  have h1 : G_10 t = some (a, .inr (5, [.int cc, .ref ma, .int (nI ti), .int 0, .int 0])) := g_11
  refine lv_aload_n hx hb dX4_init_24 rfl (lv_at hl 0 rfl) ?_
  refine lv_aload_n hx hb dX4_init_25 rfl (lv_at hl 2 rfl) ?_
  refine lv_iload_n hx hb dX4_init_26 rfl (lv_at hl 3 rfl) ?_
  refine tg_callRi (va_runVN (As := [.int (nI ti)]) (rest := [.ref a]) (Ts := []) ⟨hx, hb, hml, hown, fun _ h9 => absurd h9 List.not_mem_nil⟩ (lf_worthOf l E _ G_10 h0 hs ht h2) (rc_cnV hAm qw_730 qw_18 qw_733 qw_732 qs_48 rfl rfl hd_X3_worthOf ⟨Nat.le_of_ble_eq_true rfl, Nat.le_of_ble_eq_true rfl⟩) (tg_preV hAm hA hw h2 (q := vwCl[4]) rfl) rfl rfl hl.1 rfl (lv_room (Nat.le_of_ble_eq_true rfl)) dX4_init_27 ⟨Nat.le_of_ble_eq_true rfl, Nat.le_of_ble_eq_true rfl⟩) hA hw (fun H locs hw => ?_)
  refine tg_putF hx hb hown hAm hw lyX4 tyX4 tyX4_ok nmX4 h1 rfl 3 (by decide) qw_741 (fun _ h9 => h9) rfl hin rfl rfl rfl (Nat.le_of_ble_eq_true rfl) dX4_init_30 (fun G_13 H locs g_14 o_15 hw => ?_)
  have h2 := (o_15 _ (by omega)).trans h2
  have h1 : G_13 t = some (a, .inr (5, [.int cc, .ref ma, .int (nI ti), .int (nI (ti * 100 / sc)), .int 0])) := g_14
  exact tg_vret hx hb hr hlocks hw (⟨h1, (fun t9 h9 => (o_15 t9 (by omega)).trans ((o_12 t9 (by omega)).trans ((o_9 t9 (by omega)).trans ((o_6 t9 (by omega)).trans ((o_3 t9 (by omega)))))))⟩) (Nat.le_of_ble_eq_true rfl) (Nat.le_of_ble_eq_true rfl) dX4_init_33
set_option maxHeartbeats 4000000 in
set_option maxRecDepth 100000 in
theorem co_changeAt2 (l : Launch) (E : rc_E) (sz : Nat) (ad : Nat → Nat) (v : av_V) (G : tg_G) (hco : G 8 = some (ad 8, .inr (7, [.ref (ad 9), .ref (ad 11), .ref (ad 13), .ref (ad 40), .ref (ad 15), .ref (ad 17), .ref (ad 31), .int (nI (vN v 0)), .int (nI (vN v 1)), .int (nI (vN v 2)), .int (nI (vN v 3)), .int (nI (vN v 4)), .int (vI v 0)]))) (hLc : ltH E G 11 (ad 11) 6 (fun c => ad (40 + 3 * c))) (c : Nat) (hc : c < 6) (hc1 : G (40 + 3 * c) = some (ad (40 + 3 * c), .inr (2, [.ref (ad (41 + 3 * c)), .int (vC v c).1, .int (vC v c).2]))) : tg_M l yX6_changeAt [Cond.code yX6_changeAt cX6_changeAt 2 (some (FieldType.object "RegressionCourt$Change"))] { frames := 3, cells := 0, slots := 0, locals := 64 } E [.ref (ad 8), .int (nI c)] G sz (tg_Qr E (fun u r => r = ad (40 + 3 * c) ∧ u = G)) 0 0 := by
  refine tg_in (cc := cX6_changeAt) (maxL := 2) (ret := (some (FieldType.object "RegressionCourt$Change"))) (tg_Qr E (fun u r => r = ad (40 + 3 * c) ∧ u = G)) (by decide) rfl (Nat.le_of_ble_eq_true rfl) ?_
  intro p e s m args below meth cd ls A hx hb hr hml hown hlocks hin hA hAm hw hl
  have hown : s.vm.findClass RX6 = some m.cls := hown
  have hl : lv_has ls 2 [(0, .ref (ad 8)), (1, .int (nI c))] := hl
  obtain ⟨mcc, lac, capc, fc, hlc, hrc, hpc, hqc, hfc⟩ := ltH.pos hLc (by decide)
  by_cases hz : c = 0
  · subst hz
    refine lv_iload_n hx hb dX6_changeAt_0 rfl (lv_at hl 1 rfl) ?_
    refine lv_if_le (tgt := 29) hx hb dX6_changeAt_1 (by decide) (fun _ => ?_) (fun c9 => absurd ((nI_leI (a := 0) (b := 0) (by omega) (by omega)).mpr (by omega)) c9)
    refine lv_aload_n hx hb dX6_changeAt_29 rfl (lv_at hl 0 rfl) ?_
    refine tg_get (v := .ref (ad 40)) hx hb hown hAm hw lyX6 hco rfl 3 (by decide) qw_228 (fun _ h9 => h9) rfl dX6_changeAt_30 ?_
    exact tg_aret hx hb hr (by first | exact Or.inl ⟨_, rfl⟩ | exact Or.inr ⟨_, rfl⟩) hlocks hw (⟨rfl, rfl⟩) (Nat.le_of_ble_eq_true rfl) (Nat.le_of_ble_eq_true rfl) dX6_changeAt_33
  · have hz1 : 0 < c := by omega
    refine lv_iload_n hx hb dX6_changeAt_0 rfl (lv_at hl 1 rfl) ?_
    refine lv_if_le (tgt := 29) hx hb dX6_changeAt_1 (by decide) (fun c9 => absurd c9 (fun z9 => absurd ((nI_leI (a := c) (b := 0) (by omega) (by omega)).mp z9) (by omega))) (fun _ => ?_)
    refine lv_iload_n hx hb dX6_changeAt_4 rfl (lv_at hl 1 rfl) ?_
    refine lv_aload_n hx hb dX6_changeAt_5 rfl (lv_at hl 0 rfl) ?_
    refine tg_get (v := .ref (ad 11)) hx hb hown hAm hw lyX6 hco rfl 1 (by decide) qw_226 (fun _ h9 => h9) rfl dX6_changeAt_6 ?_
    refine tg_callRi (va_runV (As := []) (rest := [.int (nI c)]) (Ts := []) ⟨hx, hb, hml, hown, fun _ h9 => absurd h9 List.not_mem_nil⟩ (lf_size l E _ G (n := 6) hlc) (rc_cwV hAm qw_343 qw_4 qw_346 qw_344 qw_345 rfl rfl hd_Jx4a65c_size_8abf5 ⟨Nat.le_of_ble_eq_true rfl, Nat.le_of_ble_eq_true rfl⟩) (tg_preV hAm hA hw hlc (q := vwCl[0]) rfl) rfl rfl hl.1 rfl (lv_room (Nat.le_of_ble_eq_true rfl)) dX6_changeAt_9 ⟨Nat.le_of_ble_eq_true rfl, Nat.le_of_ble_eq_true rfl⟩) hA hw (fun H locs hw => ?_)
    refine lv_icmp_ge (tgt := 29) hx hb dX6_changeAt_12 (by decide) (fun c9 => absurd c9 (fun z9 => absurd ((nI_leI (a := 6) (b := c) (by omega) (by omega)).mp z9) (by omega))) (fun _ => ?_)
    refine lv_aload_n hx hb dX6_changeAt_15 rfl (lv_at hl 0 rfl) ?_
    refine tg_get (v := .ref (ad 11)) hx hb hown hAm hw lyX6 hco rfl 1 (by decide) qw_226 (fun _ h9 => h9) rfl dX6_changeAt_16 ?_
    refine lv_iload_n hx hb dX6_changeAt_19 rfl (lv_at hl 1 rfl) ?_
    refine tg_callRr (va_runV (As := [.int (nI c)]) (rest := []) (Ts := []) ⟨hx, hb, hml, hown, fun _ h9 => absurd h9 List.not_mem_nil⟩ (lf_get l E _ G (k := c) (n := 6) (y := ad (40 + 3 * c)) (by omega) (by omega) (by omega) (hfc c (by omega)) hlc hrc) (rc_cwV hAm qw_436 qw_4 qw_439 qw_437 qw_438 rfl rfl hd_Jx4a65c_get_915e3 ⟨Nat.le_of_ble_eq_true rfl, Nat.le_of_ble_eq_true rfl⟩) (tg_preV hAm hA hw hlc (q := vwCl[0]) rfl) rfl rfl hl.1 rfl (lv_room (Nat.le_of_ble_eq_true rfl)) dX6_changeAt_20 ⟨Nat.le_of_ble_eq_true rfl, Nat.le_of_ble_eq_true rfl⟩) hA hw (fun H locs hw => ?_)
    refine tg_castS (C := RX1) hx hb hown hAm hw qw_59 hc1 rfl dX6_changeAt_23 ?_
    refine lv_goto (tgt := 33) hx hb dX6_changeAt_26 (by decide) ?_
    exact tg_aret hx hb hr (by first | exact Or.inl ⟨_, rfl⟩ | exact Or.inr ⟨_, rfl⟩) hlocks hw (⟨rfl, rfl⟩) (Nat.le_of_ble_eq_true rfl) (Nat.le_of_ble_eq_true rfl) dX6_changeAt_33
theorem hd_X4_init : yX4_init.cls ≠ "java/lang/invoke/MethodHandle" ∧ yX4_init.cls ≠ "java/lang/invoke/VarHandle" ∧ (parseMethodDescriptor yX4_init.desc).map (fun d => d.parameters.length) = some 3 := by decide +kernel
theorem hd_Jx4a65c_add_9ea2d : yJx4a65c_add_9ea2d.cls ≠ "java/lang/invoke/MethodHandle" ∧ yJx4a65c_add_9ea2d.cls ≠ "java/lang/invoke/VarHandle" ∧ (parseMethodDescriptor yJx4a65c_add_9ea2d.desc).map (fun d => d.parameters.length) = some 1 := by decide +kernel
set_option maxHeartbeats 4000000 in
set_option maxRecDepth 100000 in
theorem pu_run (l : Launch) (hst : l.stackTraces = false) (E : rc_E) (sz : Nat) (ad : Nat → Nat) (v : av_V) (G : tg_G) (hI : ssH E ad v G) (hS : scH E ad G) (hn : nmOK v) (hok : caseOK v) (c : Nat) (hc : c < 6) (j : Nat) (hj : j < 2) (ti : Nat) (ht1 : 1 ≤ ti) (ht2 : ti ≤ 9999) (hnv : vn v < 60) (hm6 : vMN v j 6 ≤ vn v) : tg_Mx l yX6_run [Cond.code yX6_run cX6_run 6 (some FieldType.int)] { frames := 7, cells := 3, slots := 405, locals := 171 } E [.ref (ad 8), .int (nI c), .int (nI j), .int (nI ti)] G sz (tg_Qi E (fun r u => (vMI v j 7 = 0 ∧ vMN v j 1 ≤ vN v 2 ∧ ∃ (ad1 : Nat → Nat) (v2 : av_V), ad1 8 = ad 8 ∧ (stH E ad1 v2 u ∧ sameV (setR v c j ti (ti * 100 / vMN v j 2)) v2 ∧ nmOK v2 ∧ caseOK v2) ∧ r = nI (ti * 100 / vMN v j 2)) ∧ ∀ t9, t9 < 8 → u t9 = G t9)) (fun x9 => x9 = "java/lang/IllegalStateException") 3 405 := by
  refine tg_xin (cc := cX6_run) (maxL := 6) (ret := (some FieldType.int)) (tg_Qi E (fun r u => (vMI v j 7 = 0 ∧ vMN v j 1 ≤ vN v 2 ∧ ∃ (ad1 : Nat → Nat) (v2 : av_V), ad1 8 = ad 8 ∧ (stH E ad1 v2 u ∧ sameV (setR v c j ti (ti * 100 / vMN v j 2)) v2 ∧ nmOK v2 ∧ caseOK v2) ∧ r = nI (ti * 100 / vMN v j 2)) ∧ ∀ t9, t9 < 8 → u t9 = G t9)) (by decide) rfl (Nat.le_of_ble_eq_true rfl) ?_
  intro p e s m args below meth cd ls A htab hx hb hr hml hown hlocks hin hA hAm hw hl
  have hown : s.vm.findClass RX6 = some m.cls := hown
  have hl : lv_has ls 6 [(0, .ref (ad 8)), (1, .int (nI c)), (2, .int (nI j)), (3, .int (nI ti))] := hl
  obtain ⟨h0, hco, ⟨hLm, hLc, hLr⟩, hbi, hma, hch, hru⟩ := id hI
  have hn60 := h0.1
  obtain ⟨mcm, lam, capm, fm, hlm, hrm, hpm, hqm, hfm⟩ := ltH.pos hLm (by decide)
  obtain ⟨mc9, la9, hl9, -⟩ := id hLr
  obtain ⟨hp1, hp0, hsc0, hsc2, hm60, has⟩ := h0.2.2.1 j hj
  have hlen := ixs_len v c
  have hw9 : ti * 100 / vMN v j 2 ≤ ti * 100 := Nat.div_le_self _ _
  have hb2 : vN v 2 ≤ 5000 := h0.2.2.2.2.2.2.2.1
  have hm_j : G (32 + j) = some (ad (32 + j), .inr (4, [.int (nI j), .int (nI (vMN v j 1)), .int (nI (vMN v j 2)), .int (vMI v j 3), .int (vMI v j 4), .int (vMI v j 5), .int (nI (vMN v j 6)), .int (vMI v j 7)])) := hma j (by omega)
  refine lv_aload_n hx hb dX6_run_0 rfl (lv_at hl 0 rfl) ?_
  refine lv_iload_n hx hb dX6_run_1 rfl (lv_at hl 1 rfl) ?_
  refine tg_callRi (va_runV (As := [.int (nI c)]) (rest := []) (Ts := []) ⟨hx, hb, hml, hown, fun _ h9 => absurd h9 List.not_mem_nil⟩ (co_isNoChange l E _ ad v G hI c hc) (rc_cwV hAm qw_678 qw_1 qw_681 qw_680 qs_46 rfl rfl hd_X6_isNoChange ⟨Nat.le_of_ble_eq_true rfl, Nat.le_of_ble_eq_true rfl⟩) (tg_preV hAm hA hw hco (q := vwCl[7]) rfl) rfl rfl hl.1 rfl (lv_room (Nat.le_of_ble_eq_true rfl)) dX6_run_2 ⟨Nat.le_of_ble_eq_true rfl, Nat.le_of_ble_eq_true rfl⟩) hA hw (fun H locs hw => ?_)
  refine lv_if_ne (tgt := 23) hx hb dX6_run_5 (by decide) (fun c9 => absurd (by decide) c9) (fun _ => ?_)
  refine lv_iload_n hx hb dX6_run_8 rfl (lv_at hl 2 rfl) ?_
  refine lv_if_lt (tgt := 23) hx hb dX6_run_9 (by decide) (fun c9 => absurd c9 (fun z9 => absurd ((nI_ltI (a := j) (b := 0) (by omega) (by omega)).mp z9) (by omega))) (fun _ => ?_)
  refine lv_iload_n hx hb dX6_run_12 rfl (lv_at hl 2 rfl) ?_
  refine lv_aload_n hx hb dX6_run_13 rfl (lv_at hl 0 rfl) ?_
  refine tg_get (v := .ref (ad 9)) hx hb hown hAm hw lyX6 hco rfl 0 (by decide) qw_225 (fun _ h9 => h9) rfl dX6_run_14 ?_
  refine tg_callRi (va_runV (As := []) (rest := [.int (nI j)]) (Ts := []) ⟨hx, hb, hml, hown, fun _ h9 => absurd h9 List.not_mem_nil⟩ (lf_size l E _ G (n := 2) hlm) (rc_cwV hAm qw_343 qw_4 qw_346 qw_344 qw_345 rfl rfl hd_Jx4a65c_size_8abf5 ⟨Nat.le_of_ble_eq_true rfl, Nat.le_of_ble_eq_true rfl⟩) (tg_preV hAm hA hw hlm (q := vwCl[0]) rfl) rfl rfl hl.1 rfl (lv_room (Nat.le_of_ble_eq_true rfl)) dX6_run_17 ⟨Nat.le_of_ble_eq_true rfl, Nat.le_of_ble_eq_true rfl⟩) hA hw (fun H locs hw => ?_)
  refine lv_icmp_lt (tgt := 33) hx hb dX6_run_20 (by decide) (fun _ => ?_) (fun c9 => absurd ((nI_ltI (a := j) (b := 2) (by omega) (by omega)).mpr (by omega)) c9)
  refine lv_iload_n hx hb dX6_run_33 rfl (lv_at hl 3 rfl) ?_
  refine lv_iconst (v := 1) hx hb dX6_run_34 (by decide) ?_
  refine lv_sipush (v := 9999) hx hb dX6_run_35 (by decide) ?_
  refine tg_callRi (va_runS (As := [.int (nI ti), .int 1, .int 9999]) (rest := []) (Ts := []) ⟨hx, hb, hml, hown, fun _ h9 => absurd h9 List.not_mem_nil⟩ (lf_isOutside l E _ G (nI ti) 1 9999 (fun z9 => absurd ((nI_ltI (a := ti) (b := 1) (by omega) (by omega)).mp z9) (by omega)) ((nI_leI (a := ti) (b := 9999) (by omega) (by omega)).mpr (by omega))) (rc_cwS hAm qw_269 qw_1 qw_271 qw_270 rfl rfl hd_X6_isOutside ⟨Nat.le_of_ble_eq_true rfl, Nat.le_of_ble_eq_true rfl⟩) (tg_preS hAm hA hw) rfl rfl hl.1 rfl (lv_room (Nat.le_of_ble_eq_true rfl)) dX6_run_38 ⟨Nat.le_of_ble_eq_true rfl, Nat.le_of_ble_eq_true rfl⟩) hA hw (fun H locs hw => ?_)
  refine lv_if_eq (tgt := 54) hx hb dX6_run_41 (by decide) (fun _ => ?_) (fun c9 => absurd (by decide) c9)
  refine lv_aload_n hx hb dX6_run_54 rfl (lv_at hl 0 rfl) ?_
  refine tg_get (v := .ref (ad 9)) hx hb hown hAm hw lyX6 hco rfl 0 (by decide) qw_225 (fun _ h9 => h9) rfl dX6_run_55 ?_
  refine lv_iload_n hx hb dX6_run_58 rfl (lv_at hl 2 rfl) ?_
  refine tg_callRr (va_runV (As := [.int (nI j)]) (rest := []) (Ts := []) ⟨hx, hb, hml, hown, fun _ h9 => absurd h9 List.not_mem_nil⟩ (lf_get l E _ G (k := j) (n := 2) (y := ad (32 + j)) (by omega) (by omega) (by omega) (hfm j (by omega)) hlm hrm) (rc_cwV hAm qw_436 qw_4 qw_439 qw_437 qw_438 rfl rfl hd_Jx4a65c_get_915e3 ⟨Nat.le_of_ble_eq_true rfl, Nat.le_of_ble_eq_true rfl⟩) (tg_preV hAm hA hw hlm (q := vwCl[0]) rfl) rfl rfl hl.1 rfl (lv_room (Nat.le_of_ble_eq_true rfl)) dX6_run_59 ⟨Nat.le_of_ble_eq_true rfl, Nat.le_of_ble_eq_true rfl⟩) hA hw (fun H locs hw => ?_)
  refine tg_castS (C := RX3) hx hb hown hAm hw qw_363 hm_j rfl dX6_run_62 ?_
  refine lv_astore (lv' := [(4, .ref (ad (32 + j))), (0, .ref (ad 8)), (1, .int (nI c)), (2, .int (nI j)), (3, .int (nI ti))]) hx hb dX6_run_65 hl (by decide) rfl (fun ls hl => ?_)
  refine lv_aload hx hb dX6_run_67 (lv_at hl 0 rfl) ?_
  refine tg_getN (v := .int (vMI v j 7)) hx hb hown hAm hw lyX3 hm_j rfl 7 (by decide) qw_383 (fun _ h9 => h9) rfl dX6_run_69 ?_
  refine lv_if_ne (tgt := 99) hx hb dX6_run_72 (by decide) (fun ca => ?_) (fun ca => ?_)
  · exact tg_throwS hx hb hst hown hAm hw (fun _ _ h9 => h9) (is := 144) (tx := "aside, no more runs, or no minutes") (by decide) htab (by rw [hml]; exact hl.1) dX6_run_99 dX6_run_102 dX6_run_103 dX6_run_105 dX6_run_108 (Nat.le_of_ble_eq_true rfl) (Nat.le_of_ble_eq_true rfl) (Nat.le_of_ble_eq_true rfl) (Nat.le_of_ble_eq_true rfl) hlocks (rfl) (Nat.le_of_ble_eq_true rfl) (Nat.le_of_ble_eq_true rfl)
  · refine lv_aload_n hx hb dX6_run_75 rfl (lv_at hl 1 rfl) ?_
    refine tg_get (v := .ref (ad 13)) hx hb hown hAm hw lyX6 hco rfl 2 (by decide) qw_227 (fun _ h9 => h9) rfl dX6_run_76 ?_
    refine tg_callRi (va_runV (As := []) (rest := []) (Ts := []) ⟨hx, hb, hml, hown, fun _ h9 => absurd h9 List.not_mem_nil⟩ (lf_size l E _ G (n := vn v) hl9) (rc_cwV hAm qw_343 qw_4 qw_346 qw_344 qw_345 rfl rfl hd_Jx4a65c_size_8abf5 ⟨Nat.le_of_ble_eq_true rfl, Nat.le_of_ble_eq_true rfl⟩) (tg_preV hAm hA hw hl9 (q := vwCl[0]) rfl) rfl rfl hl.1 rfl (lv_room (Nat.le_of_ble_eq_true rfl)) dX6_run_79 ⟨Nat.le_of_ble_eq_true rfl, Nat.le_of_ble_eq_true rfl⟩) hA hw (fun H locs hw => ?_)
    refine lv_bipush (v := 80) hx hb dX6_run_82 (by decide) ?_
    refine lv_icmp_ge (tgt := 99) hx hb dX6_run_84 (by decide) (fun c9 => absurd c9 (fun z9 => absurd ((nI_leI (a := 80) (b := vn v) (by omega) (by omega)).mp z9) (by omega))) (fun _ => ?_)
    refine lv_aload_n hx hb dX6_run_87 rfl (lv_at hl 1 rfl) ?_
    refine tg_get (v := .int (nI (vN v 2))) hx hb hown hAm hw lyX6 hco rfl 9 (by decide) qw_234 (fun _ h9 => h9) rfl dX6_run_88 ?_
    refine lv_aload hx hb dX6_run_91 (lv_at hl 0 rfl) ?_
    refine tg_getN (v := .int (nI (vMN v j 1))) hx hb hown hAm hw lyX3 hm_j rfl 1 (by decide) qw_372 (fun _ h9 => h9) rfl dX6_run_93 ?_
    refine lv_icmp_ge (tgt := 109) hx hb dX6_run_96 (by decide) (fun c_1 => ?_) (fun c_1 => ?_)
    · have c_1 := (nI_leI (a := vMN v j 1) (b := vN v 2) (by omega) (by omega)).mp c_1
      refine tg_new (64 + vn v) (C := RX4) (ci := 5) hx hb hown hAm hA hw lyX4 tyX4 tyX4_ok rfl qw_524 qw_460 qw_22 [.int 0, .null, .int 0, .int 0, .int 0] rfl (Nat.le_of_ble_eq_true rfl) (Nat.le_of_ble_eq_true rfl) dX6_run_109 (fun q_2 G_3 H g_4 o_5 hw => ?_)
      have hco := (o_5 _ (by omega)).trans hco
      have hlm := (o_5 _ (by omega)).trans hlm
      have hrm := (o_5 _ (by omega)).trans hrm
      have hm_j := (o_5 _ (by omega)).trans hm_j
      have hl9 := (o_5 _ (by omega)).trans hl9
      have kq_2 : G_3 (64 + vn v) = some (q_2, .inr (5, [.int 0, .null, .int 0, .int 0, .int 0])) := g_4
      refine lv_dup hx hb dX6_run_112 rfl ?_
      refine lv_iload_n hx hb dX6_run_113 rfl (lv_at hl 2 rfl) ?_
      refine lv_aload hx hb dX6_run_114 (lv_at hl 0 rfl) ?_
      refine lv_iload_n hx hb dX6_run_116 rfl (lv_at hl 4 rfl) ?_
      refine tg_callv (va_runIN (As := [.int (nI c), .ref (ad (32 + j)), .int (nI ti)]) (rest := [.ref q_2]) (Ts := []) ⟨hx, hb, hml, hown, fun _ h9 => absurd h9 List.not_mem_nil⟩ (lf_runInit l E _ G_3 (nI c) (by omega) (by omega) (by omega) (by omega) kq_2 hm_j) (rc_cnI hAm qw_726 qw_22 qw_728 qw_727 rfl rfl rfl hd_X4_init ⟨Nat.le_of_ble_eq_true rfl, Nat.le_of_ble_eq_true rfl⟩) (tg_preS hAm hA hw) rfl rfl hl.1 rfl (lv_room (Nat.le_of_ble_eq_true rfl)) dX6_run_117 ⟨Nat.le_of_ble_eq_true rfl, Nat.le_of_ble_eq_true rfl⟩) hA hw (fun G_6 H locs hp hw => ?_)
      obtain ⟨kq_2, o_8⟩ := hp
      have hco := (o_8 _ (by omega)).trans hco
      have hlm := (o_8 _ (by omega)).trans hlm
      have hrm := (o_8 _ (by omega)).trans hrm
      have hm_j := (o_8 _ (by omega)).trans hm_j
      have hl9 := (o_8 _ (by omega)).trans hl9
      refine lv_astore (lv' := [(5, .ref q_2), (4, .ref (ad (32 + j))), (0, .ref (ad 8)), (1, .int (nI c)), (2, .int (nI j)), (3, .int (nI ti))]) hx hb dX6_run_120 hl (by decide) rfl (fun ls hl => ?_)
      have hL13 := hLr.of ((fun t9 (h9 : t9 = 13) => (o_8 t9 (by omega)).trans ((o_5 t9 (by omega)))) 13 rfl) ((fun t9 (h9 : t9 = 14) => (o_8 t9 (by omega)).trans ((o_5 t9 (by omega)))) (13 + 1) rfl)
      have helm13 : ∀ i9, i9 < vn v → ∃ (te9 : Nat) (vs : List Value), te9 ≠ 63 ∧ te9 ≠ 13 ∧ G_6 te9 = some (ad (64 + i9), .inr (5, vs)) := fun i9 h9 => ⟨64 + i9, _, by omega, by omega, ((fun t9 (h8 : t9 < 64 + vn v) => (o_8 t9 (by omega)).trans ((o_5 t9 (by omega)))) (64 + i9) (by omega)).trans (hru i9 h9)⟩
      refine lv_aload_n hx hb dX6_run_122 rfl (lv_at hl 2 rfl) ?_
      refine tg_get (v := .ref (ad 13)) hx hb hown hAm hw lyX6 hco rfl 2 (by decide) qw_227 (fun _ h9 => h9) rfl dX6_run_123 ?_
      refine lv_aload hx hb dX6_run_126 (lv_at hl 0 rfl) ?_
      refine tg_calli (va_runV (As := [.ref q_2]) (rest := []) (Ts := []) ⟨hx, hb, hml, hown, fun _ h9 => absurd h9 List.not_mem_nil⟩ (li_add l E _ G_6 (t := 13) (te := 64 + vn v) hL13 helm13 (by omega) (by omega) kq_2 ⟨by omega, by omega, by omega⟩) (rc_cwV hAm qw_167 qw_4 qw_170 qw_168 qw_169 rfl rfl hd_Jx4a65c_add_9ea2d ⟨Nat.le_of_ble_eq_true rfl, Nat.le_of_ble_eq_true rfl⟩) (tg_preV hAm hA hw hl9 (q := vwCl[0]) rfl) rfl rfl hl.1 rfl (lv_room (Nat.le_of_ble_eq_true rfl)) dX6_run_128 ⟨Nat.le_of_ble_eq_true rfl, Nat.le_of_ble_eq_true rfl⟩) hA hw (fun r_10 G_9 H locs hp hw => ?_)
      obtain ⟨hL13, hu13⟩ := hp
      have hco := (hu13 8 (by omega) (by omega) (by omega)).trans hco
      have hlm := (hu13 9 (by omega) (by omega) (by omega)).trans hlm
      have hrm := (hu13 10 (by omega) (by omega) (by omega)).trans hrm
      have hm_j := (hu13 (32 + j) (by omega) (by omega) (by omega)).trans hm_j
      have kq_2 := (hu13 (64 + vn v) (by omega) (by omega) (by omega)).trans kq_2
      refine lv_pop hx hb dX6_run_131 rfl ?_
      have hLc9 := hLc.of ((fun t9 (h9 : t9 = 11) => (hu13 t9 (by omega) (by omega) (by omega)).trans ((o_8 t9 (by omega)).trans ((o_5 t9 (by omega))))) 11 rfl) ((fun t9 (h9 : t9 = 12) => (hu13 t9 (by omega) (by omega) (by omega)).trans ((o_8 t9 (by omega)).trans ((o_5 t9 (by omega))))) (11 + 1) rfl)
      have hcc : G_9 (40 + 3 * c) = some (ad (40 + 3 * c), .inr (2, [.ref (ad (41 + 3 * c)), .int (vC v c).1, .int (vC v c).2])) := ((fun t9 (h9 : t9 = 40 + 3 * c) => (hu13 t9 (by omega) (by omega) (by omega)).trans ((o_8 t9 (by omega)).trans ((o_5 t9 (by omega))))) (40 + 3 * c) rfl).trans (hch c hc).1
      have hLk := (hch c hc).2.of ((fun t9 (h9 : t9 = 41 + 3 * c) => (hu13 t9 (by omega) (by omega) (by omega)).trans ((o_8 t9 (by omega)).trans ((o_5 t9 (by omega))))) (41 + 3 * c) rfl) ((fun t9 (h9 : t9 = 42 + 3 * c) => (hu13 t9 (by omega) (by omega) (by omega)).trans ((o_8 t9 (by omega)).trans ((o_5 t9 (by omega))))) (41 + 3 * c + 1) (by omega))
      have hlk := hLk
      have helmk : ∀ i9, i9 < (ixs v c).length → ∃ (te9 : Nat) (vs : List Value), te9 ≠ 63 ∧ te9 ≠ 41 + 3 * c ∧ G_9 te9 = some (ad (64 + (ixs v c).getD i9 0), .inr (5, vs)) := fun i9 h9 => by have hlt := (ixs_mem h9).1; exact ⟨64 + (ixs v c).getD i9 0, _, by omega, by omega, ((fun t9 (h8 : 63 < t9) (h10 : t9 < 64 + vn v) => (hu13 t9 (by omega) (by omega) (by omega)).trans ((o_8 t9 (by omega)).trans ((o_5 t9 (by omega))))) (64 + (ixs v c).getD i9 0) (by omega) (by omega)).trans (hru _ hlt)⟩
      obtain ⟨mck, lak, hlk, -⟩ := id hLk
      refine lv_aload_n hx hb dX6_run_132 rfl (lv_at hl 2 rfl) ?_
      refine lv_iload_n hx hb dX6_run_133 rfl (lv_at hl 3 rfl) ?_
      refine tg_callRr (va_runV (As := [.int (nI c)]) (rest := []) (Ts := []) ⟨hx, hb, hml, hown, fun _ h9 => absurd h9 List.not_mem_nil⟩ (co_changeAt2 l E _ ad v G_9 hco hLc9 c hc hcc) (rc_cwV hAm qw_432 qw_1 qw_435 qw_434 qs_9 rfl rfl hd_X6_changeAt ⟨Nat.le_of_ble_eq_true rfl, Nat.le_of_ble_eq_true rfl⟩) (tg_preV hAm hA hw hco (q := vwCl[7]) rfl) rfl rfl hl.1 rfl (lv_room (Nat.le_of_ble_eq_true rfl)) dX6_run_134 ⟨Nat.le_of_ble_eq_true rfl, Nat.le_of_ble_eq_true rfl⟩) hA hw (fun H locs hw => ?_)
      refine tg_getN (v := .ref (ad (41 + 3 * c))) hx hb hown hAm hw lyX1 hcc rfl 0 (by decide) qw_69 (fun _ h9 => h9) rfl dX6_run_137 ?_
      refine lv_aload hx hb dX6_run_140 (lv_at hl 0 rfl) ?_
      refine tg_calli (va_runV (As := [.ref q_2]) (rest := []) (Ts := []) ⟨hx, hb, hml, hown, fun _ h9 => absurd h9 List.not_mem_nil⟩ (li_add l E _ G_9 (t := 41 + 3 * c) (te := 64 + vn v) hLk helmk (by omega) (by omega) kq_2 ⟨by omega, by omega, by omega⟩) (rc_cwV hAm qw_167 qw_4 qw_170 qw_168 qw_169 rfl rfl hd_Jx4a65c_add_9ea2d ⟨Nat.le_of_ble_eq_true rfl, Nat.le_of_ble_eq_true rfl⟩) (tg_preV hAm hA hw hlk (q := vwCl[0]) rfl) rfl rfl hl.1 rfl (lv_room (Nat.le_of_ble_eq_true rfl)) dX6_run_142 ⟨Nat.le_of_ble_eq_true rfl, Nat.le_of_ble_eq_true rfl⟩) hA hw (fun r_12 G_11 H locs hp hw => ?_)
      obtain ⟨hLk, huk⟩ := hp
      have hco := (huk 8 (by omega) (by omega) (by omega)).trans hco
      have hm_j := (huk (32 + j) (by omega) (by omega) (by omega)).trans hm_j
      have kq_2 := (huk (64 + vn v) (by omega) (by omega) (by omega)).trans kq_2
      have hcc := (huk (40 + 3 * c) (by omega) (by omega) (by omega)).trans hcc
      refine lv_pop hx hb dX6_run_145 rfl ?_
      refine lv_aload hx hb dX6_run_146 (lv_at hl 1 rfl) ?_
      refine lv_dup hx hb dX6_run_148 rfl ?_
      refine tg_getN (v := .int (nI (vMN v j 6))) hx hb hown hAm hw lyX3 hm_j rfl 6 (by decide) qw_380 (fun _ h9 => h9) rfl dX6_run_149 ?_
      refine lv_iconst (v := 1) hx hb dX6_run_152 (by decide) ?_
      refine lv_iadd hx hb dX6_run_153 ?_
      refine rc_topi (nI (vMN v j 6 + 1)) (nI_add (vMN v j 6) 1) ?_
      refine tg_putN hx hb hown hAm hw lyX3 tyX3 tyX3_ok nmX3 hm_j rfl 6 (by decide) qw_380 (fun _ h9 => h9) rfl rfl rfl (Nat.le_of_ble_eq_true rfl) dX6_run_154 (fun G_13 H locs g_14 o_15 hw => ?_)
      have hco := (o_15 _ (by omega)).trans hco
      have kq_2 := (o_15 _ (by omega)).trans kq_2
      have hcc := (o_15 _ (by omega)).trans hcc
      have hm_j : G_13 (32 + j) = some (ad (32 + j), .inr (4, [.int (nI j), .int (nI (vMN v j 1)), .int (nI (vMN v j 2)), .int (vMI v j 3), .int (vMI v j 4), .int (vMI v j 5), .int (nI (vMN v j 6 + 1)), .int (vMI v j 7)])) := g_14
      refine lv_aload_n hx hb dX6_run_157 rfl (lv_at hl 2 rfl) ?_
      refine lv_dup hx hb dX6_run_158 rfl ?_
      refine tg_get (v := .int (nI (vN v 2))) hx hb hown hAm hw lyX6 hco rfl 9 (by decide) qw_234 (fun _ h9 => h9) rfl dX6_run_159 ?_
      refine lv_aload hx hb dX6_run_162 (lv_at hl 1 rfl) ?_
      refine tg_getN (v := .int (nI (vMN v j 1))) hx hb hown hAm hw lyX3 hm_j rfl 1 (by decide) qw_372 (fun _ h9 => h9) rfl dX6_run_164 ?_
      refine lv_isub hx hb dX6_run_167 ?_
      refine rc_topi (nI (vN v 2 - (vMN v j 1))) (pk_sub (a := vN v 2) (b := vMN v j 1) (by omega)) ?_
      refine tg_put hx hb hown hAm hw lyX6 tyX6 tyX6_ok nmX6 hco rfl 9 (by decide) qw_234 (fun _ h9 => h9) rfl rfl rfl (Nat.le_of_ble_eq_true rfl) dX6_run_168 (fun G_16 H locs g_17 o_18 hw => ?_)
      have hm_j := (o_18 _ (by omega)).trans hm_j
      have kq_2 := (o_18 _ (by omega)).trans kq_2
      have hcc := (o_18 _ (by omega)).trans hcc
      have hco : G_16 8 = some (ad 8, .inr (7, [.ref (ad 9), .ref (ad 11), .ref (ad 13), .ref (ad 40), .ref (ad 15), .ref (ad 17), .ref (ad 31), .int (nI (vN v 0)), .int (nI (vN v 1)), .int (nI (vN v 2 - (vMN v j 1))), .int (nI (vN v 3)), .int (nI (vN v 4)), .int (vI v 0)])) := g_17
      have hL13 := hL13.of ((fun t9 (h9 : t9 = 13) => (o_18 t9 (by omega)).trans ((o_15 t9 (by omega)).trans ((huk t9 (by omega) (by omega) (by omega))))) 13 rfl) ((fun t9 (h9 : t9 = 14) => (o_18 t9 (by omega)).trans ((o_15 t9 (by omega)).trans ((huk t9 (by omega) (by omega) (by omega))))) (13 + 1) rfl)
      have hLk := hLk.of ((fun t9 (h9 : t9 = 41 + 3 * c) => (o_18 t9 (by omega)).trans ((o_15 t9 (by omega)))) (41 + 3 * c) rfl) ((fun t9 (h9 : t9 = 42 + 3 * c) => (o_18 t9 (by omega)).trans ((o_15 t9 (by omega)))) (41 + 3 * c + 1) (by omega))
      have hI1 := hI.runs (q := q_2) (ti := ti) (w := ti * 100 / vMN v j 2) hc hj (by omega) hnv (by omega) hco hL13 hLk hm_j kq_2 (fun t9 h1 h2 h3 h4 h5 h6 h7 h8 => (o_18 t9 (by omega)).trans ((o_15 t9 (by omega)).trans ((huk t9 (by omega) (by omega) (by omega)).trans ((hu13 t9 (by omega) (by omega) (by omega)).trans ((o_8 t9 (by omega)).trans ((o_5 t9 (by omega))))))))
      have hS1 := (hS.off (u := G_16) (fun t9 h8 h9 => (o_18 t9 (by omega)).trans ((o_15 t9 (by omega)).trans ((huk t9 (by omega) (by omega) (by omega)).trans ((hu13 t9 (by omega) (by omega) (by omega)).trans ((o_8 t9 (by omega)).trans ((o_5 t9 (by omega))))))))).adU (q := q_2) (t0 := 64 + vn v) (by omega)
      have e8 : adU ad (64 + vn v) q_2 8 = ad 8 := adU_ne (by omega)
      have e9 : adU ad (64 + vn v) q_2 (64 + vn v) = q_2 := adU_at _ _ _
      obtain ⟨ad1, had⟩ : ∃ ad1, ad1 = adU ad (64 + vn v) q_2 := ⟨_, rfl⟩
      rw [← had] at hI1 hS1 e8 e9
      rw [← e8, ← e9] at hl
      have hco1 := hI1.2.1
      refine lv_aload_n hx hb dX6_run_171 rfl (lv_at hl 2 rfl) ?_
      refine tg_callv (va_runV (As := []) (rest := []) (Ts := []) ⟨hx, hb, hml, hown, fun _ h9 => absurd h9 List.not_mem_nil⟩ (co_goOn l E _ ad1 (setR v c j ti (ti * 100 / vMN v j 2)) G_16 hI1 hS1 hok.h hn) (rc_cwV hAm qw_412 qw_1 qw_415 qw_414 qs_4 rfl rfl hd_X6_goOn ⟨Nat.le_of_ble_eq_true rfl, Nat.le_of_ble_eq_true rfl⟩) (tg_preV hAm hA hw hco1 (q := vwCl[7]) rfl) rfl rfl hl.1 rfl (lv_room (Nat.le_of_ble_eq_true rfl)) dX6_run_172 ⟨Nat.le_of_ble_eq_true rfl, Nat.le_of_ble_eq_true rfl⟩) hA hw (fun G_19 H locs hp hw => ?_)
      obtain ⟨⟨v2, hIS2, hv2, hn2, hok2⟩, hu⟩ := hp
      obtain ⟨hI2, hS2⟩ := id hIS2
      have hr2 : G_19 (64 + vn v) = some (ad1 (64 + vn v), .inr (5, [.int (nI ((vR v2 (vn v)).1)), .ref (ad1 (32 + (vR v2 (vn v)).2.1)), .int ((vT v2 (vn v)).1), .int (nI ((vR v2 (vn v)).2.2)), .int ((vT v2 (vn v)).2)])) := hI2.2.2.2.2.2.2 (vn v) (by rw [hv2.vn]; exact Nat.lt_succ_self _)
      refine lv_aload hx hb dX6_run_175 (lv_at hl 0 rfl) ?_
      refine tg_getN (v := .int (nI ((vR v2 (vn v)).2.2))) hx hb hown hAm hw lyX4 hr2 rfl 3 (by decide) qw_743 (fun _ h9 => h9) rfl dX6_run_177 ?_
      exact vx_ret (tg_iret hx hb hr hlocks hw (⟨⟨ca, by omega, ad1, v2, e8, ⟨hIS2, hv2, hn2, hok2⟩, by rw [hv2.vR, setR_vR_at]⟩, fun t9 h9 => (hu t9 h9).trans ((o_18 t9 (by omega)).trans ((o_15 t9 (by omega)).trans ((huk t9 (by omega) (by omega) (by omega)).trans ((hu13 t9 (by omega) (by omega) (by omega)).trans ((o_8 t9 (by omega)).trans ((o_5 t9 (by omega))))))))⟩) (Nat.le_of_ble_eq_true rfl) (Nat.le_of_ble_eq_true rfl) dX6_run_180)
    · have c_1 := mt (nI_leI (a := vMN v j 1) (b := vN v 2) (by omega) (by omega)).mpr c_1
      exact tg_throwS hx hb hst hown hAm hw (fun _ _ h9 => h9) (is := 144) (tx := "aside, no more runs, or no minutes") (by decide) htab (by rw [hml]; exact hl.1) dX6_run_99 dX6_run_102 dX6_run_103 dX6_run_105 dX6_run_108 (Nat.le_of_ble_eq_true rfl) (Nat.le_of_ble_eq_true rfl) (Nat.le_of_ble_eq_true rfl) (Nat.le_of_ble_eq_true rfl) hlocks (rfl) (Nat.le_of_ble_eq_true rfl) (Nat.le_of_ble_eq_true rfl)
