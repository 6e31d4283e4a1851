set_option maxHeartbeats 4000000 in
set_option maxRecDepth 100000 in
theorem lf_oneIf (l : Launch) (E : rc_E) (sz : Nat) (G : tg_G) {z : Int32} (hz : z = 0 ∨ z = 1) : tg_M l yX6_oneIf [Cond.code yX6_oneIf cX6_oneIf 1 (some FieldType.int)] { frames := 0, cells := 0, slots := 0, locals := 0 } E [.int z] G sz (tg_Qi E (fun r u => r = z ∧ u = G)) 0 0 := by
  refine tg_in (cc := cX6_oneIf) (maxL := 1) (ret := (some FieldType.int)) (tg_Qi E (fun r u => r = z ∧ u = G)) (by decide) rfl (Nat.le_of_ble_eq_true rfl) ?_
  intro p e s m args below meth cd ls A hx hb hr hml hown hlocks hin hA hAm hw hl
  have hown : s.vm.findClass RX6 = some m.cls := hown
  have hl : lv_has ls 1 [(0, .int z)] := hl
  rcases hz with rfl | rfl
  · refine lv_iload_n hx hb dX6_oneIf_0 rfl (lv_at hl 0 rfl) ?_
    refine lv_if_eq (tgt := 8) hx hb dX6_oneIf_1 (by decide) (fun _ => ?_) (fun c9 => absurd (by decide) c9)
    refine lv_iconst (v := 0) hx hb dX6_oneIf_8 (by decide) ?_
    exact tg_iret hx hb hr hlocks hw (⟨rfl, rfl⟩) (Nat.le_of_ble_eq_true rfl) (Nat.le_of_ble_eq_true rfl) dX6_oneIf_9
  · refine lv_iload_n hx hb dX6_oneIf_0 rfl (lv_at hl 0 rfl) ?_
    refine lv_if_eq (tgt := 8) hx hb dX6_oneIf_1 (by decide) (fun c9 => absurd c9 (by decide)) (fun _ => ?_)
    refine lv_iconst (v := 1) hx hb dX6_oneIf_4 (by decide) ?_
    refine lv_goto (tgt := 9) hx hb dX6_oneIf_5 (by decide) ?_
    exact tg_iret hx hb hr hlocks hw (⟨rfl, rfl⟩) (Nat.le_of_ble_eq_true rfl) (Nat.le_of_ble_eq_true rfl) dX6_oneIf_9
set_option maxHeartbeats 4000000 in
set_option maxRecDepth 100000 in
theorem lf_isOutside (l : Launch) (E : rc_E) (sz : Nat) (G : tg_G) (x y z : Int32) (h1 : ¬ x < y) (h2 : x ≤ z) : tg_M l yX6_isOutside [Cond.code yX6_isOutside cX6_isOutside 3 (some FieldType.boolean)] { frames := 0, cells := 0, slots := 0, locals := 0 } E [.int x, .int y, .int z] G sz (tg_Qi E (fun r u => r = 0 ∧ u = G)) 0 0 := by
  refine tg_in (cc := cX6_isOutside) (maxL := 3) (ret := (some FieldType.boolean)) (tg_Qi E (fun r u => r = 0 ∧ u = G)) (by decide) rfl (Nat.le_of_ble_eq_true rfl) ?_
  intro p e s m args below meth cd ls A hx hb hr hml hown hlocks hin hA hAm hw hl
  have hown : s.vm.findClass RX6 = some m.cls := hown
  have hl : lv_has ls 3 [(0, .int x), (1, .int y), (2, .int z)] := hl
  refine lv_iload_n hx hb dX6_isOutside_0 rfl (lv_at hl 0 rfl) ?_
  refine lv_iload_n hx hb dX6_isOutside_1 rfl (lv_at hl 1 rfl) ?_
  refine lv_icmp_lt (tgt := 10) hx hb dX6_isOutside_2 (by decide) (fun c9 => absurd c9 h1) (fun _ => ?_)
  refine lv_iload_n hx hb dX6_isOutside_5 rfl (lv_at hl 0 rfl) ?_
  refine lv_iload_n hx hb dX6_isOutside_6 rfl (lv_at hl 2 rfl) ?_
  refine lv_icmp_le (tgt := 14) hx hb dX6_isOutside_7 (by decide) (fun _ => ?_) (fun c9 => absurd h2 c9)
  refine lv_iconst (v := 0) hx hb dX6_isOutside_14 (by decide) ?_
  exact tg_zret hx hb hr hlocks hw rfl (⟨rfl, rfl⟩) (Nat.le_of_ble_eq_true rfl) (Nat.le_of_ble_eq_true rfl) dX6_isOutside_15
theorem hd_X6_isOutside : yX6_isOutside.cls ≠ "java/lang/invoke/MethodHandle" ∧ yX6_isOutside.cls ≠ "java/lang/invoke/VarHandle" ∧ (parseMethodDescriptor yX6_isOutside.desc).map (fun d => d.parameters.length) = some 3 := by decide +kernel
set_option maxHeartbeats 4000000 in
set_option maxRecDepth 100000 in
theorem lf_isNoMeasure (l : Launch) (E : rc_E) (sz : Nat) (G : tg_G) (x : Int32) (h1 : ¬ x < 50) (h2 : x ≤ 200) : tg_M l yX6_isNoMeasure [Cond.code yX6_isNoMeasure cX6_isNoMeasure 1 (some FieldType.boolean)] { frames := 1, cells := 0, slots := 0, locals := 22 } E [.int x] G sz (tg_Qi E (fun r u => r = 0 ∧ u = G)) 0 0 := by
  refine tg_in (cc := cX6_isNoMeasure) (maxL := 1) (ret := (some FieldType.boolean)) (tg_Qi E (fun r u => r = 0 ∧ u = G)) (by decide) rfl (Nat.le_of_ble_eq_true rfl) ?_
  intro p e s m args below meth cd ls A hx hb hr hml hown hlocks hin hA hAm hw hl
  have hown : s.vm.findClass RX6 = some m.cls := hown
  have hl : lv_has ls 1 [(0, .int x)] := hl
  refine lv_iload_n hx hb dX6_isNoMeasure_0 rfl (lv_at hl 0 rfl) ?_
  refine lv_bipush (v := 50) hx hb dX6_isNoMeasure_1 (by decide) ?_
  refine lv_sipush (v := 200) hx hb dX6_isNoMeasure_3 (by decide) ?_
  refine tg_callRi (va_runS (As := [.int x, .int 50, .int 200]) (rest := []) (Ts := []) ⟨hx, hb, hml, hown, fun _ h9 => absurd h9 List.not_mem_nil⟩ (lf_isOutside l E _ G x 50 200 h1 h2) (rc_cwS hAm qw_269 qw_1 qw_271 qw_270 rfl rfl hd_X6_isOutside ⟨Nat.le_of_ble_eq_true rfl, Nat.le_of_ble_eq_true rfl⟩) (tg_preS hAm hA hw) rfl rfl hl.1 rfl (lv_room (Nat.le_of_ble_eq_true rfl)) dX6_isNoMeasure_6 ⟨Nat.le_of_ble_eq_true rfl, Nat.le_of_ble_eq_true rfl⟩) hA hw (fun H locs hw => ?_)
  exact tg_zret hx hb hr hlocks hw rfl (⟨rfl, rfl⟩) (Nat.le_of_ble_eq_true rfl) (Nat.le_of_ble_eq_true rfl) dX6_isNoMeasure_9
set_option maxHeartbeats 4000000 in
set_option maxRecDepth 100000 in
theorem lf_size (l : Launch) (E : rc_E) (sz : Nat) (G : tg_G) {t a aa n : Nat} {mc : Int32} (h1 : G t = some (a, .inr (0, [.int mc, .ref aa, .int (nI n)]))) : tg_M l yJx4a65c_size_8abf5 [Cond.code yJx4a65c_size_8abf5 cJx4a65c_size_8abf5 1 (some FieldType.int)] { frames := 0, cells := 0, slots := 0, locals := 0 } E [.ref a] G sz (tg_Qi E (fun r u => r = nI n ∧ u = G)) 0 0 := by
  refine tg_in (cc := cJx4a65c_size_8abf5) (maxL := 1) (ret := (some FieldType.int)) (tg_Qi E (fun r u => r = nI n ∧ u = G)) (by decide) rfl (Nat.le_of_ble_eq_true rfl) ?_
  intro p e s m args below meth cd ls A hx hb hr hml hown hlocks hin hA hAm hw hl
  have hown : s.vm.findClass RJx4a65c = some m.cls := hown
  have hl : lv_has ls 1 [(0, .ref a)] := hl
  refine lv_aload_n hx hb dJx4a65c_size_8abf5_0 rfl (lv_at hl 0 rfl) ?_
  refine tg_get (v := .int (nI n)) hx hb hown hAm hw lyJx4a65c h1 rfl 2 (by decide) qw_48 (fun _ h9 => h9) rfl dJx4a65c_size_8abf5_1 ?_
  exact tg_iret hx hb hr hlocks hw (⟨rfl, rfl⟩) (Nat.le_of_ble_eq_true rfl) (Nat.le_of_ble_eq_true rfl) dJx4a65c_size_8abf5_4
set_option maxHeartbeats 4000000 in
set_option maxRecDepth 100000 in
theorem lf_pci (l : Launch) (E : rc_E) (sz : Nat) (G : tg_G) {k n : Nat} (hk : k < n) (hn : n < 2 ^ 31) : tg_M l yJ3_checkIndex_8e157 [Cond.code yJ3_checkIndex_8e157 cJ3_checkIndex_8e157 3 (some FieldType.int)] { frames := 0, cells := 0, slots := 0, locals := 0 } E [.int (nI k), .int (nI n), .null] G sz (tg_Qi E (fun r u => r = nI k ∧ u = G)) 0 0 := by
  refine tg_in (cc := cJ3_checkIndex_8e157) (maxL := 3) (ret := (some FieldType.int)) (tg_Qi E (fun r u => r = nI k ∧ u = G)) (by decide) rfl (Nat.le_of_ble_eq_true rfl) ?_
  intro p e s m args below meth cd ls A hx hb hr hml hown hlocks hin hA hAm hw hl
  have hown : s.vm.findClass RJ3 = some m.cls := hown
  have hl : lv_has ls 3 [(0, .int (nI k)), (1, .int (nI n)), (2, .null)] := hl
  refine lv_iload_n hx hb dJ3_checkIndex_8e157_0 rfl (lv_at hl 0 rfl) ?_
  refine lv_if_lt (tgt := 9) hx hb dJ3_checkIndex_8e157_1 (by decide) (fun c9 => absurd c9 (fun z9 => absurd ((nI_ltI (a := k) (b := 0) (by omega) (by omega)).mp z9) (by omega))) (fun _ => ?_)
  refine lv_iload_n hx hb dJ3_checkIndex_8e157_4 rfl (lv_at hl 0 rfl) ?_
  refine lv_iload_n hx hb dJ3_checkIndex_8e157_5 rfl (lv_at hl 1 rfl) ?_
  refine lv_icmp_lt (tgt := 16) hx hb dJ3_checkIndex_8e157_6 (by decide) (fun _ => ?_) (fun c9 => absurd ((nI_ltI (a := k) (b := n) (by omega) (by omega)).mpr (by omega)) c9)
  refine lv_iload_n hx hb dJ3_checkIndex_8e157_16 rfl (lv_at hl 0 rfl) ?_
  exact tg_iret hx hb hr hlocks hw (⟨rfl, rfl⟩) (Nat.le_of_ble_eq_true rfl) (Nat.le_of_ble_eq_true rfl) dJ3_checkIndex_8e157_17
theorem hd_J3_checkIndex_8e157 : yJ3_checkIndex_8e157.cls ≠ "java/lang/invoke/MethodHandle" ∧ yJ3_checkIndex_8e157.cls ≠ "java/lang/invoke/VarHandle" ∧ (parseMethodDescriptor yJ3_checkIndex_8e157.desc).map (fun d => d.parameters.length) = some 3 := by decide +kernel
set_option maxHeartbeats 4000000 in
set_option maxRecDepth 100000 in
theorem lf_ci (l : Launch) (E : rc_E) (sz : Nat) (G : tg_G) {k n : Nat} (hk : k < n) (hn : n < 2 ^ 31) : tg_M l yJ15_checkIndex_7cf53 [Cond.code yJ15_checkIndex_7cf53 cJ15_checkIndex_7cf53 2 (some FieldType.int)] { frames := 1, cells := 0, slots := 0, locals := 22 } E [.int (nI k), .int (nI n)] G sz (tg_Qi E (fun r u => r = nI k ∧ u = G)) 0 0 := by
  refine tg_in (cc := cJ15_checkIndex_7cf53) (maxL := 2) (ret := (some FieldType.int)) (tg_Qi E (fun r u => r = nI k ∧ u = G)) (by decide) rfl (Nat.le_of_ble_eq_true rfl) ?_
  intro p e s m args below meth cd ls A hx hb hr hml hown hlocks hin hA hAm hw hl
  have hown : s.vm.findClass RJ15 = some m.cls := hown
  have hl : lv_has ls 2 [(0, .int (nI k)), (1, .int (nI n))] := hl
  refine lv_iload_n hx hb dJ15_checkIndex_7cf53_0 rfl (lv_at hl 0 rfl) ?_
  refine lv_iload_n hx hb dJ15_checkIndex_7cf53_1 rfl (lv_at hl 1 rfl) ?_
  refine lv_null hx hb dJ15_checkIndex_7cf53_2 ?_
  refine tg_callRi (va_runS (As := [.int (nI k), .int (nI n), .null]) (rest := []) (Ts := []) ⟨hx, hb, hml, hown, fun _ h9 => absurd h9 List.not_mem_nil⟩ (lf_pci l E _ G (k := k) (n := n) hk hn) (rc_cwS hAm qw_443 qw_20 qw_445 qw_444 rfl rfl hd_J3_checkIndex_8e157 ⟨Nat.le_of_ble_eq_true rfl, Nat.le_of_ble_eq_true rfl⟩) (tg_preS hAm hA hw) rfl rfl hl.1 rfl (lv_room (Nat.le_of_ble_eq_true rfl)) dJ15_checkIndex_7cf53_3 ⟨Nat.le_of_ble_eq_true rfl, Nat.le_of_ble_eq_true rfl⟩) hA hw (fun H locs hw => ?_)
  exact tg_iret hx hb hr hlocks hw (⟨rfl, rfl⟩) (Nat.le_of_ble_eq_true rfl) (Nat.le_of_ble_eq_true rfl) dJ15_checkIndex_7cf53_6
set_option maxHeartbeats 4000000 in
set_option maxRecDepth 100000 in
theorem lf_el (l : Launch) (E : rc_E) (sz : Nat) (G : tg_G) {t ta a aa n k cap y : Nat} {mc : Int32} {f : Nat → Option Nat} (hk : k < n) (hn : n ≤ cap) (hc : cap < 2 ^ 31) (hy : f k = some y) (h1 : G t = some (a, .inr (0, [.int mc, .ref aa, .int (nI n)]))) (h2 : G ta = some (aa, .inl (E.2.1 2, cap, .inr (.inr (.inr (.inr f)))))) : tg_M l yJx4a65c_elementData_915e3 [Cond.code yJx4a65c_elementData_915e3 cJx4a65c_elementData_915e3 2 (some (FieldType.object "java/lang/Object"))] { frames := 0, cells := 0, slots := 0, locals := 0 } E [.ref a, .int (nI k)] G sz (tg_Qr E (fun u r => r = y ∧ u = G)) 0 0 := by
  refine tg_in (cc := cJx4a65c_elementData_915e3) (maxL := 2) (ret := (some (FieldType.object "java/lang/Object"))) (tg_Qr E (fun u r => r = y ∧ u = G)) (by decide) rfl (Nat.le_of_ble_eq_true rfl) ?_
  intro p e s m args below meth cd ls A hx hb hr hml hown hlocks hin hA hAm hw hl
  have hown : s.vm.findClass RJx4a65c = some m.cls := hown
  have hl : lv_has ls 2 [(0, .ref a), (1, .int (nI k))] := hl
  refine lv_aload_n hx hb dJx4a65c_elementData_915e3_0 rfl (lv_at hl 0 rfl) ?_
  refine tg_get (v := .ref aa) hx hb hown hAm hw lyJx4a65c h1 rfl 1 (by decide) qw_47 (fun _ h9 => h9) rfl dJx4a65c_elementData_915e3_1 ?_
  refine lv_iload_n hx hb dJx4a65c_elementData_915e3_4 rfl (lv_at hl 1 rfl) ?_
  refine tg_qald hx hb hAm hw h2 (vp_in_nI (n := k) (N := cap) (by omega) (by omega)) dJx4a65c_elementData_915e3_5 ?_
  refine rc_topv (.ref y) (by rw [nI_clamp (by omega), hy]; rfl) ?_
  exact tg_aret hx hb hr (by first | exact Or.inl ⟨_, rfl⟩ | exact Or.inr ⟨_, rfl⟩) hlocks hw (⟨rfl, rfl⟩) (Nat.le_of_ble_eq_true rfl) (Nat.le_of_ble_eq_true rfl) dJx4a65c_elementData_915e3_6
theorem hd_J15_checkIndex_7cf53 : yJ15_checkIndex_7cf53.cls ≠ "java/lang/invoke/MethodHandle" ∧ yJ15_checkIndex_7cf53.cls ≠ "java/lang/invoke/VarHandle" ∧ (parseMethodDescriptor yJ15_checkIndex_7cf53.desc).map (fun d => d.parameters.length) = some 2 := by decide +kernel
theorem hd_Jx4a65c_elementData_915e3 : yJx4a65c_elementData_915e3.cls ≠ "java/lang/invoke/MethodHandle" ∧ yJx4a65c_elementData_915e3.cls ≠ "java/lang/invoke/VarHandle" ∧ (parseMethodDescriptor yJx4a65c_elementData_915e3.desc).map (fun d => d.parameters.length) = some 1 := by decide +kernel
set_option maxHeartbeats 4000000 in
set_option maxRecDepth 100000 in
theorem lf_get (l : Launch) (E : rc_E) (sz : Nat) (G : tg_G) {t ta a aa n k cap y : Nat} {mc : Int32} {f : Nat → Option Nat} (hk : k < n) (hn : n ≤ cap) (hc : cap < 2 ^ 31) (hy : f k = some y) (h1 : G t = some (a, .inr (0, [.int mc, .ref aa, .int (nI n)]))) (h2 : G ta = some (aa, .inl (E.2.1 2, cap, .inr (.inr (.inr (.inr f)))))) : tg_M l yJx4a65c_get_915e3 [Cond.code yJx4a65c_get_915e3 cJx4a65c_get_915e3 2 (some (FieldType.object "java/lang/Object"))] { frames := 2, cells := 0, slots := 0, locals := 43 } E [.ref a, .int (nI k)] G sz (tg_Qr E (fun u r => r = y ∧ u = G)) 0 0 := by
  refine tg_in (cc := cJx4a65c_get_915e3) (maxL := 2) (ret := (some (FieldType.object "java/lang/Object"))) (tg_Qr E (fun u r => r = y ∧ u = G)) (by decide) rfl (Nat.le_of_ble_eq_true rfl) ?_
  intro p e s m args below meth cd ls A hx hb hr hml hown hlocks hin hA hAm hw hl
  have hown : s.vm.findClass RJx4a65c = some m.cls := hown
  have hl : lv_has ls 2 [(0, .ref a), (1, .int (nI k))] := hl
  have hn3 : n < 2 ^ 31 := by omega
  refine lv_iload_n hx hb dJx4a65c_get_915e3_0 rfl (lv_at hl 1 rfl) ?_
  refine lv_aload_n hx hb dJx4a65c_get_915e3_1 rfl (lv_at hl 0 rfl) ?_
  refine tg_get (v := .int (nI n)) hx hb hown hAm hw lyJx4a65c h1 rfl 2 (by decide) qw_48 (fun _ h9 => h9) rfl dJx4a65c_get_915e3_2 ?_
  refine tg_callRi (va_runS (As := [.int (nI k), .int (nI n)]) (rest := []) (Ts := []) ⟨hx, hb, hml, hown, fun _ h9 => absurd h9 List.not_mem_nil⟩ (lf_ci l E _ G (k := k) (n := n) hk hn3) (rc_cwS hAm qw_440 qw_19 qw_442 qw_441 rfl rfl hd_J15_checkIndex_7cf53 ⟨Nat.le_of_ble_eq_true rfl, Nat.le_of_ble_eq_true rfl⟩) (tg_preS hAm hA hw) rfl rfl hl.1 rfl (lv_room (Nat.le_of_ble_eq_true rfl)) dJx4a65c_get_915e3_5 ⟨Nat.le_of_ble_eq_true rfl, Nat.le_of_ble_eq_true rfl⟩) hA hw (fun H locs hw => ?_)
  refine lv_pop hx hb dJx4a65c_get_915e3_8 rfl ?_
  refine lv_aload_n hx hb dJx4a65c_get_915e3_9 rfl (lv_at hl 0 rfl) ?_
  refine lv_iload_n hx hb dJx4a65c_get_915e3_10 rfl (lv_at hl 1 rfl) ?_
  refine tg_callRr (va_runV (As := [.int (nI k)]) (rest := []) (Ts := []) ⟨hx, hb, hml, hown, fun _ h9 => absurd h9 List.not_mem_nil⟩ (lf_el l E _ G hk hn hc hy h1 h2) (rc_cwV hAm qw_446 qw_4 qw_449 qw_447 qw_448 rfl rfl hd_Jx4a65c_elementData_915e3 ⟨Nat.le_of_ble_eq_true rfl, Nat.le_of_ble_eq_true rfl⟩) (tg_preV hAm hA hw h1 (q := vwCl[0]) rfl) rfl rfl hl.1 rfl (lv_room (Nat.le_of_ble_eq_true rfl)) dJx4a65c_get_915e3_11 ⟨Nat.le_of_ble_eq_true rfl, Nat.le_of_ble_eq_true rfl⟩) hA hw (fun H locs hw => ?_)
  exact tg_aret hx hb hr (by first | exact Or.inl ⟨_, rfl⟩ | exact Or.inr ⟨_, rfl⟩) hlocks hw (⟨rfl, rfl⟩) (Nat.le_of_ble_eq_true rfl) (Nat.le_of_ble_eq_true rfl) dJx4a65c_get_915e3_14
set_option maxHeartbeats 4000000 in
set_option maxRecDepth 100000 in
theorem lf_counts (l : Launch) (E : rc_E) (sz : Nat) (G : tg_G) {t tm a ma : Nat} {c ti w st : Int32} {m0 m1 m2 m3 m4 m5 m6 m7 : Int32} (h1 : G t = some (a, .inr (5, [.int c, .ref ma, .int ti, .int w, .int st]))) (h2 : G tm = some (ma, .inr (4, [.int m0, .int m1, .int m2, .int m3, .int m4, .int m5, .int m6, .int m7]))) : tg_M l yX4_isCounting [Cond.code yX4_isCounting cX4_isCounting 1 (some FieldType.boolean)] { frames := 0, cells := 0, slots := 0, locals := 0 } E [.ref a] G sz (tg_Qi E (fun r u => r = nI (cN st m7) ∧ u = G)) 0 0 := by
  refine tg_in (cc := cX4_isCounting) (maxL := 1) (ret := (some FieldType.boolean)) (tg_Qi E (fun r u => r = nI (cN st m7) ∧ u = G)) (by decide) rfl (Nat.le_of_ble_eq_true rfl) ?_
  intro p e s m args below meth cd ls A hx hb hr hml hown hlocks hin hA hAm hw hl
  have hown : s.vm.findClass RX4 = some m.cls := hown
  have hl : lv_has ls 1 [(0, .ref a)] := hl
  refine lv_aload_n hx hb dX4_isCounting_0 rfl (lv_at hl 0 rfl) ?_
  refine tg_get (v := .int st) hx hb hown hAm hw lyX4 h1 rfl 4 (by decide) qw_744 (fun _ h9 => h9) rfl dX4_isCounting_1 ?_
  refine lv_if_ne (tgt := 21) hx hb dX4_isCounting_4 (by decide) (fun c_1 => ?_) (fun c_1 => ?_)
  · refine lv_iconst (v := 0) hx hb dX4_isCounting_21 (by decide) ?_
    exact tg_zret hx hb hr hlocks hw rfl (⟨by rw [cN_s c_1]; rfl, rfl⟩) (Nat.le_of_ble_eq_true rfl) (Nat.le_of_ble_eq_true rfl) dX4_isCounting_22
  · refine lv_aload_n hx hb dX4_isCounting_7 rfl (lv_at hl 0 rfl) ?_
    refine tg_get (v := .ref ma) hx hb hown hAm hw lyX4 h1 rfl 1 (by decide) qw_736 (fun _ h9 => h9) rfl dX4_isCounting_8 ?_
    refine tg_getN (v := .int m7) hx hb hown hAm hw lyX3 h2 rfl 7 (by decide) qw_382 (fun _ h9 => h9) rfl dX4_isCounting_11 ?_
    refine lv_if_ne (tgt := 21) hx hb dX4_isCounting_14 (by decide) (fun c_2 => ?_) (fun c_2 => ?_)
    · refine lv_iconst (v := 0) hx hb dX4_isCounting_21 (by decide) ?_
      exact tg_zret hx hb hr hlocks hw rfl (⟨by rw [cN_a c_2]; rfl, rfl⟩) (Nat.le_of_ble_eq_true rfl) (Nat.le_of_ble_eq_true rfl) dX4_isCounting_22
    · refine lv_iconst (v := 1) hx hb dX4_isCounting_17 (by decide) ?_
      refine lv_goto (tgt := 22) hx hb dX4_isCounting_18 (by decide) ?_
      exact tg_zret hx hb hr hlocks hw rfl (⟨by rw [cN_1 c_1 c_2]; rfl, rfl⟩) (Nat.le_of_ble_eq_true rfl) (Nat.le_of_ble_eq_true rfl) dX4_isCounting_22
set_option maxHeartbeats 4000000 in
set_option maxRecDepth 100000 in
theorem lf_drifts (l : Launch) (E : rc_E) (sz : Nat) (G : tg_G) {t a : Nat} {m0 m1 m2 m3 m4 m5 m6 m7 : Int32} (h1 : G t = some (a, .inr (4, [.int m0, .int m1, .int m2, .int m3, .int m4, .int m5, .int m6, .int m7]))) : tg_M l yX3_drifts [Cond.code yX3_drifts cX3_drifts 3 (some FieldType.boolean)] { frames := 1, cells := 0, slots := 0, locals := 14 } E [.ref a] G sz (tg_Qi E (fun r u => (r = 0 ∨ r = 1) ∧ u = G)) 0 0 := by
  refine tg_in (cc := cX3_drifts) (maxL := 3) (ret := (some FieldType.boolean)) (tg_Qi E (fun r u => (r = 0 ∨ r = 1) ∧ u = G)) (by decide) rfl (Nat.le_of_ble_eq_true rfl) ?_
  intro p e s m args below meth cd ls A hx hb hr hml hown hlocks hin hA hAm hw hl
  have hown : s.vm.findClass RX3 = some m.cls := hown
  have hl : lv_has ls 3 [(0, .ref a)] := hl
  refine lv_aload_n hx hb dX3_drifts_0 rfl (lv_at hl 0 rfl) ?_
  refine tg_get (v := .int m2) hx hb hown hAm hw lyX3 h1 rfl 2 (by decide) qw_373 (fun _ h9 => h9) rfl dX3_drifts_1 ?_
  refine lv_aload_n hx hb dX3_drifts_4 rfl (lv_at hl 0 rfl) ?_
  refine tg_get (v := .int m3) hx hb hown hAm hw lyX3 h1 rfl 3 (by decide) qw_375 (fun _ h9 => h9) rfl dX3_drifts_5 ?_
  refine lv_aload_n hx hb dX3_drifts_8 rfl (lv_at hl 0 rfl) ?_
  refine tg_get (v := .int m4) hx hb hown hAm hw lyX3 h1 rfl 4 (by decide) qw_376 (fun _ h9 => h9) rfl dX3_drifts_9 ?_
  refine va_mmax hx hb (by rw [hml]; exact hl.1.symm) hown (hAm.wd qw_665 rfl rfl) (hAm.wd qw_187 rfl rfl) (hAm.wd qw_10 rfl rfl) (hAm.wd qw_188 rfl rfl) (Nat.le_of_ble_eq_true rfl) (Nat.le_of_ble_eq_true rfl) (Nat.le_of_ble_eq_true rfl) (Nat.le_of_ble_eq_true rfl) dX3_drifts_12 ?_
  refine va_mmax hx hb (by rw [hml]; exact hl.1.symm) hown (hAm.wd qw_665 rfl rfl) (hAm.wd qw_187 rfl rfl) (hAm.wd qw_10 rfl rfl) (hAm.wd qw_188 rfl rfl) (Nat.le_of_ble_eq_true rfl) (Nat.le_of_ble_eq_true rfl) (Nat.le_of_ble_eq_true rfl) (Nat.le_of_ble_eq_true rfl) dX3_drifts_15 ?_
  refine lv_istore_n (lv' := [(1, .int (if m2 < (if m3 < m4 then m4 else m3) then (if m3 < m4 then m4 else m3) else m2)), (0, .ref a)]) hx hb dX3_drifts_18 rfl hl (by decide) rfl (fun ls hl => ?_)
  refine lv_aload_n hx hb dX3_drifts_19 rfl (lv_at hl 1 rfl) ?_
  refine tg_get (v := .int m2) hx hb hown hAm hw lyX3 h1 rfl 2 (by decide) qw_373 (fun _ h9 => h9) rfl dX3_drifts_20 ?_
  refine lv_aload_n hx hb dX3_drifts_23 rfl (lv_at hl 1 rfl) ?_
  refine tg_get (v := .int m3) hx hb hown hAm hw lyX3 h1 rfl 3 (by decide) qw_375 (fun _ h9 => h9) rfl dX3_drifts_24 ?_
  refine lv_aload_n hx hb dX3_drifts_27 rfl (lv_at hl 1 rfl) ?_
  refine tg_get (v := .int m4) hx hb hown hAm hw lyX3 h1 rfl 4 (by decide) qw_376 (fun _ h9 => h9) rfl dX3_drifts_28 ?_
  refine va_mmin hx hb (by rw [hml]; exact hl.1.symm) hown (hAm.wd qw_666 rfl rfl) (hAm.wd qw_218 rfl rfl) (hAm.wd qw_10 rfl rfl) (hAm.wd qw_219 rfl rfl) (Nat.le_of_ble_eq_true rfl) (Nat.le_of_ble_eq_true rfl) (Nat.le_of_ble_eq_true rfl) (Nat.le_of_ble_eq_true rfl) dX3_drifts_31 ?_
  refine va_mmin hx hb (by rw [hml]; exact hl.1.symm) hown (hAm.wd qw_666 rfl rfl) (hAm.wd qw_218 rfl rfl) (hAm.wd qw_10 rfl rfl) (hAm.wd qw_219 rfl rfl) (Nat.le_of_ble_eq_true rfl) (Nat.le_of_ble_eq_true rfl) (Nat.le_of_ble_eq_true rfl) (Nat.le_of_ble_eq_true rfl) dX3_drifts_34 ?_
  refine lv_istore_n (lv' := [(2, .int (if (if m4 < m3 then m4 else m3) < m2 then (if m4 < m3 then m4 else m3) else m2)), (1, .int (if m2 < (if m3 < m4 then m4 else m3) then (if m3 < m4 then m4 else m3) else m2)), (0, .ref a)]) hx hb dX3_drifts_37 rfl hl (by decide) rfl (fun ls hl => ?_)
  refine lv_iload_n hx hb dX3_drifts_38 rfl (lv_at hl 1 rfl) ?_
  refine lv_bipush (v := 100) hx hb dX3_drifts_39 (by decide) ?_
  refine lv_imul hx hb dX3_drifts_41 ?_
  refine lv_iload_n hx hb dX3_drifts_42 rfl (lv_at hl 0 rfl) ?_
  refine lv_bipush (v := 110) hx hb dX3_drifts_43 (by decide) ?_
  refine lv_imul hx hb dX3_drifts_45 ?_
  refine lv_icmp_le (tgt := 53) hx hb dX3_drifts_46 (by decide) (fun c_1 => ?_) (fun c_1 => ?_)
  · refine lv_iconst (v := 0) hx hb dX3_drifts_53 (by decide) ?_
    exact tg_zret hx hb hr hlocks hw rfl (⟨Or.inl rfl, rfl⟩) (Nat.le_of_ble_eq_true rfl) (Nat.le_of_ble_eq_true rfl) dX3_drifts_54
  · refine lv_iconst (v := 1) hx hb dX3_drifts_49 (by decide) ?_
    refine lv_goto (tgt := 54) hx hb dX3_drifts_50 (by decide) ?_
    exact tg_zret hx hb hr hlocks hw rfl (⟨Or.inr rfl, rfl⟩) (Nat.le_of_ble_eq_true rfl) (Nat.le_of_ble_eq_true rfl) dX3_drifts_54
theorem hd_X3_drifts : yX3_drifts.cls ≠ "java/lang/invoke/MethodHandle" ∧ yX3_drifts.cls ≠ "java/lang/invoke/VarHandle" ∧ (parseMethodDescriptor yX3_drifts.desc).map (fun d => d.parameters.length) = some 0 := by decide +kernel
set_option maxHeartbeats 4000000 in
set_option maxRecDepth 100000 in
theorem lf_take (l : Launch) (E : rc_E) (sz : Nat) (G : tg_G) {t a : Nat} {m0 m1 m2 m3 m4 m5 m6 m7 : Int32} (x : Int32) (h1 : G t = some (a, .inr (4, [.int m0, .int m1, .int m2, .int m3, .int m4, .int m5, .int m6, .int m7]))) : tg_M l yX3_take [Cond.code yX3_take cX3_take 2 (none : Option FieldType)] { frames := 2, cells := 0, slots := 0, locals := 36 } E [.ref a, .int x] G sz (tg_Qv E (fun u => ∃ d : Int32, (d = 0 ∨ d = 1) ∧ u t = some (a, .inr (4, [.int m0, .int m1, .int x, .int m2, .int m3, .int (m5 + 1), .int m6, .int d])) ∧ ∀ t9, t9 ≠ t → u t9 = G t9)) 0 0 := by
  refine tg_in (cc := cX3_take) (maxL := 2) (ret := (none : Option FieldType)) (tg_Qv E (fun u => ∃ d : Int32, (d = 0 ∨ d = 1) ∧ u t = some (a, .inr (4, [.int m0, .int m1, .int x, .int m2, .int m3, .int (m5 + 1), .int m6, .int d])) ∧ ∀ t9, t9 ≠ t → u t9 = G t9)) (by decide) rfl (Nat.le_of_ble_eq_true rfl) ?_
  intro p e s m args below meth cd ls A hx hb hr hml hown hlocks hin hA hAm hw hl
  have hown : s.vm.findClass RX3 = some m.cls := hown
  have hl : lv_has ls 2 [(0, .ref a), (1, .int x)] := hl
  refine lv_aload_n hx hb dX3_take_0 rfl (lv_at hl 0 rfl) ?_
  refine lv_aload_n hx hb dX3_take_1 rfl (lv_at hl 0 rfl) ?_
  refine tg_get (v := .int m3) hx hb hown hAm hw lyX3 h1 rfl 3 (by decide) qw_375 (fun _ h9 => h9) rfl dX3_take_2 ?_
  refine tg_put hx hb hown hAm hw lyX3 tyX3 tyX3_ok nmX3 h1 rfl 4 (by decide) qw_376 (fun _ h9 => h9) rfl rfl rfl (Nat.le_of_ble_eq_true rfl) dX3_take_5 (fun G_1 H locs g_2 o_3 hw => ?_)
  have h1 : G_1 t = some (a, .inr (4, [.int m0, .int m1, .int m2, .int m3, .int m3, .int m5, .int m6, .int m7])) := g_2
  refine lv_aload_n hx hb dX3_take_8 rfl (lv_at hl 0 rfl) ?_
  refine lv_aload_n hx hb dX3_take_9 rfl (lv_at hl 0 rfl) ?_
  refine tg_get (v := .int m2) hx hb hown hAm hw lyX3 h1 rfl 2 (by decide) qw_373 (fun _ h9 => h9) rfl dX3_take_10 ?_
  refine tg_put hx hb hown hAm hw lyX3 tyX3 tyX3_ok nmX3 h1 rfl 3 (by decide) qw_375 (fun _ h9 => h9) rfl rfl rfl (Nat.le_of_ble_eq_true rfl) dX3_take_13 (fun G_4 H locs g_5 o_6 hw => ?_)
  have h1 : G_4 t = some (a, .inr (4, [.int m0, .int m1, .int m2, .int m2, .int m3, .int m5, .int m6, .int m7])) := g_5
  refine lv_aload_n hx hb dX3_take_16 rfl (lv_at hl 0 rfl) ?_
  refine lv_iload_n hx hb dX3_take_17 rfl (lv_at hl 1 rfl) ?_
  refine tg_put hx hb hown hAm hw lyX3 tyX3 tyX3_ok nmX3 h1 rfl 2 (by decide) qw_373 (fun _ h9 => h9) rfl rfl rfl (Nat.le_of_ble_eq_true rfl) dX3_take_18 (fun G_7 H locs g_8 o_9 hw => ?_)
  have h1 : G_7 t = some (a, .inr (4, [.int m0, .int m1, .int x, .int m2, .int m3, .int m5, .int m6, .int m7])) := g_8
  refine lv_aload_n hx hb dX3_take_21 rfl (lv_at hl 0 rfl) ?_
  refine lv_dup hx hb dX3_take_22 rfl ?_
  refine tg_get (v := .int m5) hx hb hown hAm hw lyX3 h1 rfl 5 (by decide) qw_377 (fun _ h9 => h9) rfl dX3_take_23 ?_
  refine lv_iconst (v := 1) hx hb dX3_take_26 (by decide) ?_
  refine lv_iadd hx hb dX3_take_27 ?_
  refine tg_put hx hb hown hAm hw lyX3 tyX3 tyX3_ok nmX3 h1 rfl 5 (by decide) qw_377 (fun _ h9 => h9) rfl rfl rfl (Nat.le_of_ble_eq_true rfl) dX3_take_28 (fun G_10 H locs g_11 o_12 hw => ?_)
  have h1 : G_10 t = some (a, .inr (4, [.int m0, .int m1, .int x, .int m2, .int m3, .int (m5 + 1), .int m6, .int m7])) := g_11
  refine lv_aload_n hx hb dX3_take_31 rfl (lv_at hl 0 rfl) ?_
  refine lv_aload_n hx hb dX3_take_32 rfl (lv_at hl 0 rfl) ?_
  refine tg_calli (va_runV (As := []) (rest := [.ref a]) (Ts := []) ⟨hx, hb, hml, hown, fun _ h9 => absurd h9 List.not_mem_nil⟩ (lf_drifts l E _ G_10 h1) (rc_cwV hAm qw_661 qw_18 qw_664 qw_663 qs_45 rfl rfl hd_X3_drifts ⟨Nat.le_of_ble_eq_true rfl, Nat.le_of_ble_eq_true rfl⟩) (tg_preV hAm hA hw h1 (q := vwCl[4]) rfl) rfl rfl hl.1 rfl (lv_room (Nat.le_of_ble_eq_true rfl)) dX3_take_33 ⟨Nat.le_of_ble_eq_true rfl, Nat.le_of_ble_eq_true rfl⟩) hA hw (fun r_14 G_13 H locs hp hw => ?_)
  obtain ⟨hd, hu⟩ := hp
  rw [hu] at hw
  rcases hd with rfl | rfl
  · refine tg_put hx hb hown hAm hw lyX3 tyX3 tyX3_ok nmX3 h1 rfl 7 (by decide) qw_381 (fun _ h9 => h9) rfl (by decide +kernel) (by decide +kernel) (Nat.le_of_ble_eq_true rfl) dX3_take_36 (fun G_15 H locs g_16 o_17 hw => ?_)
    have h1 : G_15 t = some (a, .inr (4, [.int m0, .int m1, .int x, .int m2, .int m3, .int (m5 + 1), .int m6, .int 0])) := g_16
    exact tg_vret hx hb hr hlocks hw (⟨0, by decide, h1, (fun t9 h9 => (o_17 t9 (by omega)).trans ((o_12 t9 (by omega)).trans ((o_9 t9 (by omega)).trans ((o_6 t9 (by omega)).trans ((o_3 t9 (by omega)))))))⟩) (Nat.le_of_ble_eq_true rfl) (Nat.le_of_ble_eq_true rfl) dX3_take_39
  · refine tg_put hx hb hown hAm hw lyX3 tyX3 tyX3_ok nmX3 h1 rfl 7 (by decide) qw_381 (fun _ h9 => h9) rfl (by decide +kernel) (by decide +kernel) (Nat.le_of_ble_eq_true rfl) dX3_take_36 (fun G_18 H locs g_19 o_20 hw => ?_)
    have h1 : G_18 t = some (a, .inr (4, [.int m0, .int m1, .int x, .int m2, .int m3, .int (m5 + 1), .int m6, .int 1])) := g_19
    exact tg_vret hx hb hr hlocks hw (⟨1, by decide, h1, (fun t9 h9 => (o_20 t9 (by omega)).trans ((o_12 t9 (by omega)).trans ((o_9 t9 (by omega)).trans ((o_6 t9 (by omega)).trans ((o_3 t9 (by omega)))))))⟩) (Nat.le_of_ble_eq_true rfl) (Nat.le_of_ble_eq_true rfl) dX3_take_39
set_option maxHeartbeats 4000000 in
set_option maxRecDepth 100000 in
theorem lf_worthOf (l : Launch) (E : rc_E) (sz : Nat) (G : tg_G) {t a sc ti : Nat} {m0 m1 m3 m4 m5 m6 m7 : Int32} (h0 : 0 < sc) (hs : sc < 2 ^ 31) (ht : ti < 20000) (h1 : G t = some (a, .inr (4, [.int m0, .int m1, .int (nI sc), .int m3, .int m4, .int m5, .int m6, .int m7]))) : tg_M l yX3_worthOf [Cond.code yX3_worthOf cX3_worthOf 2 (some FieldType.int)] { frames := 0, cells := 0, slots := 0, locals := 0 } E [.ref a, .int (nI ti)] G sz (tg_Qi E (fun r u => r = nI (ti * 100 / sc) ∧ u = G)) 0 0 := by
  refine tg_in (cc := cX3_worthOf) (maxL := 2) (ret := (some FieldType.int)) (tg_Qi E (fun r u => r = nI (ti * 100 / sc) ∧ u = G)) (by decide) rfl (Nat.le_of_ble_eq_true rfl) ?_
  intro p e s m args below meth cd ls A hx hb hr hml hown hlocks hin hA hAm hw hl
  have hown : s.vm.findClass RX3 = some m.cls := hown
  have hl : lv_has ls 2 [(0, .ref a), (1, .int (nI ti))] := hl
  have hw9 : ti * 100 / sc ≤ ti * 100 := Nat.div_le_self _ _
  refine lv_aload_n hx hb dX3_worthOf_0 rfl (lv_at hl 0 rfl) ?_
  refine tg_get (v := .int (nI sc)) hx hb hown hAm hw lyX3 h1 rfl 2 (by decide) qw_373 (fun _ h9 => h9) rfl dX3_worthOf_1 ?_
  refine lv_if_le (tgt := 19) hx hb dX3_worthOf_4 (by decide) (fun c9 => absurd c9 (fun z9 => absurd ((nI_leI (a := sc) (b := 0) (by omega) (by omega)).mp z9) (by omega))) (fun _ => ?_)
  refine lv_iload_n hx hb dX3_worthOf_7 rfl (lv_at hl 1 rfl) ?_
  refine lv_bipush (v := 100) hx hb dX3_worthOf_8 (by decide) ?_
  refine lv_imul hx hb dX3_worthOf_10 ?_
  refine rc_topi (nI (ti * 100)) (pk_mul ti 100) ?_
  refine lv_aload_n hx hb dX3_worthOf_11 rfl (lv_at hl 0 rfl) ?_
  refine tg_get (v := .int (nI sc)) hx hb hown hAm hw lyX3 h1 rfl 2 (by decide) qw_373 (fun _ h9 => h9) rfl dX3_worthOf_12 ?_
  refine lv_idiv hx hb dX3_worthOf_15 (fun z9 => absurd ((nI_eq (a := sc) (b := 0) (by omega) (by omega)).mp z9) (by omega)) ?_
  refine rc_topi (nI (ti * 100 / sc)) (pk_div (by omega) (by omega) (by omega)) ?_
  refine lv_goto (tgt := 20) hx hb dX3_worthOf_16 (by decide) ?_
  exact tg_iret hx hb hr hlocks hw (⟨rfl, rfl⟩) (Nat.le_of_ble_eq_true rfl) (Nat.le_of_ble_eq_true rfl) dX3_worthOf_20
set_option maxHeartbeats 4000000 in
set_option maxRecDepth 100000 in
theorem lf_open (l : Launch) (E : rc_E) (sz : Nat) (G : tg_G) {t a : Nat} {b0 b1 b2 b3 : Int32} (x y : Int32) (h1 : G t = some (a, .inr (1, [.int b0, .int b1, .int b2, .int b3]))) : tg_M l yX0_open [Cond.code yX0_open cX0_open 3 (none : Option FieldType)] { frames := 0, cells := 0, slots := 0, locals := 0 } E [.ref a, .int x, .int y] G sz (tg_Qv E (fun u => u t = some (a, .inr (1, [.int 1, .int x, .int y, .int b3])) ∧ ∀ t9, t9 ≠ t → u t9 = G t9)) 0 0 := by
  refine tg_in (cc := cX0_open) (maxL := 3) (ret := (none : Option FieldType)) (tg_Qv E (fun u => u t = some (a, .inr (1, [.int 1, .int x, .int y, .int b3])) ∧ ∀ t9, t9 ≠ t → u t9 = G t9)) (by decide) rfl (Nat.le_of_ble_eq_true rfl) ?_
  intro p e s m args below meth cd ls A hx hb hr hml hown hlocks hin hA hAm hw hl
  have hown : s.vm.findClass RX0 = some m.cls := hown
  have hl : lv_has ls 3 [(0, .ref a), (1, .int x), (2, .int y)] := hl
  refine lv_aload_n hx hb dX0_open_0 rfl (lv_at hl 0 rfl) ?_
  refine lv_iconst (v := 1) hx hb dX0_open_1 (by decide) ?_
  refine tg_put hx hb hown hAm hw lyX0 tyX0 tyX0_ok nmX0 h1 rfl 0 (by decide) qw_150 (fun _ h9 => h9) rfl (by decide +kernel) (by decide +kernel) (Nat.le_of_ble_eq_true rfl) dX0_open_2 (fun G_1 H locs g_2 o_3 hw => ?_)
  have h1 : G_1 t = some (a, .inr (1, [.int 1, .int b1, .int b2, .int b3])) := g_2
  refine lv_aload_n hx hb dX0_open_5 rfl (lv_at hl 0 rfl) ?_
  refine lv_iload_n hx hb dX0_open_6 rfl (lv_at hl 1 rfl) ?_
  refine tg_put hx hb hown hAm hw lyX0 tyX0 tyX0_ok nmX0 h1 rfl 1 (by decide) qw_152 (fun _ h9 => h9) rfl rfl rfl (Nat.le_of_ble_eq_true rfl) dX0_open_7 (fun G_4 H locs g_5 o_6 hw => ?_)
  have h1 : G_4 t = some (a, .inr (1, [.int 1, .int x, .int b2, .int b3])) := g_5
  refine lv_aload_n hx hb dX0_open_10 rfl (lv_at hl 0 rfl) ?_
  refine lv_iload_n hx hb dX0_open_11 rfl (lv_at hl 2 rfl) ?_
  refine tg_put hx hb hown hAm hw lyX0 tyX0 tyX0_ok nmX0 h1 rfl 2 (by decide) qw_154 (fun _ h9 => h9) rfl rfl rfl (Nat.le_of_ble_eq_true rfl) dX0_open_12 (fun G_7 H locs g_8 o_9 hw => ?_)
  have h1 : G_7 t = some (a, .inr (1, [.int 1, .int x, .int y, .int b3])) := g_8
  exact tg_vret hx hb hr hlocks hw (⟨h1, (fun t9 h9 => (o_9 t9 (by omega)).trans ((o_6 t9 (by omega)).trans ((o_3 t9 (by omega)))))⟩) (Nat.le_of_ble_eq_true rfl) (Nat.le_of_ble_eq_true rfl) dX0_open_15
set_option maxHeartbeats 4000000 in
set_option maxRecDepth 100000 in
theorem lf_close (l : Launch) (E : rc_E) (sz : Nat) (G : tg_G) {t a : Nat} {b0 b1 b2 b3 : Int32} (h1 : G t = some (a, .inr (1, [.int b0, .int b1, .int b2, .int b3]))) : tg_M l yX0_close [Cond.code yX0_close cX0_close 1 (none : Option FieldType)] { frames := 0, cells := 0, slots := 0, locals := 0 } E [.ref a] G sz (tg_Qv E (fun u => u t = some (a, .inr (1, [.int 0, .int (-1), .int (-1), .int (-1)])) ∧ ∀ t9, t9 ≠ t → u t9 = G t9)) 0 0 := by
  refine tg_in (cc := cX0_close) (maxL := 1) (ret := (none : Option FieldType)) (tg_Qv E (fun u => u t = some (a, .inr (1, [.int 0, .int (-1), .int (-1), .int (-1)])) ∧ ∀ t9, t9 ≠ t → u t9 = G t9)) (by decide) rfl (Nat.le_of_ble_eq_true rfl) ?_
  intro p e s m args below meth cd ls A hx hb hr hml hown hlocks hin hA hAm hw hl
  have hown : s.vm.findClass RX0 = some m.cls := hown
  have hl : lv_has ls 1 [(0, .ref a)] := hl
  refine lv_aload_n hx hb dX0_close_0 rfl (lv_at hl 0 rfl) ?_
  refine lv_iconst (v := 0) hx hb dX0_close_1 (by decide) ?_
  refine tg_put hx hb hown hAm hw lyX0 tyX0 tyX0_ok nmX0 h1 rfl 0 (by decide) qw_150 (fun _ h9 => h9) rfl (by decide +kernel) (by decide +kernel) (Nat.le_of_ble_eq_true rfl) dX0_close_2 (fun G_1 H locs g_2 o_3 hw => ?_)
  have h1 : G_1 t = some (a, .inr (1, [.int 0, .int b1, .int b2, .int b3])) := g_2
  refine lv_aload_n hx hb dX0_close_5 rfl (lv_at hl 0 rfl) ?_
  refine lv_iconst (v := (-1)) hx hb dX0_close_6 (by decide) ?_
  refine tg_put hx hb hown hAm hw lyX0 tyX0 tyX0_ok nmX0 h1 rfl 1 (by decide) qw_152 (fun _ h9 => h9) rfl rfl (by decide +kernel) (Nat.le_of_ble_eq_true rfl) dX0_close_7 (fun G_4 H locs g_5 o_6 hw => ?_)
  have h1 : G_4 t = some (a, .inr (1, [.int 0, .int (-1), .int b2, .int b3])) := g_5
  refine lv_aload_n hx hb dX0_close_10 rfl (lv_at hl 0 rfl) ?_
  refine lv_iconst (v := (-1)) hx hb dX0_close_11 (by decide) ?_
  refine tg_put hx hb hown hAm hw lyX0 tyX0 tyX0_ok nmX0 h1 rfl 2 (by decide) qw_154 (fun _ h9 => h9) rfl rfl (by decide +kernel) (Nat.le_of_ble_eq_true rfl) dX0_close_12 (fun G_7 H locs g_8 o_9 hw => ?_)
  have h1 : G_7 t = some (a, .inr (1, [.int 0, .int (-1), .int (-1), .int b3])) := g_8
  refine lv_aload_n hx hb dX0_close_15 rfl (lv_at hl 0 rfl) ?_
  refine lv_iconst (v := (-1)) hx hb dX0_close_16 (by decide) ?_
  refine tg_put hx hb hown hAm hw lyX0 tyX0 tyX0_ok nmX0 h1 rfl 3 (by decide) qw_156 (fun _ h9 => h9) rfl rfl (by decide +kernel) (Nat.le_of_ble_eq_true rfl) dX0_close_17 (fun G_10 H locs g_11 o_12 hw => ?_)
  have h1 : G_10 t = some (a, .inr (1, [.int 0, .int (-1), .int (-1), .int (-1)])) := g_11
  exact tg_vret hx hb hr hlocks hw (⟨h1, (fun t9 h9 => (o_12 t9 (by omega)).trans ((o_9 t9 (by omega)).trans ((o_6 t9 (by omega)).trans ((o_3 t9 (by omega))))))⟩) (Nat.le_of_ble_eq_true rfl) (Nat.le_of_ble_eq_true rfl) dX0_close_20
