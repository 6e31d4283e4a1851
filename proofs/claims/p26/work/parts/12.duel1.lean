theorem hd_X5_worthAt : yX5_worthAt.cls ≠ "java/lang/invoke/MethodHandle" ∧ yX5_worthAt.cls ≠ "java/lang/invoke/VarHandle" ∧ (parseMethodDescriptor yX5_worthAt.desc).map (fun d => d.parameters.length) = some 1 := by decide +kernel
set_option maxHeartbeats 4000000 in
set_option maxRecDepth 100000 in
theorem du_lay (l : Launch) (E : rc_E) (sz : Nat) (G : tg_G) {d fa sa la wa : Nat} {u5 u6 u7 u8 u9 : Int32} {P : List Nat} {g : Nat → Int32} {t ss sb : Nat} {L : List Nat} {fs : Nat → Int32} (hg : ∀ i9, i9 < P.length → g i9 = nI (P.getD i9 0)) (hfs : ∀ i9, i9 < L.length → fs i9 = nI (L.getD i9 0)) (hL : L.length ≤ 6) (hPL : P.length + L.length ≤ 12) (ht : 17 < t ∧ t + 1 < 22) (h1 : G 17 = some (d, .inr (3, [.ref fa, .ref sa, .ref la, .ref wa, .int (nI P.length), .int u5, .int u6, .int u7, .int u8, .int u9]))) (h2 : G 22 = some (la, .inl (E.2.1 0, 12, .inl g))) (h3 : G t = some (ss, .inr (6, [.ref sb, .int (nI L.length)]))) (h4 : G (t + 1) = some (sb, .inl (E.2.1 0, 6, .inl fs))) : tg_M l yX2_lay [Cond.code yX2_lay cX2_lay 3 (none : Option FieldType)] { frames := 1, cells := 0, slots := 0, locals := 21 } E [.ref d, .ref ss] G sz (tg_Qv E (fun u => u 17 = some (d, .inr (3, [.ref fa, .ref sa, .ref la, .ref wa, .int (nI (P.length + L.length)), .int u5, .int u6, .int u7, .int u8, .int u9])) ∧ (∃ g2 : Nat → Int32, u 22 = some (la, .inl (E.2.1 0, 12, .inl g2)) ∧ ∀ i9, i9 < (P ++ L).length → g2 i9 = nI ((P ++ L).getD i9 0)) ∧ ∀ t9, t9 ≠ 17 → t9 ≠ 22 → u t9 = G t9)) 0 0 := by
  refine tg_in (cc := cX2_lay) (maxL := 3) (ret := (none : Option FieldType)) (tg_Qv E (fun u => u 17 = some (d, .inr (3, [.ref fa, .ref sa, .ref la, .ref wa, .int (nI (P.length + L.length)), .int u5, .int u6, .int u7, .int u8, .int u9])) ∧ (∃ g2 : Nat → Int32, u 22 = some (la, .inl (E.2.1 0, 12, .inl g2)) ∧ ∀ i9, i9 < (P ++ L).length → g2 i9 = nI ((P ++ L).getD i9 0)) ∧ ∀ t9, t9 ≠ 17 → t9 ≠ 22 → u t9 = G t9)) (by decide) rfl (Nat.le_of_ble_eq_true rfl) ?_
  intro p e s m args below meth cd ls A hx hb hr hml hown hlocks hin hA hAm hw hl
  have hown : s.vm.findClass RX2 = some m.cls := hown
  have hl : lv_has ls 3 [(0, .ref d), (1, .ref ss)] := hl
  have loop : ∀ (r k : Nat) (g1 : Nat → Int32) (ls : Array Slot) (G1 : tg_G) (H : Heap) (locs : List Loc), k + r = L.length → (∀ i9, i9 < P.length + k → g1 i9 = nI ((P ++ L).getD i9 0)) → G1 17 = some (d, .inr (3, [.ref fa, .ref sa, .ref la, .ref wa, .int (nI (P.length + k)), .int u5, .int u6, .int u7, .int u8, .int u9])) → G1 22 = some (la, .inl (E.2.1 0, 12, .inl g1)) → G1 t = some (ss, .inr (6, [.ref sb, .int (nI L.length)])) → G1 (t + 1) = some (sb, .inl (E.2.1 0, 6, .inl fs)) → (∀ t9, t9 ≠ 17 → t9 ≠ 22 → G1 t9 = G t9) → tg_W E A s G1 H locs → lv_has ls 3 [(2, .int (nI k)), (0, .ref d), (1, .ref ss)] → W p l e { frames := 1, cells := 0, slots := 0, locals := 21 } s m args below meth cd H locs 0 0 (MQ below ((tg_Qv E (fun u => u 17 = some (d, .inr (3, [.ref fa, .ref sa, .ref la, .ref wa, .int (nI (P.length + L.length)), .int u5, .int u6, .int u7, .int u8, .int u9])) ∧ (∃ g2 : Nat → Int32, u 22 = some (la, .inl (E.2.1 0, 12, .inl g2)) ∧ ∀ i9, i9 < (P ++ L).length → g2 i9 = nI ((P ++ L).getD i9 0)) ∧ ∀ t9, t9 ≠ 17 → t9 ≠ 22 → u t9 = G t9)) A) args s 0 0 A) (F0 m 2 ls []) := by
    intro r
    induction r with
    | zero =>
      intro k g1 ls G1 H locs hk hg1 h1 h2 h3 h4 HO hw hl
      refine lv_iload_n hx hb dX2_lay_2 rfl (lv_at hl 0 rfl) ?_
      refine lv_aload_n hx hb dX2_lay_3 rfl (lv_at hl 2 rfl) ?_
      refine tg_getN (v := .int (nI L.length)) hx hb hown hAm hw lyX5 h3 rfl 1 (by decide) qw_89 (fun _ h9 => h9) rfl dX2_lay_4 ?_
      refine lv_icmp_ge (tgt := 52) hx hb dX2_lay_7 (by decide) (fun _ => ?_) (fun c9 => absurd ((nI_leI (a := L.length) (b := k) (by omega) (by omega)).mpr (by omega)) c9)
      exact tg_vret hx hb hr hlocks hw (⟨by rw [show P.length + L.length = P.length + k by omega]; exact h1, ⟨_, h2, fun i9 h9 => hg1 i9 (by rw [List.length_append] at h9; omega)⟩, HO⟩) (Nat.le_of_ble_eq_true rfl) (Nat.le_of_ble_eq_true rfl) dX2_lay_52
    | succ r ih =>
      intro k g1 ls G1 H locs hk hg1 h1 h2 h3 h4 HO hw hl
      refine lv_iload_n hx hb dX2_lay_2 rfl (lv_at hl 0 rfl) ?_
      refine lv_aload_n hx hb dX2_lay_3 rfl (lv_at hl 2 rfl) ?_
      refine tg_getN (v := .int (nI L.length)) hx hb hown hAm hw lyX5 h3 rfl 1 (by decide) qw_89 (fun _ h9 => h9) rfl dX2_lay_4 ?_
      refine lv_icmp_ge (tgt := 52) hx hb dX2_lay_7 (by decide) (fun c9 => absurd c9 (fun z9 => absurd ((nI_leI (a := L.length) (b := k) (by omega) (by omega)).mp z9) (by omega))) (fun _ => ?_)
      refine lv_aload_n hx hb dX2_lay_10 rfl (lv_at hl 1 rfl) ?_
      refine tg_get (v := .int (nI (P.length + k))) hx hb hown hAm hw lyX2 h1 rfl 4 (by decide) qw_113 (fun _ h9 => h9) rfl dX2_lay_11 ?_
      refine lv_aload_n hx hb dX2_lay_14 rfl (lv_at hl 1 rfl) ?_
      refine tg_get (v := .ref la) hx hb hown hAm hw lyX2 h1 rfl 2 (by decide) qw_111 (fun _ h9 => h9) rfl dX2_lay_15 ?_
      refine tg_alen hx hb hAm hw 0 h2 rfl 12 rfl dX2_lay_18 ?_
      refine lv_icmp_ge (tgt := 52) hx hb dX2_lay_19 (by decide) (fun c9 => absurd c9 (fun z9 => absurd ((nI_leI (a := 12) (b := P.length + k) (by omega) (by omega)).mp z9) (by omega))) (fun _ => ?_)
      refine lv_aload_n hx hb dX2_lay_22 rfl (lv_at hl 1 rfl) ?_
      refine tg_get (v := .ref la) hx hb hown hAm hw lyX2 h1 rfl 2 (by decide) qw_111 (fun _ h9 => h9) rfl dX2_lay_23 ?_
      refine lv_aload_n hx hb dX2_lay_26 rfl (lv_at hl 1 rfl) ?_
      refine tg_get (v := .int (nI (P.length + k))) hx hb hown hAm hw lyX2 h1 rfl 4 (by decide) qw_113 (fun _ h9 => h9) rfl dX2_lay_27 ?_
      refine lv_aload_n hx hb dX2_lay_30 rfl (lv_at hl 2 rfl) ?_
      refine lv_iload_n hx hb dX2_lay_31 rfl (lv_at hl 0 rfl) ?_
      refine tg_callRi (va_runVN (As := [.int (nI k)]) (rest := [.int (nI (P.length + k)), .ref la]) (Ts := []) ⟨hx, hb, hml, hown, fun _ h9 => absurd h9 List.not_mem_nil⟩ (sm_worthAt l E _ G1 (L := L) k hfs (by omega) (by omega) h3 h4) (rc_cnV hAm qw_474 qw_6 qw_477 qw_476 qs_15 rfl rfl hd_X5_worthAt ⟨Nat.le_of_ble_eq_true rfl, Nat.le_of_ble_eq_true rfl⟩) (tg_preV hAm hA hw h3 (q := vwCl[6]) rfl) rfl rfl hl.1 rfl (lv_room (Nat.le_of_ble_eq_true rfl)) dX2_lay_32 ⟨Nat.le_of_ble_eq_true rfl, Nat.le_of_ble_eq_true rfl⟩) hA hw (fun H locs hw => ?_)
      refine rc_topi (nI (L.getD k 0)) (if_pos (by omega)) ?_
      refine tg_iast hx hb hAm hw h2 (vp_in_nI (n := P.length + k) (N := 12) (by omega) (by omega)) dX2_lay_35 (fun G_1 H locs g_2 o_3 hw => ?_)
      rw [nI_clamp (by omega)] at g_2
      have h1 := (o_3 _ (by decide)).trans h1
      have h3 := (o_3 _ (by omega)).trans h3
      have h4 := (o_3 _ (by omega)).trans h4
      have h2 : G_1 22 = some (la, .inl (E.2.1 0, 12, .inl (upd g1 (P.length + k) (nI (L.getD k 0))))) := g_2
      refine lv_aload_n hx hb dX2_lay_36 rfl (lv_at hl 1 rfl) ?_
      refine lv_dup hx hb dX2_lay_37 rfl ?_
      refine tg_get (v := .int (nI (P.length + k))) hx hb hown hAm hw lyX2 h1 rfl 4 (by decide) qw_113 (fun _ h9 => h9) rfl dX2_lay_38 ?_
      refine lv_iconst (v := 1) hx hb dX2_lay_41 (by decide) ?_
      refine lv_iadd hx hb dX2_lay_42 ?_
      refine rc_topi (nI (P.length + k + 1)) (nI_add (P.length + k) 1) ?_
      refine tg_put hx hb hown hAm hw lyX2 tyX2 tyX2_ok nmX2 h1 rfl 4 (by decide) qw_113 (fun _ h9 => h9) rfl rfl rfl (Nat.le_of_ble_eq_true rfl) dX2_lay_43 (fun G_4 H locs g_5 o_6 hw => ?_)
      have h2 := (o_6 _ (by decide)).trans h2
      have h3 := (o_6 _ (by omega)).trans h3
      have h4 := (o_6 _ (by omega)).trans h4
      have h1 : G_4 17 = some (d, .inr (3, [.ref fa, .ref sa, .ref la, .ref wa, .int (nI (P.length + k + 1)), .int u5, .int u6, .int u7, .int u8, .int u9])) := g_5
      refine lv_iinc (v := nI (k + 1)) (lv' := [(2, .int (nI (k + 1))), (0, .ref d), (1, .ref ss)]) hx hb dX2_lay_46 hl (k := 0) rfl (nI_1 _) (by decide) rfl (fun ls hl => ?_)
      refine lv_goto (tgt := 2) hx hb dX2_lay_49 (by decide) ?_
      exact ih (k + 1) _ ls _ _ _ (by omega) (fun i9 h9 => by by_cases e9 : i9 = P.length + k; (refine (if_pos e9).trans ?_; rw [e9, List.getD_eq_getElem?_getD, List.getD_eq_getElem?_getD, List.getElem?_append_right (by omega), show P.length + k - P.length = k by omega]); (exact (if_neg e9).trans (hg1 i9 (by omega)))) h1 h2 h3 h4 (fun t9 h8 h9 => (o_6 t9 (by omega)).trans ((o_3 t9 (by omega)).trans ((HO t9 h8 h9)))) hw hl
  refine lv_iconst (v := 0) hx hb dX2_lay_0 (by decide) ?_
  refine lv_istore_n (lv' := [(2, .int 0), (0, .ref d), (1, .ref ss)]) hx hb dX2_lay_1 rfl hl (by decide) rfl (fun ls hl => ?_)
  exact loop L.length 0 g ls G _ _ (by omega) (fun i9 h9 => by rw [hg i9 (by omega), List.getD_eq_getElem?_getD, List.getD_eq_getElem?_getD, List.getElem?_append_left (by omega)]) h1 h2 h3 h4 (fun _ _ _ => rfl) hw hl
set_option maxHeartbeats 4000000 in
set_option maxRecDepth 100000 in
theorem du_leadOf (l : Launch) (E : rc_E) (sz : Nat) (G : tg_G) {d fa sa la wa : Nat} {u5 u6 u7 u8 u9 : Int32} {P : List Nat} {g : Nat → Int32} (i : Nat) (hg : ∀ i9, i9 < P.length → g i9 = nI (P.getD i9 0)) (hP : P.length ≤ 12) (hi : i < P.length) (hP9 : ∀ i9, P.getD i9 0 < 2 ^ 31) (h1 : G 17 = some (d, .inr (3, [.ref fa, .ref sa, .ref la, .ref wa, .int (nI P.length), .int u5, .int u6, .int u7, .int u8, .int u9]))) (h2 : G 22 = some (la, .inl (E.2.1 0, 12, .inl g))) : tg_M l yX2_leadOf [Cond.code yX2_leadOf cX2_leadOf 4 (some FieldType.int)] { frames := 0, cells := 0, slots := 0, locals := 0 } E [.ref d, .int (nI i)] G sz (tg_Qi E (fun r u => r = nI (ldN P i) ∧ u = G)) 0 0 := by
  refine tg_in (cc := cX2_leadOf) (maxL := 4) (ret := (some FieldType.int)) (tg_Qi E (fun r u => r = nI (ldN P i) ∧ u = G)) (by decide) rfl (Nat.le_of_ble_eq_true rfl) ?_
  intro p e s m args below meth cd ls A hx hb hr hml hown hlocks hin hA hAm hw hl
  have hown : s.vm.findClass RX2 = some m.cls := hown
  have hl : lv_has ls 4 [(0, .ref d), (1, .int (nI i))] := hl
  have hle := ldR_le P i
  have loop : ∀ (r k : Nat) (ls : Array Slot) (H : Heap) (locs : List Loc), k + r = P.length → tg_W E A s G H locs → lv_has ls 4 [(3, .int (nI k)), (2, .int (nI (ldR P i k))), (0, .ref d), (1, .int (nI i))] → W p l e { frames := 0, cells := 0, slots := 0, locals := 0 } s m args below meth cd H locs 0 0 (MQ below ((tg_Qi E (fun r u => r = nI (ldN P i) ∧ u = G)) A) args s 0 0 A) (F0 m 19 ls []) := by
    intro r
    induction r with
    | zero =>
      intro k ls H locs hk hw hl
      have hl1 := hle k
      refine lv_iload_n hx hb dX2_leadOf_19 rfl (lv_at hl 0 rfl) ?_
      refine lv_aload_n hx hb dX2_leadOf_20 rfl (lv_at hl 2 rfl) ?_
      refine tg_get (v := .int (nI P.length)) hx hb hown hAm hw lyX2 h1 rfl 4 (by decide) qw_113 (fun _ h9 => h9) rfl dX2_leadOf_21 ?_
      refine lv_icmp_ge (tgt := 85) hx hb dX2_leadOf_24 (by decide) (fun _ => ?_) (fun c9 => absurd ((nI_leI (a := P.length) (b := k) (by omega) (by omega)).mpr (by omega)) c9)
      refine lv_iload_n hx hb dX2_leadOf_85 rfl (lv_at hl 1 rfl) ?_
      exact tg_iret hx hb hr hlocks hw (⟨congrArg nI (by unfold ldN; rw [show P.length = k by omega]), rfl⟩) (Nat.le_of_ble_eq_true rfl) (Nat.le_of_ble_eq_true rfl) dX2_leadOf_86
    | succ r ih =>
      intro k ls H locs hk hw hl
      have hl1 := hle k
      have hPi := hP9 i
      have hPk := hP9 k
      refine lv_iload_n hx hb dX2_leadOf_19 rfl (lv_at hl 0 rfl) ?_
      refine lv_aload_n hx hb dX2_leadOf_20 rfl (lv_at hl 2 rfl) ?_
      refine tg_get (v := .int (nI P.length)) hx hb hown hAm hw lyX2 h1 rfl 4 (by decide) qw_113 (fun _ h9 => h9) rfl dX2_leadOf_21 ?_
      refine lv_icmp_ge (tgt := 85) hx hb dX2_leadOf_24 (by decide) (fun c9 => absurd c9 (fun z9 => absurd ((nI_leI (a := P.length) (b := k) (by omega) (by omega)).mp z9) (by omega))) (fun _ => ?_)
      refine lv_iload_n hx hb dX2_leadOf_27 rfl (lv_at hl 0 rfl) ?_
      refine lv_aload_n hx hb dX2_leadOf_28 rfl (lv_at hl 2 rfl) ?_
      refine tg_get (v := .ref la) hx hb hown hAm hw lyX2 h1 rfl 2 (by decide) qw_111 (fun _ h9 => h9) rfl dX2_leadOf_29 ?_
      refine tg_alen hx hb hAm hw 0 h2 rfl 12 rfl dX2_leadOf_32 ?_
      refine lv_icmp_ge (tgt := 85) hx hb dX2_leadOf_33 (by decide) (fun c9 => absurd c9 (fun z9 => absurd ((nI_leI (a := 12) (b := k) (by omega) (by omega)).mp z9) (by omega))) (fun _ => ?_)
      refine lv_iload_n hx hb dX2_leadOf_36 rfl (lv_at hl 0 rfl) ?_
      refine lv_iload_n hx hb dX2_leadOf_37 rfl (lv_at hl 3 rfl) ?_
      refine lv_icmp_eq (tgt := 79) hx hb dX2_leadOf_38 (by decide) (fun c_1 => ?_) (fun c_1 => ?_)
      · have c_1 := (nI_eq (a := k) (b := i) (by omega) (by omega)).mp c_1
        have hn : ldR P i k = ldR P i (k + 1) := by show _ = ldR P i k + (if k = i then 0 else sc2 (P.getD i 0) (P.getD k 0)); unfold sc2; repeat' (first | split | omega)
        rw [hn] at hl
        refine lv_iinc (v := nI (k + 1)) (lv' := [(3, .int (nI (k + 1))), (2, .int (nI (ldR P i (k + 1)))), (0, .ref d), (1, .int (nI i))]) hx hb dX2_leadOf_79 hl (k := 0) rfl (nI_1 _) (by decide) rfl (fun ls hl => ?_)
        refine lv_goto (tgt := 19) hx hb dX2_leadOf_82 (by decide) ?_
        exact ih (k + 1) ls _ _ (by omega) hw hl
      · have c_1 := mt (nI_eq (a := k) (b := i) (by omega) (by omega)).mpr c_1
        refine lv_aload_n hx hb dX2_leadOf_41 rfl (lv_at hl 2 rfl) ?_
        refine tg_get (v := .ref la) hx hb hown hAm hw lyX2 h1 rfl 2 (by decide) qw_111 (fun _ h9 => h9) rfl dX2_leadOf_42 ?_
        refine lv_iload_n hx hb dX2_leadOf_45 rfl (lv_at hl 3 rfl) ?_
        refine tg_iald hx hb hAm hw h2 (vp_in_nI (n := i) (N := 12) (by omega) (by omega)) dX2_leadOf_46 ?_
        refine rc_topi (g i) (by rw [nI_clamp (by omega)]) ?_
        refine rc_topi (nI (P.getD i 0)) (hg i (by omega)) ?_
        refine lv_aload_n hx hb dX2_leadOf_47 rfl (lv_at hl 2 rfl) ?_
        refine tg_get (v := .ref la) hx hb hown hAm hw lyX2 h1 rfl 2 (by decide) qw_111 (fun _ h9 => h9) rfl dX2_leadOf_48 ?_
        refine lv_iload_n hx hb dX2_leadOf_51 rfl (lv_at hl 0 rfl) ?_
        refine tg_iald hx hb hAm hw h2 (vp_in_nI (n := k) (N := 12) (by omega) (by omega)) dX2_leadOf_52 ?_
        refine rc_topi (g k) (by rw [nI_clamp (by omega)]) ?_
        refine rc_topi (nI (P.getD k 0)) (hg k (by omega)) ?_
        refine lv_icmp_gt (tgt := 79) hx hb dX2_leadOf_53 (by decide) (fun c_2 => ?_) (fun c_2 => ?_)
        · have c_2 := (nI_ltI (a := P.getD k 0) (b := P.getD i 0) (by omega) (by omega)).mp c_2
          have hn : ldR P i k = ldR P i (k + 1) := by show _ = ldR P i k + (if k = i then 0 else sc2 (P.getD i 0) (P.getD k 0)); unfold sc2; repeat' (first | split | omega)
          rw [hn] at hl
          refine lv_iinc (v := nI (k + 1)) (lv' := [(3, .int (nI (k + 1))), (2, .int (nI (ldR P i (k + 1)))), (0, .ref d), (1, .int (nI i))]) hx hb dX2_leadOf_79 hl (k := 0) rfl (nI_1 _) (by decide) rfl (fun ls hl => ?_)
          refine lv_goto (tgt := 19) hx hb dX2_leadOf_82 (by decide) ?_
          exact ih (k + 1) ls _ _ (by omega) hw hl
        · have c_2 := mt (nI_ltI (a := P.getD k 0) (b := P.getD i 0) (by omega) (by omega)).mpr c_2
          refine lv_iload_n hx hb dX2_leadOf_56 rfl (lv_at hl 1 rfl) ?_
          refine lv_aload_n hx hb dX2_leadOf_57 rfl (lv_at hl 2 rfl) ?_
          refine tg_get (v := .ref la) hx hb hown hAm hw lyX2 h1 rfl 2 (by decide) qw_111 (fun _ h9 => h9) rfl dX2_leadOf_58 ?_
          refine lv_iload_n hx hb dX2_leadOf_61 rfl (lv_at hl 3 rfl) ?_
          refine tg_iald hx hb hAm hw h2 (vp_in_nI (n := i) (N := 12) (by omega) (by omega)) dX2_leadOf_62 ?_
          refine rc_topi (g i) (by rw [nI_clamp (by omega)]) ?_
          refine rc_topi (nI (P.getD i 0)) (hg i (by omega)) ?_
          refine lv_aload_n hx hb dX2_leadOf_63 rfl (lv_at hl 2 rfl) ?_
          refine tg_get (v := .ref la) hx hb hown hAm hw lyX2 h1 rfl 2 (by decide) qw_111 (fun _ h9 => h9) rfl dX2_leadOf_64 ?_
          refine lv_iload_n hx hb dX2_leadOf_67 rfl (lv_at hl 0 rfl) ?_
          refine tg_iald hx hb hAm hw h2 (vp_in_nI (n := k) (N := 12) (by omega) (by omega)) dX2_leadOf_68 ?_
          refine rc_topi (g k) (by rw [nI_clamp (by omega)]) ?_
          refine rc_topi (nI (P.getD k 0)) (hg k (by omega)) ?_
          refine lv_icmp_ge (tgt := 76) hx hb dX2_leadOf_69 (by decide) (fun c_3 => ?_) (fun c_3 => ?_)
          · have c_3 := (nI_leI (a := P.getD k 0) (b := P.getD i 0) (by omega) (by omega)).mp c_3
            refine lv_iconst (v := 1) hx hb dX2_leadOf_76 (by decide) ?_
            refine lv_iadd hx hb dX2_leadOf_77 ?_
            refine rc_topi (nI (ldR P i k + 1)) (nI_add (ldR P i k) 1) ?_
            refine lv_istore_n (lv' := [(2, .int (nI (ldR P i k + 1))), (3, .int (nI k)), (0, .ref d), (1, .int (nI i))]) hx hb dX2_leadOf_78 rfl hl (by decide) rfl (fun ls hl => ?_)
            have hn : ldR P i k + 1 = ldR P i (k + 1) := by show _ = ldR P i k + (if k = i then 0 else sc2 (P.getD i 0) (P.getD k 0)); unfold sc2; repeat' (first | split | omega)
            rw [hn] at hl
            refine lv_iinc (v := nI (k + 1)) (lv' := [(3, .int (nI (k + 1))), (2, .int (nI (ldR P i (k + 1)))), (0, .ref d), (1, .int (nI i))]) hx hb dX2_leadOf_79 hl (k := 1) rfl (nI_1 _) (by decide) rfl (fun ls hl => ?_)
            refine lv_goto (tgt := 19) hx hb dX2_leadOf_82 (by decide) ?_
            exact ih (k + 1) ls _ _ (by omega) hw hl
          · have c_3 := mt (nI_leI (a := P.getD k 0) (b := P.getD i 0) (by omega) (by omega)).mpr c_3
            refine lv_iconst (v := 2) hx hb dX2_leadOf_72 (by decide) ?_
            refine lv_goto (tgt := 77) hx hb dX2_leadOf_73 (by decide) ?_
            refine lv_iadd hx hb dX2_leadOf_77 ?_
            refine rc_topi (nI (ldR P i k + 2)) (nI_add (ldR P i k) 2) ?_
            refine lv_istore_n (lv' := [(2, .int (nI (ldR P i k + 2))), (3, .int (nI k)), (0, .ref d), (1, .int (nI i))]) hx hb dX2_leadOf_78 rfl hl (by decide) rfl (fun ls hl => ?_)
            have hn : ldR P i k + 2 = ldR P i (k + 1) := by show _ = ldR P i k + (if k = i then 0 else sc2 (P.getD i 0) (P.getD k 0)); unfold sc2; repeat' (first | split | omega)
            rw [hn] at hl
            refine lv_iinc (v := nI (k + 1)) (lv' := [(3, .int (nI (k + 1))), (2, .int (nI (ldR P i (k + 1)))), (0, .ref d), (1, .int (nI i))]) hx hb dX2_leadOf_79 hl (k := 1) rfl (nI_1 _) (by decide) rfl (fun ls hl => ?_)
            refine lv_goto (tgt := 19) hx hb dX2_leadOf_82 (by decide) ?_
            exact ih (k + 1) ls _ _ (by omega) hw hl
  refine lv_iconst (v := 0) hx hb dX2_leadOf_0 (by decide) ?_
  refine lv_istore_n (lv' := [(2, .int 0), (0, .ref d), (1, .int (nI i))]) hx hb dX2_leadOf_1 rfl hl (by decide) rfl (fun ls hl => ?_)
  refine lv_iload_n hx hb dX2_leadOf_2 rfl (lv_at hl 2 rfl) ?_
  refine lv_if_lt (tgt := 15) hx hb dX2_leadOf_3 (by decide) (fun c9 => absurd c9 (fun z9 => absurd ((nI_ltI (a := i) (b := 0) (by omega) (by omega)).mp z9) (by omega))) (fun _ => ?_)
  refine lv_iload_n hx hb dX2_leadOf_6 rfl (lv_at hl 2 rfl) ?_
  refine lv_aload_n hx hb dX2_leadOf_7 rfl (lv_at hl 1 rfl) ?_
  refine tg_get (v := .ref la) hx hb hown hAm hw lyX2 h1 rfl 2 (by decide) qw_111 (fun _ h9 => h9) rfl dX2_leadOf_8 ?_
  refine tg_alen hx hb hAm hw 0 h2 rfl 12 rfl dX2_leadOf_11 ?_
  refine lv_icmp_lt (tgt := 17) hx hb dX2_leadOf_12 (by decide) (fun _ => ?_) (fun c9 => absurd ((nI_ltI (a := i) (b := 12) (by omega) (by omega)).mpr (by omega)) c9)
  refine lv_iconst (v := 0) hx hb dX2_leadOf_17 (by decide) ?_
  refine lv_istore_n (lv' := [(3, .int 0), (2, .int 0), (0, .ref d), (1, .int (nI i))]) hx hb dX2_leadOf_18 rfl hl (by decide) rfl (fun ls hl => ?_)
  exact loop P.length 0 ls _ _ (by omega) hw hl
set_option maxHeartbeats 4000000 in
set_option maxRecDepth 100000 in
theorem du_clearLeads (l : Launch) (E : rc_E) (sz : Nat) (G : tg_G) {d fa sa la wa ro t p0 U : Nat} {u6 u7 u8 u9 : Int32} {g : Nat → Int32} (hU : U ≤ 132) (ht : 24 ≤ t) (h1 : G 17 = some (d, .inr (3, [.ref fa, .ref sa, .ref la, .ref wa, .int (nI p0), .int (nI U), .int u6, .int u7, .int u8, .int u9]))) (h2 : G t = some (ro, .inl (E.2.1 0, 133, .inl g))) : tg_M l yX2_clearLeads [Cond.code yX2_clearLeads cX2_clearLeads 3 (none : Option FieldType)] { frames := 0, cells := 0, slots := 0, locals := 0 } E [.ref d, .ref ro] G sz (tg_Qv E (fun u => (∃ g2 : Nat → Int32, u t = some (ro, .inl (E.2.1 0, 133, .inl g2)) ∧ ∀ i9, i9 ≤ U → g2 i9 = 0) ∧ ∀ t9, t9 ≠ t → u t9 = G t9)) 0 0 := by
  refine tg_in (cc := cX2_clearLeads) (maxL := 3) (ret := (none : Option FieldType)) (tg_Qv E (fun u => (∃ g2 : Nat → Int32, u t = some (ro, .inl (E.2.1 0, 133, .inl g2)) ∧ ∀ i9, i9 ≤ U → g2 i9 = 0) ∧ ∀ t9, t9 ≠ t → u t9 = G t9)) (by decide) rfl (Nat.le_of_ble_eq_true rfl) ?_
  intro p e s m args below meth cd ls A hx hb hr hml hown hlocks hin hA hAm hw hl
  have hown : s.vm.findClass RX2 = some m.cls := hown
  have hl : lv_has ls 3 [(0, .ref d), (1, .ref ro)] := hl
  have loop : ∀ (r k : Nat) (g1 : Nat → Int32) (ls : Array Slot) (G1 : tg_G) (H : Heap) (locs : List Loc), k + r = U + 1 → (∀ i9, i9 < k → g1 i9 = 0) → G1 17 = some (d, .inr (3, [.ref fa, .ref sa, .ref la, .ref wa, .int (nI p0), .int (nI U), .int u6, .int u7, .int u8, .int u9])) → G1 t = some (ro, .inl (E.2.1 0, 133, .inl g1)) → (∀ t9, t9 ≠ t → G1 t9 = G t9) → tg_W E A s G1 H locs → lv_has ls 3 [(2, .int (nI k)), (0, .ref d), (1, .ref ro)] → W p l e { frames := 0, cells := 0, slots := 0, locals := 0 } s m args below meth cd H locs 0 0 (MQ below ((tg_Qv E (fun u => (∃ g2 : Nat → Int32, u t = some (ro, .inl (E.2.1 0, 133, .inl g2)) ∧ ∀ i9, i9 ≤ U → g2 i9 = 0) ∧ ∀ t9, t9 ≠ t → u t9 = G t9)) A) args s 0 0 A) (F0 m 2 ls []) := by
    intro r
    induction r with
    | zero =>
      intro k g1 ls G1 H locs hk hg1 h1 h2 HO hw hl
      refine lv_iload_n hx hb dX2_clearLeads_2 rfl (lv_at hl 0 rfl) ?_
      refine lv_aload_n hx hb dX2_clearLeads_3 rfl (lv_at hl 1 rfl) ?_
      refine tg_get (v := .int (nI U)) hx hb hown hAm hw lyX2 h1 rfl 5 (by decide) qw_114 (fun _ h9 => h9) rfl dX2_clearLeads_4 ?_
      refine lv_icmp_gt (tgt := 26) hx hb dX2_clearLeads_7 (by decide) (fun _ => ?_) (fun c9 => absurd ((nI_ltI (a := U) (b := k) (by omega) (by omega)).mpr (by omega)) c9)
      exact tg_vret hx hb hr hlocks hw (⟨⟨_, h2, fun i9 h9 => hg1 i9 (by omega)⟩, HO⟩) (Nat.le_of_ble_eq_true rfl) (Nat.le_of_ble_eq_true rfl) dX2_clearLeads_26
    | succ r ih =>
      intro k g1 ls G1 H locs hk hg1 h1 h2 HO hw hl
      refine lv_iload_n hx hb dX2_clearLeads_2 rfl (lv_at hl 0 rfl) ?_
      refine lv_aload_n hx hb dX2_clearLeads_3 rfl (lv_at hl 1 rfl) ?_
      refine tg_get (v := .int (nI U)) hx hb hown hAm hw lyX2 h1 rfl 5 (by decide) qw_114 (fun _ h9 => h9) rfl dX2_clearLeads_4 ?_
      refine lv_icmp_gt (tgt := 26) hx hb dX2_clearLeads_7 (by decide) (fun c9 => absurd c9 (fun z9 => absurd ((nI_ltI (a := U) (b := k) (by omega) (by omega)).mp z9) (by omega))) (fun _ => ?_)
      refine lv_iload_n hx hb dX2_clearLeads_10 rfl (lv_at hl 0 rfl) ?_
      refine lv_aload_n hx hb dX2_clearLeads_11 rfl (lv_at hl 2 rfl) ?_
      refine tg_alen hx hb hAm hw 0 h2 rfl 133 rfl dX2_clearLeads_12 ?_
      refine lv_icmp_ge (tgt := 26) hx hb dX2_clearLeads_13 (by decide) (fun c9 => absurd c9 (fun z9 => absurd ((nI_leI (a := 133) (b := k) (by omega) (by omega)).mp z9) (by omega))) (fun _ => ?_)
      refine lv_aload_n hx hb dX2_clearLeads_16 rfl (lv_at hl 2 rfl) ?_
      refine lv_iload_n hx hb dX2_clearLeads_17 rfl (lv_at hl 0 rfl) ?_
      refine lv_iconst (v := 0) hx hb dX2_clearLeads_18 (by decide) ?_
      refine tg_iast hx hb hAm hw h2 (vp_in_nI (n := k) (N := 133) (by omega) (by omega)) dX2_clearLeads_19 (fun G_1 H locs g_2 o_3 hw => ?_)
      rw [nI_clamp (by omega)] at g_2
      have h1 := (o_3 _ (by omega)).trans h1
      have h2 : G_1 t = some (ro, .inl (E.2.1 0, 133, .inl (upd g1 k 0))) := g_2
      refine lv_iinc (v := nI (k + 1)) (lv' := [(2, .int (nI (k + 1))), (0, .ref d), (1, .ref ro)]) hx hb dX2_clearLeads_20 hl (k := 0) rfl (nI_1 _) (by decide) rfl (fun ls hl => ?_)
      refine lv_goto (tgt := 2) hx hb dX2_clearLeads_23 (by decide) ?_
      exact ih (k + 1) _ ls _ _ _ (by omega) (fun i9 h9 => by by_cases e9 : i9 = k; (exact if_pos e9); (exact (if_neg e9).trans (hg1 i9 (by omega)))) h1 h2 (fun t9 h9 => (o_3 t9 h9).trans ((HO t9 h9))) hw hl
  refine lv_iconst (v := 0) hx hb dX2_clearLeads_0 (by decide) ?_
  refine lv_istore_n (lv' := [(2, .int 0), (0, .ref d), (1, .ref ro)]) hx hb dX2_clearLeads_1 rfl hl (by decide) rfl (fun ls hl => ?_)
  exact loop (U + 1) 0 g ls G _ _ (by omega) (fun i9 h9 => absurd h9 (Nat.not_lt_zero _)) h1 h2 (fun _ _ => rfl) hw hl
set_option maxHeartbeats 4000000 in
set_option maxRecDepth 100000 in
theorem du_addShifted (l : Launch) (E : rc_E) (sz : Nat) (G : tg_G) {d fa sa la wa rf rt tf tt p0 U sh : Nat} {u6 u7 u8 u9 : Int32} {f g : Nat → Int32} {F9 T9 : Nat → Nat} (hU : U ≤ 132) (hsh : sh < 2 ^ 30) (htf : 24 ≤ tf) (htt : 24 ≤ tt) (hne : tf ≠ tt) (hf : ∀ i9, i9 ≤ U → f i9 = nI (F9 i9)) (hg : ∀ i9, i9 ≤ U → g i9 = nI (T9 i9)) (h1 : G 17 = some (d, .inr (3, [.ref fa, .ref sa, .ref la, .ref wa, .int (nI p0), .int (nI U), .int u6, .int u7, .int u8, .int u9]))) (h2 : G tf = some (rf, .inl (E.2.1 0, 133, .inl f))) (h3 : G tt = some (rt, .inl (E.2.1 0, 133, .inl g))) : tg_M l yX2_addShifted [Cond.code yX2_addShifted cX2_addShifted 6 (none : Option FieldType)] { frames := 1, cells := 0, slots := 0, locals := 13 } E [.ref d, .ref rf, .ref rt, .int (nI sh)] G sz (tg_Qv E (fun u => (∃ g2 : Nat → Int32, u tt = some (rt, .inl (E.2.1 0, 133, .inl g2)) ∧ ∀ i9, i9 ≤ U → g2 i9 = nI (T9 i9 + if sh ≤ i9 then F9 (i9 - sh) else 0)) ∧ ∀ t9, t9 ≠ tt → u t9 = G t9)) 0 0 := by
  refine tg_in (cc := cX2_addShifted) (maxL := 6) (ret := (none : Option FieldType)) (tg_Qv E (fun u => (∃ g2 : Nat → Int32, u tt = some (rt, .inl (E.2.1 0, 133, .inl g2)) ∧ ∀ i9, i9 ≤ U → g2 i9 = nI (T9 i9 + if sh ≤ i9 then F9 (i9 - sh) else 0)) ∧ ∀ t9, t9 ≠ tt → u t9 = G t9)) (by decide) rfl (Nat.le_of_ble_eq_true rfl) ?_
  intro p e s m args below meth cd ls A hx hb hr hml hown hlocks hin hA hAm hw hl
  have hown : s.vm.findClass RX2 = some m.cls := hown
  have hl : lv_has ls 6 [(0, .ref d), (1, .ref rf), (2, .ref rt), (3, .int (nI sh))] := hl
  have hmn : min (U + 1) 133 = U + 1 := by omega
  have loop : ∀ (r k : Nat) (g1 : Nat → Int32) (ls : Array Slot) (G1 : tg_G) (H : Heap) (locs : List Loc), (k + r = U + 1 - sh ∨ (U + 1 ≤ sh ∧ k = 0 ∧ r = 0)) → (∀ i9, i9 ≤ U → g1 i9 = nI (if sh ≤ i9 ∧ i9 - sh < k then T9 i9 + F9 (i9 - sh) else T9 i9)) → G1 17 = some (d, .inr (3, [.ref fa, .ref sa, .ref la, .ref wa, .int (nI p0), .int (nI U), .int u6, .int u7, .int u8, .int u9])) → G1 tf = some (rf, .inl (E.2.1 0, 133, .inl f)) → G1 tt = some (rt, .inl (E.2.1 0, 133, .inl g1)) → (∀ t9, t9 ≠ tt → G1 t9 = G t9) → tg_W E A s G1 H locs → lv_has ls 6 [(5, .int (nI k)), (4, .int (nI (min (U + 1) 133))), (0, .ref d), (1, .ref rf), (2, .ref rt), (3, .int (nI sh))] → W p l e { frames := 1, cells := 0, slots := 0, locals := 13 } s m args below meth cd H locs 0 0 (MQ below ((tg_Qv E (fun u => (∃ g2 : Nat → Int32, u tt = some (rt, .inl (E.2.1 0, 133, .inl g2)) ∧ ∀ i9, i9 ≤ U → g2 i9 = nI (T9 i9 + if sh ≤ i9 then F9 (i9 - sh) else 0)) ∧ ∀ t9, t9 ≠ tt → u t9 = G t9)) A) args s 0 0 A) (F0 m 16 ls []) := by
    intro r
    induction r with
    | zero =>
      intro k g1 ls G1 H locs hk hg1 h1 h2 h3 HO hw hl
      by_cases hk2 : k < 133
      · refine lv_iload hx hb dX2_addShifted_16 (lv_at hl 0 rfl) ?_
        refine lv_aload_n hx hb dX2_addShifted_18 rfl (lv_at hl 3 rfl) ?_
        refine tg_alen hx hb hAm hw 0 h2 rfl 133 rfl dX2_addShifted_19 ?_
        refine lv_icmp_ge (tgt := 55) hx hb dX2_addShifted_20 (by decide) (fun c9 => absurd c9 (fun z9 => absurd ((nI_leI (a := 133) (b := k) (by omega) (by omega)).mp z9) (by omega))) (fun _ => ?_)
        refine lv_iload_n hx hb dX2_addShifted_23 rfl (lv_at hl 5 rfl) ?_
        refine lv_if_lt (tgt := 55) hx hb dX2_addShifted_24 (by decide) (fun c9 => absurd c9 (fun z9 => absurd ((nI_ltI (a := sh) (b := 0) (by omega) (by omega)).mp z9) (by omega))) (fun _ => ?_)
        refine lv_iload hx hb dX2_addShifted_27 (lv_at hl 0 rfl) ?_
        refine lv_iload_n hx hb dX2_addShifted_29 rfl (lv_at hl 5 rfl) ?_
        refine lv_iadd hx hb dX2_addShifted_30 ?_
        refine rc_topi (nI (k + sh)) (nI_add k sh) ?_
        refine lv_iload hx hb dX2_addShifted_31 (lv_at hl 1 rfl) ?_
        refine lv_icmp_ge (tgt := 55) hx hb dX2_addShifted_33 (by decide) (fun _ => ?_) (fun c9 => absurd ((nI_leI (a := min (U + 1) 133) (b := k + sh) (by omega) (by omega)).mpr (by omega)) c9)
        exact tg_vret hx hb hr hlocks hw (⟨⟨_, h3, fun i9 h9 => (hg1 i9 h9).trans (congrArg nI (by by_cases e9 : sh ≤ i9; (rw [if_pos ⟨e9, by omega⟩, if_pos e9]); (rw [if_neg (fun z9 => e9 z9.1), if_neg e9, Nat.add_zero])))⟩, HO⟩) (Nat.le_of_ble_eq_true rfl) (Nat.le_of_ble_eq_true rfl) dX2_addShifted_55
      · refine lv_iload hx hb dX2_addShifted_16 (lv_at hl 0 rfl) ?_
        refine lv_aload_n hx hb dX2_addShifted_18 rfl (lv_at hl 3 rfl) ?_
        refine tg_alen hx hb hAm hw 0 h2 rfl 133 rfl dX2_addShifted_19 ?_
        refine lv_icmp_ge (tgt := 55) hx hb dX2_addShifted_20 (by decide) (fun _ => ?_) (fun c9 => absurd ((nI_leI (a := 133) (b := k) (by omega) (by omega)).mpr (by omega)) c9)
        exact tg_vret hx hb hr hlocks hw (⟨⟨_, h3, fun i9 h9 => (hg1 i9 h9).trans (congrArg nI (by by_cases e9 : sh ≤ i9; (rw [if_pos ⟨e9, by omega⟩, if_pos e9]); (rw [if_neg (fun z9 => e9 z9.1), if_neg e9, Nat.add_zero])))⟩, HO⟩) (Nat.le_of_ble_eq_true rfl) (Nat.le_of_ble_eq_true rfl) dX2_addShifted_55
    | succ r ih =>
      intro k g1 ls G1 H locs hk hg1 h1 h2 h3 HO hw hl
      refine lv_iload hx hb dX2_addShifted_16 (lv_at hl 0 rfl) ?_
      refine lv_aload_n hx hb dX2_addShifted_18 rfl (lv_at hl 3 rfl) ?_
      refine tg_alen hx hb hAm hw 0 h2 rfl 133 rfl dX2_addShifted_19 ?_
      refine lv_icmp_ge (tgt := 55) hx hb dX2_addShifted_20 (by decide) (fun c9 => absurd c9 (fun z9 => absurd ((nI_leI (a := 133) (b := k) (by omega) (by omega)).mp z9) (by omega))) (fun _ => ?_)
      refine lv_iload_n hx hb dX2_addShifted_23 rfl (lv_at hl 5 rfl) ?_
      refine lv_if_lt (tgt := 55) hx hb dX2_addShifted_24 (by decide) (fun c9 => absurd c9 (fun z9 => absurd ((nI_ltI (a := sh) (b := 0) (by omega) (by omega)).mp z9) (by omega))) (fun _ => ?_)
      refine lv_iload hx hb dX2_addShifted_27 (lv_at hl 0 rfl) ?_
      refine lv_iload_n hx hb dX2_addShifted_29 rfl (lv_at hl 5 rfl) ?_
      refine lv_iadd hx hb dX2_addShifted_30 ?_
      refine rc_topi (nI (k + sh)) (nI_add k sh) ?_
      refine lv_iload hx hb dX2_addShifted_31 (lv_at hl 1 rfl) ?_
      refine lv_icmp_ge (tgt := 55) hx hb dX2_addShifted_33 (by decide) (fun c9 => absurd c9 (fun z9 => absurd ((nI_leI (a := min (U + 1) 133) (b := k + sh) (by omega) (by omega)).mp z9) (by omega))) (fun _ => ?_)
      refine lv_aload_n hx hb dX2_addShifted_36 rfl (lv_at hl 4 rfl) ?_
      refine lv_iload hx hb dX2_addShifted_37 (lv_at hl 0 rfl) ?_
      refine lv_iload_n hx hb dX2_addShifted_39 rfl (lv_at hl 5 rfl) ?_
      refine lv_iadd hx hb dX2_addShifted_40 ?_
      refine rc_topi (nI (k + sh)) (nI_add k sh) ?_
      refine lv_dup2_11 hx hb dX2_addShifted_41 rfl rfl ?_
      refine tg_iald hx hb hAm hw h3 (vp_in_nI (n := k + sh) (N := 133) (by omega) (by omega)) dX2_addShifted_42 ?_
      refine rc_topi (g1 (k + sh)) (by rw [nI_clamp (by omega)]) ?_
      refine rc_topi (nI (T9 (k + sh))) ((hg1 (k + sh) (by omega)).trans (congrArg nI (if_neg (by omega)))) ?_
      refine lv_aload_n hx hb dX2_addShifted_43 rfl (lv_at hl 3 rfl) ?_
      refine lv_iload hx hb dX2_addShifted_44 (lv_at hl 0 rfl) ?_
      refine tg_iald hx hb hAm hw h2 (vp_in_nI (n := k) (N := 133) (by omega) (by omega)) dX2_addShifted_46 ?_
      refine rc_topi (f k) (by rw [nI_clamp (by omega)]) ?_
      refine rc_topi (nI (F9 k)) (hf k (by omega)) ?_
      refine lv_iadd hx hb dX2_addShifted_47 ?_
      refine rc_topi (nI (T9 (k + sh) + F9 k)) (nI_add (T9 (k + sh)) (F9 k)) ?_
      refine tg_iast hx hb hAm hw h3 (vp_in_nI (n := k + sh) (N := 133) (by omega) (by omega)) dX2_addShifted_48 (fun G_1 H locs g_2 o_3 hw => ?_)
      rw [nI_clamp (by omega)] at g_2
      have h1 := (o_3 _ (by omega)).trans h1
      have h2 := (o_3 _ (by omega)).trans h2
      have h3 : G_1 tt = some (rt, .inl (E.2.1 0, 133, .inl (upd g1 (k + sh) (nI (T9 (k + sh) + F9 k))))) := g_2
      refine lv_iinc (v := nI (k + 1)) (lv' := [(5, .int (nI (k + 1))), (4, .int (nI (min (U + 1) 133))), (0, .ref d), (1, .ref rf), (2, .ref rt), (3, .int (nI sh))]) hx hb dX2_addShifted_49 hl (k := 0) rfl (nI_1 _) (by decide) rfl (fun ls hl => ?_)
      refine lv_goto (tgt := 16) hx hb dX2_addShifted_52 (by decide) ?_
      exact ih (k + 1) _ ls _ _ _ (by omega) (fun i9 h9 => by by_cases e9 : i9 = k + sh; (refine (if_pos e9).trans (congrArg nI ?_); rw [if_pos (by omega), e9, show k + sh - sh = k by omega]); (refine (if_neg e9).trans ((hg1 i9 h9).trans (congrArg nI ?_)); by_cases e8 : sh ≤ i9 ∧ i9 - sh < k); (rw [if_pos e8, if_pos (by omega)]); (rw [if_neg e8, if_neg (by omega)])) h1 h2 h3 (fun t9 h9 => (o_3 t9 h9).trans ((HO t9 h9))) hw hl
  refine lv_aload_n hx hb dX2_addShifted_0 rfl (lv_at hl 0 rfl) ?_
  refine tg_get (v := .int (nI U)) hx hb hown hAm hw lyX2 h1 rfl 5 (by decide) qw_114 (fun _ h9 => h9) rfl dX2_addShifted_1 ?_
  refine lv_iconst (v := 1) hx hb dX2_addShifted_4 (by decide) ?_
  refine lv_iadd hx hb dX2_addShifted_5 ?_
  refine rc_topi (nI (U + 1)) (nI_add U 1) ?_
  refine lv_aload_n hx hb dX2_addShifted_6 rfl (lv_at hl 2 rfl) ?_
  refine tg_alen hx hb hAm hw 0 h3 rfl 133 rfl dX2_addShifted_7 ?_
  refine va_mmin hx hb (by rw [hml]; exact hl.1.symm) hown (hAm.wd qw_478 rfl rfl) (hAm.wd qw_218 rfl rfl) (hAm.wd qw_10 rfl rfl) (hAm.wd qw_219 rfl rfl) (Nat.le_of_ble_eq_true rfl) (Nat.le_of_ble_eq_true rfl) (Nat.le_of_ble_eq_true rfl) (Nat.le_of_ble_eq_true rfl) dX2_addShifted_8 ?_
  refine rc_topi (nI (min (U + 1) 133)) (nb_min (a := U + 1) (b := 133) (by omega) (by omega)) ?_
  refine lv_istore (lv' := [(4, .int (nI (min (U + 1) 133))), (0, .ref d), (1, .ref rf), (2, .ref rt), (3, .int (nI sh))]) hx hb dX2_addShifted_11 hl (by decide) rfl (fun ls hl => ?_)
  refine lv_iconst (v := 0) hx hb dX2_addShifted_13 (by decide) ?_
  refine lv_istore (lv' := [(5, .int 0), (4, .int (nI (min (U + 1) 133))), (0, .ref d), (1, .ref rf), (2, .ref rt), (3, .int (nI sh))]) hx hb dX2_addShifted_14 hl (by decide) rfl (fun ls hl => ?_)
  exact loop (U + 1 - sh) 0 g ls G _ _ (by omega) (fun i9 h9 => (hg i9 h9).trans (congrArg nI (if_neg (fun z9 => absurd z9.2 (Nat.not_lt_zero _))).symm)) h1 h2 h3 (fun _ _ => rfl) hw hl
