set_option maxHeartbeats 4000000 in
set_option maxRecDepth 100000 in
theorem sm_clear (l : Launch) (E : rc_E) (sz : Nat) (G : tg_G) {t a a9 : Nat} {n9 : Nat} (h1 : G t = some (a, .inr (6, [.ref a9, .int (nI n9)]))) : tg_M l yX5_clear [Cond.code yX5_clear cX5_clear 1 (none : Option FieldType)] { frames := 0, cells := 0, slots := 0, locals := 0 } E [.ref a] G sz (tg_Qv E (fun u => u t = some (a, .inr (6, [.ref a9, .int 0])) ∧ ∀ t9, t9 ≠ t → u t9 = G t9)) 0 0 := by
  refine tg_in (cc := cX5_clear) (maxL := 1) (ret := (none : Option FieldType)) (tg_Qv E (fun u => u t = some (a, .inr (6, [.ref a9, .int 0])) ∧ ∀ t9, t9 ≠ t → u t9 = G t9)) (by decide) rfl (Nat.le_of_ble_eq_true rfl) ?_
  intro p e s m args below meth cd ls A hx hb hr hml hown hlocks hin hA hAm hw hl
  have hown : s.vm.findClass RX5 = some m.cls := hown
  have hl : lv_has ls 1 [(0, .ref a)] := hl
  refine lv_aload_n hx hb dX5_clear_0 rfl (lv_at hl 0 rfl) ?_
  refine lv_iconst (v := 0) hx hb dX5_clear_1 (by decide) ?_
  refine tg_put hx hb hown hAm hw lyX5 tyX5 tyX5_ok nmX5 h1 rfl 1 (by decide) qw_88 (fun _ h9 => h9) rfl rfl (by decide +kernel) (Nat.le_of_ble_eq_true rfl) dX5_clear_2 (fun G_1 H locs g_2 o_3 hw => ?_)
  have h1 : G_1 t = some (a, .inr (6, [.ref a9, .int 0])) := g_2
  exact tg_vret hx hb hr hlocks hw (⟨h1, (fun t9 h9 => (o_3 t9 (by omega)))⟩) (Nat.le_of_ble_eq_true rfl) (Nat.le_of_ble_eq_true rfl) dX5_clear_5
set_option maxHeartbeats 4000000 in
set_option maxRecDepth 100000 in
theorem sm_worthAt (l : Launch) (E : rc_E) (sz : Nat) (G : tg_G) {t ta a a9 : Nat} {L : List Nat} {f : Nat → Int32} (k : Nat) (hf : ∀ i9, i9 < L.length → f i9 = nI (L.getD i9 0)) (hL : L.length ≤ 6) (hk : k < 2 ^ 31) (h1 : G t = some (a, .inr (6, [.ref a9, .int (nI L.length)]))) (h2 : G ta = some (a9, .inl (E.2.1 0, 6, .inl f))) : tg_M l yX5_worthAt [Cond.code yX5_worthAt cX5_worthAt 2 (some FieldType.int)] { frames := 0, cells := 0, slots := 0, locals := 0 } E [.ref a, .int (nI k)] G sz (tg_Qi E (fun r u => r = wAt L k ∧ u = G)) 0 0 := by
  refine tg_in (cc := cX5_worthAt) (maxL := 2) (ret := (some FieldType.int)) (tg_Qi E (fun r u => r = wAt L k ∧ u = G)) (by decide) rfl (Nat.le_of_ble_eq_true rfl) ?_
  intro p e s m args below meth cd ls A hx hb hr hml hown hlocks hin hA hAm hw hl
  have hown : s.vm.findClass RX5 = some m.cls := hown
  have hl : lv_has ls 2 [(0, .ref a), (1, .int (nI k))] := hl
  refine lv_iload_n hx hb dX5_worthAt_0 rfl (lv_at hl 1 rfl) ?_
  refine lv_if_lt (tgt := 30) hx hb dX5_worthAt_1 (by decide) (fun c9 => absurd c9 (fun z9 => absurd ((nI_ltI (a := k) (b := 0) (by omega) (by omega)).mp z9) (by omega))) (fun _ => ?_)
  refine lv_iload_n hx hb dX5_worthAt_4 rfl (lv_at hl 1 rfl) ?_
  refine lv_aload_n hx hb dX5_worthAt_5 rfl (lv_at hl 0 rfl) ?_
  refine tg_get (v := .int (nI L.length)) hx hb hown hAm hw lyX5 h1 rfl 1 (by decide) qw_88 (fun _ h9 => h9) rfl dX5_worthAt_6 ?_
  refine lv_icmp_ge (tgt := 30) hx hb dX5_worthAt_9 (by decide) (fun c_1 => ?_) (fun c_1 => ?_)
  · have c_1 := (nI_leI (a := L.length) (b := k) (by omega) (by omega)).mp c_1
    refine lv_iconst (v := (-1)) hx hb dX5_worthAt_30 (by decide) ?_
    exact tg_iret hx hb hr hlocks hw (⟨(if_neg (by omega)).symm, rfl⟩) (Nat.le_of_ble_eq_true rfl) (Nat.le_of_ble_eq_true rfl) dX5_worthAt_31
  · have c_1 := mt (nI_leI (a := L.length) (b := k) (by omega) (by omega)).mpr c_1
    refine lv_iload_n hx hb dX5_worthAt_12 rfl (lv_at hl 1 rfl) ?_
    refine lv_aload_n hx hb dX5_worthAt_13 rfl (lv_at hl 0 rfl) ?_
    refine tg_get (v := .ref a9) hx hb hown hAm hw lyX5 h1 rfl 0 (by decide) qw_87 (fun _ h9 => h9) rfl dX5_worthAt_14 ?_
    refine tg_alen hx hb hAm hw 0 h2 rfl 6 rfl dX5_worthAt_17 ?_
    refine lv_icmp_ge (tgt := 30) hx hb dX5_worthAt_18 (by decide) (fun c9 => absurd c9 (fun z9 => absurd ((nI_leI (a := 6) (b := k) (by omega) (by omega)).mp z9) (by omega))) (fun _ => ?_)
    refine lv_aload_n hx hb dX5_worthAt_21 rfl (lv_at hl 0 rfl) ?_
    refine tg_get (v := .ref a9) hx hb hown hAm hw lyX5 h1 rfl 0 (by decide) qw_87 (fun _ h9 => h9) rfl dX5_worthAt_22 ?_
    refine lv_iload_n hx hb dX5_worthAt_25 rfl (lv_at hl 1 rfl) ?_
    refine tg_iald hx hb hAm hw h2 (vp_in_nI (n := k) (N := 6) (by omega) (by omega)) dX5_worthAt_26 ?_
    refine rc_topi (f k) (by rw [nI_clamp (by omega)]) ?_
    refine rc_topi (nI (L.getD k 0)) (hf k (by omega)) ?_
    refine lv_goto (tgt := 31) hx hb dX5_worthAt_27 (by decide) ?_
    exact tg_iret hx hb hr hlocks hw (⟨(if_pos (by omega)).symm, rfl⟩) (Nat.le_of_ble_eq_true rfl) (Nat.le_of_ble_eq_true rfl) dX5_worthAt_31
set_option maxHeartbeats 4000000 in
set_option maxRecDepth 100000 in
theorem sm_worthAtM (l : Launch) (E : rc_E) (sz : Nat) (G : tg_G) {a : Nat} : tg_M l yX5_worthAt [Cond.code yX5_worthAt cX5_worthAt 2 (some FieldType.int)] { frames := 0, cells := 0, slots := 0, locals := 0 } E [.ref a, .int (-1)] G sz (tg_Qi E (fun r u => r = (-1) ∧ u = G)) 0 0 := by
  refine tg_in (cc := cX5_worthAt) (maxL := 2) (ret := (some FieldType.int)) (tg_Qi E (fun r u => r = (-1) ∧ u = G)) (by decide) rfl (Nat.le_of_ble_eq_true rfl) ?_
  intro p e s m args below meth cd ls A hx hb hr hml hown hlocks hin hA hAm hw hl
  have hown : s.vm.findClass RX5 = some m.cls := hown
  have hl : lv_has ls 2 [(0, .ref a), (1, .int (-1))] := hl
  refine lv_iload_n hx hb dX5_worthAt_0 rfl (lv_at hl 1 rfl) ?_
  refine lv_if_lt (tgt := 30) hx hb dX5_worthAt_1 (by decide) (fun _ => ?_) (fun c9 => absurd (by decide) c9)
  refine lv_iconst (v := (-1)) hx hb dX5_worthAt_30 (by decide) ?_
  exact tg_iret hx hb hr hlocks hw (⟨rfl, rfl⟩) (Nat.le_of_ble_eq_true rfl) (Nat.le_of_ble_eq_true rfl) dX5_worthAt_31
set_option maxHeartbeats 4000000 in
set_option maxRecDepth 100000 in
theorem sm_add (l : Launch) (E : rc_E) (sz : Nat) (G : tg_G) {t a a9 : Nat} {L : List Nat} {f : Nat → Int32} {w : Nat} (hf : ∀ i9, i9 < L.length → f i9 = nI (L.getD i9 0)) (hL : L.length < 6) (hw9 : w < 2 ^ 31) (hLs : ∀ i9, i9 < L.length → L.getD i9 0 < 2 ^ 31) (h1 : G t = some (a, .inr (6, [.ref a9, .int (nI L.length)]))) (h2 : G (t + 1) = some (a9, .inl (E.2.1 0, 6, .inl f))) : tg_M l yX5_add [Cond.code yX5_add cX5_add 3 (none : Option FieldType)] { frames := 0, cells := 0, slots := 0, locals := 0 } E [.ref a, .int (nI w)] G sz (tg_Qv E (fun u => u t = some (a, .inr (6, [.ref a9, .int (nI (L.length + 1))])) ∧ (∃ f2 : Nat → Int32, u (t + 1) = some (a9, .inl (E.2.1 0, 6, .inl f2)) ∧ ∀ i9, i9 < L.length + 1 → f2 i9 = nI ((insW L w).getD i9 0)) ∧ ∀ t9, t9 < t ∨ t + 2 ≤ t9 → u t9 = G t9)) 0 0 := by
  refine tg_in (cc := cX5_add) (maxL := 3) (ret := (none : Option FieldType)) (tg_Qv E (fun u => u t = some (a, .inr (6, [.ref a9, .int (nI (L.length + 1))])) ∧ (∃ f2 : Nat → Int32, u (t + 1) = some (a9, .inl (E.2.1 0, 6, .inl f2)) ∧ ∀ i9, i9 < L.length + 1 → f2 i9 = nI ((insW L w).getD i9 0)) ∧ ∀ t9, t9 < t ∨ t + 2 ≤ t9 → u t9 = G t9)) (by decide) rfl (Nat.le_of_ble_eq_true rfl) ?_
  intro p e s m args below meth cd ls A hx hb hr hml hown hlocks hin hA hAm hw hl
  have hown : s.vm.findClass RX5 = some m.cls := hown
  have hl : lv_has ls 3 [(0, .ref a), (1, .int (nI w))] := hl
  have loop : ∀ (k : Nat) (f1 : Nat → Int32) (ls : Array Slot) (G1 : tg_G) (H : Heap) (locs : List Loc), k ≤ L.length → insP L w L.length = insP L w k → (∀ i9, i9 < k → f1 i9 = nI (L.getD i9 0)) → (∀ i9, k ≤ i9 → i9 < L.length → f1 (i9 + 1) = nI (L.getD i9 0)) → G1 t = some (a, .inr (6, [.ref a9, .int (nI L.length)])) → G1 (t + 1) = some (a9, .inl (E.2.1 0, 6, .inl f1)) → (∀ t9, t9 < t ∨ t + 2 ≤ t9 → G1 t9 = G t9) → tg_W E A s G1 H locs → lv_has ls 3 [(2, .int (nI k)), (0, .ref a), (1, .int (nI w))] → W p l e { frames := 0, cells := 0, slots := 0, locals := 0 } s m args below meth cd H locs 0 0 (MQ below ((tg_Qv E (fun u => u t = some (a, .inr (6, [.ref a9, .int (nI (L.length + 1))])) ∧ (∃ f2 : Nat → Int32, u (t + 1) = some (a9, .inl (E.2.1 0, 6, .inl f2)) ∧ ∀ i9, i9 < L.length + 1 → f2 i9 = nI ((insW L w).getD i9 0)) ∧ ∀ t9, t9 < t ∨ t + 2 ≤ t9 → u t9 = G t9)) A) args s 0 0 A) (F0 m 25 ls []) := by
    intro k
    induction k with
    | zero =>
      intro f1 ls G1 H locs hk hP hlo hhi h1 h2 HO hw hl
      refine lv_iload_n hx hb dX5_add_25 rfl (lv_at hl 0 rfl) ?_
      refine lv_if_le (tgt := 61) hx hb dX5_add_26 (by decide) (fun _ => ?_) (fun c9 => absurd ((nI_leI (a := 0) (b := 0) (by omega) (by omega)).mpr (by omega)) c9)
      have hp9 : insP L w L.length = 0 := hP
      refine lv_aload_n hx hb dX5_add_61 rfl (lv_at hl 1 rfl) ?_
      refine tg_get (v := .ref a9) hx hb hown hAm hw lyX5 h1 rfl 0 (by decide) qw_87 (fun _ h9 => h9) rfl dX5_add_62 ?_
      refine lv_iload_n hx hb dX5_add_65 rfl (lv_at hl 0 rfl) ?_
      refine lv_iload_n hx hb dX5_add_66 rfl (lv_at hl 2 rfl) ?_
      refine tg_iast hx hb hAm hw h2 (vp_in_nI (n := 0) (N := 6) (by omega) (by omega)) dX5_add_67 (fun G_1 H locs g_2 o_3 hw => ?_)
      rw [nI_clamp (by omega)] at g_2
      have h1 := (o_3 _ (by omega)).trans h1
      have h2 : G_1 (t + 1) = some (a9, .inl (E.2.1 0, 6, .inl (upd f1 0 (nI w)))) := g_2
      refine lv_aload_n hx hb dX5_add_68 rfl (lv_at hl 1 rfl) ?_
      refine lv_dup hx hb dX5_add_69 rfl ?_
      refine tg_get (v := .int (nI L.length)) hx hb hown hAm hw lyX5 h1 rfl 1 (by decide) qw_88 (fun _ h9 => h9) rfl dX5_add_70 ?_
      refine lv_iconst (v := 1) hx hb dX5_add_73 (by decide) ?_
      refine lv_iadd hx hb dX5_add_74 ?_
      refine rc_topi (nI (L.length + 1)) (nI_add L.length 1) ?_
      refine tg_put hx hb hown hAm hw lyX5 tyX5 tyX5_ok nmX5 h1 rfl 1 (by decide) qw_88 (fun _ h9 => h9) rfl rfl rfl (Nat.le_of_ble_eq_true rfl) dX5_add_75 (fun G_4 H locs g_5 o_6 hw => ?_)
      have h2 := (o_6 _ (by omega)).trans h2
      have h1 : G_4 t = some (a, .inr (6, [.ref a9, .int (nI (L.length + 1))])) := g_5
      exact tg_vret hx hb hr hlocks hw (⟨h1, ⟨_, h2, (fun i9 h9 => by rw [insW_at L w i9 (by omega), hp9]; by_cases e8 : i9 = 0; (subst e8; rw [if_neg (by omega), if_pos rfl]; exact if_pos rfl); (refine (if_neg e8).trans ?_; by_cases e7 : i9 < 0); (rw [if_pos e7]; exact hlo i9 e7); (rw [if_neg e7, if_neg e8]; obtain ⟨j9, rfl⟩ : (∃ j9, i9 = j9 + 1) := ⟨i9 - 1, by omega⟩; exact hhi j9 (by omega) (by omega)))⟩, (fun t9 h9 => (o_6 t9 (by omega)).trans ((o_3 t9 (by omega)).trans ((HO t9 (by omega)))))⟩) (Nat.le_of_ble_eq_true rfl) (Nat.le_of_ble_eq_true rfl) dX5_add_78
    | succ k ih =>
      intro f1 ls G1 H locs hk hP hlo hhi h1 h2 HO hw hl
      have hLk := hLs k (by omega)
      refine lv_iload_n hx hb dX5_add_25 rfl (lv_at hl 0 rfl) ?_
      refine lv_if_le (tgt := 61) hx hb dX5_add_26 (by decide) (fun c9 => absurd c9 (fun z9 => absurd ((nI_leI (a := k + 1) (b := 0) (by omega) (by omega)).mp z9) (by omega))) (fun _ => ?_)
      refine lv_aload_n hx hb dX5_add_29 rfl (lv_at hl 1 rfl) ?_
      refine tg_get (v := .ref a9) hx hb hown hAm hw lyX5 h1 rfl 0 (by decide) qw_87 (fun _ h9 => h9) rfl dX5_add_30 ?_
      refine lv_iload_n hx hb dX5_add_33 rfl (lv_at hl 0 rfl) ?_
      refine lv_iconst (v := 1) hx hb dX5_add_34 (by decide) ?_
      refine lv_isub hx hb dX5_add_35 ?_
      refine rc_topi (nI k) (nI_pred _) ?_
      refine tg_iald hx hb hAm hw h2 (vp_in_nI (n := k) (N := 6) (by omega) (by omega)) dX5_add_36 ?_
      refine rc_topi (f1 k) (by rw [nI_clamp (by omega)]) ?_
      refine rc_topi (nI (L.getD k 0)) (hlo k (by omega)) ?_
      refine lv_iload_n hx hb dX5_add_37 rfl (lv_at hl 2 rfl) ?_
      refine lv_icmp_le (tgt := 61) hx hb dX5_add_38 (by decide) (fun c_7 => ?_) (fun c_7 => ?_)
      · have c_7 := (nI_leI (a := L.getD k 0) (b := w) (by omega) (by omega)).mp c_7
        have hp9 : insP L w L.length = k + 1 := (hP.trans (insP_ng (by omega)))
        refine lv_aload_n hx hb dX5_add_61 rfl (lv_at hl 1 rfl) ?_
        refine tg_get (v := .ref a9) hx hb hown hAm hw lyX5 h1 rfl 0 (by decide) qw_87 (fun _ h9 => h9) rfl dX5_add_62 ?_
        refine lv_iload_n hx hb dX5_add_65 rfl (lv_at hl 0 rfl) ?_
        refine lv_iload_n hx hb dX5_add_66 rfl (lv_at hl 2 rfl) ?_
        refine tg_iast hx hb hAm hw h2 (vp_in_nI (n := k + 1) (N := 6) (by omega) (by omega)) dX5_add_67 (fun G_8 H locs g_9 o_10 hw => ?_)
        rw [nI_clamp (by omega)] at g_9
        have h1 := (o_10 _ (by omega)).trans h1
        have h2 : G_8 (t + 1) = some (a9, .inl (E.2.1 0, 6, .inl (upd f1 (k + 1) (nI w)))) := g_9
        refine lv_aload_n hx hb dX5_add_68 rfl (lv_at hl 1 rfl) ?_
        refine lv_dup hx hb dX5_add_69 rfl ?_
        refine tg_get (v := .int (nI L.length)) hx hb hown hAm hw lyX5 h1 rfl 1 (by decide) qw_88 (fun _ h9 => h9) rfl dX5_add_70 ?_
        refine lv_iconst (v := 1) hx hb dX5_add_73 (by decide) ?_
        refine lv_iadd hx hb dX5_add_74 ?_
        refine rc_topi (nI (L.length + 1)) (nI_add L.length 1) ?_
        refine tg_put hx hb hown hAm hw lyX5 tyX5 tyX5_ok nmX5 h1 rfl 1 (by decide) qw_88 (fun _ h9 => h9) rfl rfl rfl (Nat.le_of_ble_eq_true rfl) dX5_add_75 (fun G_11 H locs g_12 o_13 hw => ?_)
        have h2 := (o_13 _ (by omega)).trans h2
        have h1 : G_11 t = some (a, .inr (6, [.ref a9, .int (nI (L.length + 1))])) := g_12
        exact tg_vret hx hb hr hlocks hw (⟨h1, ⟨_, h2, (fun i9 h9 => by rw [insW_at L w i9 (by omega), hp9]; by_cases e8 : i9 = k + 1; (subst e8; rw [if_neg (by omega), if_pos rfl]; exact if_pos rfl); (refine (if_neg e8).trans ?_; by_cases e7 : i9 < k + 1); (rw [if_pos e7]; exact hlo i9 e7); (rw [if_neg e7, if_neg e8]; obtain ⟨j9, rfl⟩ : (∃ j9, i9 = j9 + 1) := ⟨i9 - 1, by omega⟩; exact hhi j9 (by omega) (by omega)))⟩, (fun t9 h9 => (o_13 t9 (by omega)).trans ((o_10 t9 (by omega)).trans ((HO t9 (by omega)))))⟩) (Nat.le_of_ble_eq_true rfl) (Nat.le_of_ble_eq_true rfl) dX5_add_78
      · have c_7 := mt (nI_leI (a := L.getD k 0) (b := w) (by omega) (by omega)).mpr c_7
        refine lv_aload_n hx hb dX5_add_41 rfl (lv_at hl 1 rfl) ?_
        refine tg_get (v := .ref a9) hx hb hown hAm hw lyX5 h1 rfl 0 (by decide) qw_87 (fun _ h9 => h9) rfl dX5_add_42 ?_
        refine lv_iload_n hx hb dX5_add_45 rfl (lv_at hl 0 rfl) ?_
        refine lv_aload_n hx hb dX5_add_46 rfl (lv_at hl 1 rfl) ?_
        refine tg_get (v := .ref a9) hx hb hown hAm hw lyX5 h1 rfl 0 (by decide) qw_87 (fun _ h9 => h9) rfl dX5_add_47 ?_
        refine lv_iload_n hx hb dX5_add_50 rfl (lv_at hl 0 rfl) ?_
        refine lv_iconst (v := 1) hx hb dX5_add_51 (by decide) ?_
        refine lv_isub hx hb dX5_add_52 ?_
        refine rc_topi (nI k) (nI_pred _) ?_
        refine tg_iald hx hb hAm hw h2 (vp_in_nI (n := k) (N := 6) (by omega) (by omega)) dX5_add_53 ?_
        refine rc_topi (f1 k) (by rw [nI_clamp (by omega)]) ?_
        refine rc_topi (nI (L.getD k 0)) (hlo k (by omega)) ?_
        refine tg_iast hx hb hAm hw h2 (vp_in_nI (n := k + 1) (N := 6) (by omega) (by omega)) dX5_add_54 (fun G_14 H locs g_15 o_16 hw => ?_)
        rw [nI_clamp (by omega)] at g_15
        have h1 := (o_16 _ (by omega)).trans h1
        have h2 : G_14 (t + 1) = some (a9, .inl (E.2.1 0, 6, .inl (upd f1 (k + 1) (nI (L.getD k 0))))) := g_15
        refine lv_iinc (v := nI k) (lv' := [(2, .int (nI k)), (0, .ref a), (1, .int (nI w))]) hx hb dX5_add_55 hl (k := 0) rfl (pk_m1 _) (by decide) rfl (fun ls hl => ?_)
        refine lv_goto (tgt := 25) hx hb dX5_add_58 (by decide) ?_
        exact ih _ ls _ _ _ (by omega) (hP.trans (insP_gt (by omega))) (fun i9 h9 => (if_neg (by omega)).trans (hlo i9 (by omega))) (fun i9 h8 h9 => by by_cases e9 : i9 = k; (subst e9; exact if_pos rfl); (exact (if_neg (by omega)).trans (hhi i9 (by omega) h9))) h1 h2 (fun t9 h9 => (o_16 t9 (by omega)).trans ((HO t9 (by omega)))) hw hl
  refine lv_aload_n hx hb dX5_add_0 rfl (lv_at hl 0 rfl) ?_
  refine tg_get (v := .int (nI L.length)) hx hb hown hAm hw lyX5 h1 rfl 1 (by decide) qw_88 (fun _ h9 => h9) rfl dX5_add_1 ?_
  refine lv_if_lt (tgt := 19) hx hb dX5_add_4 (by decide) (fun c9 => absurd c9 (fun z9 => absurd ((nI_ltI (a := L.length) (b := 0) (by omega) (by omega)).mp z9) (by omega))) (fun _ => ?_)
  refine lv_aload_n hx hb dX5_add_7 rfl (lv_at hl 0 rfl) ?_
  refine tg_get (v := .int (nI L.length)) hx hb hown hAm hw lyX5 h1 rfl 1 (by decide) qw_88 (fun _ h9 => h9) rfl dX5_add_8 ?_
  refine lv_aload_n hx hb dX5_add_11 rfl (lv_at hl 0 rfl) ?_
  refine tg_get (v := .ref a9) hx hb hown hAm hw lyX5 h1 rfl 0 (by decide) qw_87 (fun _ h9 => h9) rfl dX5_add_12 ?_
  refine tg_alen hx hb hAm hw 0 h2 rfl 6 rfl dX5_add_15 ?_
  refine lv_icmp_lt (tgt := 20) hx hb dX5_add_16 (by decide) (fun _ => ?_) (fun c9 => absurd ((nI_ltI (a := L.length) (b := 6) (by omega) (by omega)).mpr (by omega)) c9)
  refine lv_aload_n hx hb dX5_add_20 rfl (lv_at hl 0 rfl) ?_
  refine tg_get (v := .int (nI L.length)) hx hb hown hAm hw lyX5 h1 rfl 1 (by decide) qw_88 (fun _ h9 => h9) rfl dX5_add_21 ?_
  refine lv_istore_n (lv' := [(2, .int (nI L.length)), (0, .ref a), (1, .int (nI w))]) hx hb dX5_add_24 rfl hl (by decide) rfl (fun ls hl => ?_)
  exact loop L.length f ls G _ _ (Nat.le_refl _) rfl hf (fun i9 h8 h9 => absurd h9 (by omega)) h1 h2 (fun _ _ => rfl) hw hl
