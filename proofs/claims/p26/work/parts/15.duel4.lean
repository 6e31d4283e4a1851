theorem hd_X2_countWays : yX2_countWays.cls ≠ "java/lang/invoke/MethodHandle" ∧ yX2_countWays.cls ≠ "java/lang/invoke/VarHandle" ∧ (parseMethodDescriptor yX2_countWays.desc).map (fun d => d.parameters.length) = some 0 := by decide +kernel
theorem hd_X2_tally : yX2_tally.cls ≠ "java/lang/invoke/MethodHandle" ∧ yX2_tally.cls ≠ "java/lang/invoke/VarHandle" ∧ (parseMethodDescriptor yX2_tally.desc).map (fun d => d.parameters.length) = some 1 := by decide +kernel
theorem hd_X2_lay : yX2_lay.cls ≠ "java/lang/invoke/MethodHandle" ∧ yX2_lay.cls ≠ "java/lang/invoke/VarHandle" ∧ (parseMethodDescriptor yX2_lay.desc).map (fun d => d.parameters.length) = some 1 := by decide +kernel
set_option maxHeartbeats 4000000 in
set_option maxRecDepth 100000 in
theorem du_weigh (l : Launch) (E : rc_E) (sz : Nat) (G : tg_G) {d fa sa la wa f1 s1 : Nat} {u4 u5 u6 u7 u8 u9 : Int32} {A9 B9 : List Nat} {fA fB g : Nat → Int32} {rw9 : Nat → Option Nat} {w : Nat → Nat} (hfA : ∀ i9, i9 < A9.length → fA i9 = nI (A9.getD i9 0)) (hfB : ∀ i9, i9 < B9.length → fB i9 = nI (B9.getD i9 0)) (hA9 : A9.length ≤ 6) (hB9 : B9.length ≤ 6) (hP9 : ∀ i9, (A9 ++ B9).getD i9 0 < 2 ^ 31) (hrw : ∀ c9, c9 < 7 → rw9 c9 = some (w c9)) (hR : ∀ c9, c9 < 7 → ∃ f : Nat → Int32, G (24 + c9) = some (w c9, .inl (E.2.1 0, 133, .inl f))) (h1 : G 17 = some (d, .inr (3, [.ref fa, .ref sa, .ref la, .ref wa, .int u4, .int u5, .int u6, .int u7, .int u8, .int u9]))) (h2 : G 18 = some (fa, .inr (6, [.ref f1, .int (nI A9.length)]))) (h3 : G 19 = some (f1, .inl (E.2.1 0, 6, .inl fA))) (h4 : G 20 = some (sa, .inr (6, [.ref s1, .int (nI B9.length)]))) (h5 : G 21 = some (s1, .inl (E.2.1 0, 6, .inl fB))) (h6 : G 22 = some (la, .inl (E.2.1 0, 12, .inl g))) (h7 : G 23 = some (wa, .inl (E.2.1 1, 7, .inr (.inr (.inr (.inr rw9)))))) : tg_M l yX2_weigh [Cond.code yX2_weigh cX2_weigh 3 (none : Option FieldType)] { frames := 3, cells := 0, slots := 0, locals := 62 } E [.ref d] G sz (tg_Qv E (fun u => u 17 = some (d, .inr (3, [.ref fa, .ref sa, .ref la, .ref wa, .int (nI ((A9 ++ B9).length)), .int (nI ((A9 ++ B9).length * ((A9 ++ B9).length - 1))), .int (scI A9 B9), .int (nI (hiN A9 B9)), .int (nI (loN A9 B9)), .int (nI (alN A9 B9))])) ∧ (∃ g2 : Nat → Int32, u 22 = some (la, .inl (E.2.1 0, 12, .inl g2))) ∧ (∀ c9, c9 < 7 → ∃ f : Nat → Int32, u (24 + c9) = some (w c9, .inl (E.2.1 0, 133, .inl f))) ∧ ∀ t9, t9 < 17 ∨ (18 ≤ t9 ∧ t9 < 22) ∨ t9 = 23 ∨ 31 ≤ t9 → u t9 = G t9)) 0 0 := by
  refine tg_in (cc := cX2_weigh) (maxL := 3) (ret := (none : Option FieldType)) (tg_Qv E (fun u => u 17 = some (d, .inr (3, [.ref fa, .ref sa, .ref la, .ref wa, .int (nI ((A9 ++ B9).length)), .int (nI ((A9 ++ B9).length * ((A9 ++ B9).length - 1))), .int (scI A9 B9), .int (nI (hiN A9 B9)), .int (nI (loN A9 B9)), .int (nI (alN A9 B9))])) ∧ (∃ g2 : Nat → Int32, u 22 = some (la, .inl (E.2.1 0, 12, .inl g2))) ∧ (∀ c9, c9 < 7 → ∃ f : Nat → Int32, u (24 + c9) = some (w c9, .inl (E.2.1 0, 133, .inl f))) ∧ ∀ t9, t9 < 17 ∨ (18 ≤ t9 ∧ t9 < 22) ∨ t9 = 23 ∨ 31 ≤ t9 → u t9 = G t9)) (by decide) rfl (Nat.le_of_ble_eq_true rfl) ?_
  intro p e s m args below meth cd ls A hx hb hr hml hown hlocks hin hA hAm hw hl
  have hown : s.vm.findClass RX2 = some m.cls := hown
  have hl : lv_has ls 3 [(0, .ref d)] := hl
  have hlen : (A9 ++ B9).length = A9.length + B9.length := List.length_append
  have hsq : (A9 ++ B9).length * ((A9 ++ B9).length - 1) ≤ 132 := Nat.le_trans (Nat.mul_le_mul (show (A9 ++ B9).length ≤ 12 by omega) (show (A9 ++ B9).length - 1 ≤ 11 by omega)) (Nat.le_refl _)
  have hsa : A9.length * (A9.length - 1) ≤ 30 := Nat.le_trans (Nat.mul_le_mul (show A9.length ≤ 6 by omega) (show A9.length - 1 ≤ 5 by omega)) (Nat.le_refl _)
  have HO := fun (t9 : Nat) (_ : t9 ≠ 17) (_ : t9 ≠ 22) => (rfl : G t9 = G t9)
  have loop : ∀ (r k : Nat) (gl : Nat → Int32) (ls : Array Slot) (G1 : tg_G) (H : Heap) (locs : List Loc), k + r = A9.length → (∀ i9, i9 < (A9 ++ B9).length → gl i9 = nI ((A9 ++ B9).getD i9 0)) → G1 17 = some (d, .inr (3, [.ref fa, .ref sa, .ref la, .ref wa, .int (nI ((A9 ++ B9).length)), .int (nI ((A9 ++ B9).length * ((A9 ++ B9).length - 1))), .int u6, .int u7, .int u8, .int u9])) → G1 22 = some (la, .inl (E.2.1 0, 12, .inl gl)) → (∀ t9, t9 ≠ 17 → t9 ≠ 22 → G1 t9 = G t9) → tg_W E A s G1 H locs → lv_has ls 3 [(2, .int (nI k)), (1, .int (nI (ldS (A9 ++ B9) k))), (0, .ref d)] → W p l e { frames := 3, cells := 0, slots := 0, locals := 62 } s m args below meth cd H locs 0 0 (MQ below ((tg_Qv E (fun u => u 17 = some (d, .inr (3, [.ref fa, .ref sa, .ref la, .ref wa, .int (nI ((A9 ++ B9).length)), .int (nI ((A9 ++ B9).length * ((A9 ++ B9).length - 1))), .int (scI A9 B9), .int (nI (hiN A9 B9)), .int (nI (loN A9 B9)), .int (nI (alN A9 B9))])) ∧ (∃ g2 : Nat → Int32, u 22 = some (la, .inl (E.2.1 0, 12, .inl g2))) ∧ (∀ c9, c9 < 7 → ∃ f : Nat → Int32, u (24 + c9) = some (w c9, .inl (E.2.1 0, 133, .inl f))) ∧ ∀ t9, t9 < 17 ∨ (18 ≤ t9 ∧ t9 < 22) ∨ t9 = 23 ∨ 31 ≤ t9 → u t9 = G t9)) A) args s 0 0 A) (F0 m 46 ls []) := by
    intro r
    induction r with
    | zero =>
      intro k gl ls G1 H locs hk hgl h1 h6 HO hw hl
      have hld := ldS_le (A9 ++ B9) k
      have hlm : 2 * (A9 ++ B9).length * k ≤ 24 * 6 := Nat.mul_le_mul (by omega) (by omega)
      have h2 := (HO 18 (by omega) (by omega)).trans h2
      have h4 := (HO 20 (by omega) (by omega)).trans h4
      have h7 := (HO 23 (by omega) (by omega)).trans h7
      obtain rfl : k = A9.length := by omega
      refine lv_iload_n hx hb dX2_weigh_46 rfl (lv_at hl 0 rfl) ?_
      refine lv_aload_n hx hb dX2_weigh_47 rfl (lv_at hl 2 rfl) ?_
      refine tg_get (v := .ref fa) hx hb hown hAm hw lyX2 h1 rfl 0 (by decide) qw_107 (fun _ h9 => h9) rfl dX2_weigh_48 ?_
      refine tg_getN (v := .int (nI A9.length)) hx hb hown hAm hw lyX5 h2 rfl 1 (by decide) qw_89 (fun _ h9 => h9) rfl dX2_weigh_51 ?_
      refine lv_icmp_ge (tgt := 71) hx hb dX2_weigh_54 (by decide) (fun _ => ?_) (fun c9 => absurd ((nI_leI (a := A9.length) (b := A9.length) (by omega) (by omega)).mpr (by omega)) c9)
      refine lv_aload_n hx hb dX2_weigh_71 rfl (lv_at hl 2 rfl) ?_
      refine lv_iload_n hx hb dX2_weigh_72 rfl (lv_at hl 1 rfl) ?_
      refine lv_aload_n hx hb dX2_weigh_73 rfl (lv_at hl 2 rfl) ?_
      refine tg_get (v := .ref fa) hx hb hown hAm hw lyX2 h1 rfl 0 (by decide) qw_107 (fun _ h9 => h9) rfl dX2_weigh_74 ?_
      refine tg_getN (v := .int (nI A9.length)) hx hb hown hAm hw lyX5 h2 rfl 1 (by decide) qw_89 (fun _ h9 => h9) rfl dX2_weigh_77 ?_
      refine lv_aload_n hx hb dX2_weigh_80 rfl (lv_at hl 2 rfl) ?_
      refine tg_get (v := .ref fa) hx hb hown hAm hw lyX2 h1 rfl 0 (by decide) qw_107 (fun _ h9 => h9) rfl dX2_weigh_81 ?_
      refine tg_getN (v := .int (nI A9.length)) hx hb hown hAm hw lyX5 h2 rfl 1 (by decide) qw_89 (fun _ h9 => h9) rfl dX2_weigh_84 ?_
      refine lv_iconst (v := 1) hx hb dX2_weigh_87 (by decide) ?_
      refine lv_isub hx hb dX2_weigh_88 ?_
      refine lv_imul hx hb dX2_weigh_89 ?_
      refine rc_topi (nI (A9.length * (A9.length - 1))) (nb_sq _) ?_
      refine lv_isub hx hb dX2_weigh_90 ?_
      refine tg_put hx hb hown hAm hw lyX2 tyX2 tyX2_ok nmX2 h1 rfl 6 (by decide) qw_115 (fun _ h9 => h9) rfl rfl rfl (Nat.le_of_ble_eq_true rfl) dX2_weigh_91 (fun G_1 H locs g_2 o_3 hw => ?_)
      have h2 := (o_3 _ (by decide)).trans h2
      have h4 := (o_3 _ (by decide)).trans h4
      have h6 := (o_3 _ (by decide)).trans h6
      have h7 := (o_3 _ (by decide)).trans h7
      have h1 : G_1 17 = some (d, .inr (3, [.ref fa, .ref sa, .ref la, .ref wa, .int (nI ((A9 ++ B9).length)), .int (nI ((A9 ++ B9).length * ((A9 ++ B9).length - 1))), .int (nI (ldS (A9 ++ B9) A9.length) - (nI (A9.length * (A9.length - 1)))), .int u7, .int u8, .int u9])) := g_2
      have HO := fun t9 (h8 : t9 ≠ 17) (h9 : t9 ≠ 22) => (o_3 t9 h8).trans (HO t9 h8 h9)
      refine lv_aload_n hx hb dX2_weigh_94 rfl (lv_at hl 2 rfl) ?_
      refine tg_callv (va_runV (As := []) (rest := []) (Ts := []) ⟨hx, hb, hml, hown, fun _ h9 => absurd h9 List.not_mem_nil⟩ (du_countWays l E _ G_1 (P := A9 ++ B9) (w := w) hgl (by omega) hP9 (by omega) hsq hrw (fun c9 h9 => by obtain ⟨f, e1⟩ := hR c9 h9; exact ⟨f, (HO _ (by omega) (by omega)).trans e1⟩) h1 h2 h6 h7) (rc_cwV hAm qw_483 qw_7 qw_486 qw_485 qs_17 rfl rfl hd_X2_countWays ⟨Nat.le_of_ble_eq_true rfl, Nat.le_of_ble_eq_true rfl⟩) (tg_preV hAm hA hw h1 (q := vwCl[3]) rfl) rfl rfl hl.1 rfl (lv_room (Nat.le_of_ble_eq_true rfl)) dX2_weigh_95 ⟨Nat.le_of_ble_eq_true rfl, Nat.le_of_ble_eq_true rfl⟩) hA hw (fun G_4 H locs hp hw => ?_)
      obtain ⟨hR9, hu⟩ := hp
      obtain ⟨fr, er1, er2⟩ := hR9 A9.length (by omega)
      have h1 := (hu 17 (by omega)).trans h1
      have h2 := (hu 18 (by omega)).trans h2
      have h4 := (hu 20 (by omega)).trans h4
      have h6 := (hu 22 (by omega)).trans h6
      have h7 := (hu 23 (by omega)).trans h7
      have HO := fun t9 (h7 : t9 ≠ 17) (h8 : t9 ≠ 22) (h9 : t9 < 24 ∨ 31 ≤ t9) => (hu t9 h9).trans (HO t9 h7 h8)
      refine lv_aload_n hx hb dX2_weigh_98 rfl (lv_at hl 2 rfl) ?_
      refine lv_iload_n hx hb dX2_weigh_99 rfl (lv_at hl 1 rfl) ?_
      refine tg_callv (va_runV (As := [.int (nI (ldS (A9 ++ B9) A9.length))]) (rest := []) (Ts := []) ⟨hx, hb, hml, hown, fun _ h9 => absurd h9 List.not_mem_nil⟩ (du_tally l E _ G_4 (F9 := fun j9 => wy (ldN (A9 ++ B9)) (A9 ++ B9).length A9.length j9) hsq (by omega) (by omega) (hrw _ (by omega)) (fun j9 y9 => er2 (Nat.le_refl _) j9 y9) h1 h2 h7 er1) (rc_cwV hAm qw_495 qw_7 qw_498 qw_497 qs_20 rfl rfl hd_X2_tally ⟨Nat.le_of_ble_eq_true rfl, Nat.le_of_ble_eq_true rfl⟩) (tg_preV hAm hA hw h1 (q := vwCl[3]) rfl) rfl rfl hl.1 rfl (lv_room (Nat.le_of_ble_eq_true rfl)) dX2_weigh_100 ⟨Nat.le_of_ble_eq_true rfl, Nat.le_of_ble_eq_true rfl⟩) hA hw (fun G_6 H locs hp hw => ?_)
      obtain ⟨h1, hu⟩ := hp
      have h2 := (hu 18 (by omega)).trans h2
      have h4 := (hu 20 (by omega)).trans h4
      have h6 := (hu 22 (by omega)).trans h6
      have h7 := (hu 23 (by omega)).trans h7
      have er1 := (hu (24 + A9.length) (by omega)).trans er1
      have HO := fun t9 (h7 : t9 ≠ 17) (h8 : t9 ≠ 22) (h9 : t9 < 24 ∨ 31 ≤ t9) => (hu t9 h7).trans (HO t9 h7 h8 h9)
      exact tg_vret hx hb hr hlocks hw (⟨h1, ⟨_, h6⟩, fun c9 h9 => by obtain ⟨f, e1, e2⟩ := hR9 c9 h9; exact ⟨f, (hu _ (by omega)).trans e1⟩, fun t9 h9 => HO t9 (by omega) (by omega) (by omega)⟩) (Nat.le_of_ble_eq_true rfl) (Nat.le_of_ble_eq_true rfl) dX2_weigh_103
    | succ r ih =>
      intro k gl ls G1 H locs hk hgl h1 h6 HO hw hl
      have hld := ldS_le (A9 ++ B9) k
      have hlm : 2 * (A9 ++ B9).length * k ≤ 24 * 6 := Nat.mul_le_mul (by omega) (by omega)
      have h2 := (HO 18 (by omega) (by omega)).trans h2
      have h4 := (HO 20 (by omega) (by omega)).trans h4
      have h7 := (HO 23 (by omega) (by omega)).trans h7
      refine lv_iload_n hx hb dX2_weigh_46 rfl (lv_at hl 0 rfl) ?_
      refine lv_aload_n hx hb dX2_weigh_47 rfl (lv_at hl 2 rfl) ?_
      refine tg_get (v := .ref fa) hx hb hown hAm hw lyX2 h1 rfl 0 (by decide) qw_107 (fun _ h9 => h9) rfl dX2_weigh_48 ?_
      refine tg_getN (v := .int (nI A9.length)) hx hb hown hAm hw lyX5 h2 rfl 1 (by decide) qw_89 (fun _ h9 => h9) rfl dX2_weigh_51 ?_
      refine lv_icmp_ge (tgt := 71) hx hb dX2_weigh_54 (by decide) (fun c9 => absurd c9 (fun z9 => absurd ((nI_leI (a := A9.length) (b := k) (by omega) (by omega)).mp z9) (by omega))) (fun _ => ?_)
      refine lv_iload_n hx hb dX2_weigh_57 rfl (lv_at hl 1 rfl) ?_
      refine lv_aload_n hx hb dX2_weigh_58 rfl (lv_at hl 2 rfl) ?_
      refine lv_iload_n hx hb dX2_weigh_59 rfl (lv_at hl 0 rfl) ?_
      refine tg_callRi (va_runV (As := [.int (nI k)]) (rest := [.int (nI (ldS (A9 ++ B9) k))]) (Ts := []) ⟨hx, hb, hml, hown, fun _ h9 => absurd h9 List.not_mem_nil⟩ (du_leadOf l E _ G1 (P := A9 ++ B9) k hgl (by omega) (by omega) hP9 h1 h6) (rc_cwV hAm qw_479 qw_7 qw_482 qw_481 qs_16 rfl rfl hd_X2_leadOf ⟨Nat.le_of_ble_eq_true rfl, Nat.le_of_ble_eq_true rfl⟩) (tg_preV hAm hA hw h1 (q := vwCl[3]) rfl) rfl rfl hl.1 rfl (lv_room (Nat.le_of_ble_eq_true rfl)) dX2_weigh_60 ⟨Nat.le_of_ble_eq_true rfl, Nat.le_of_ble_eq_true rfl⟩) hA hw (fun H locs hw => ?_)
      refine lv_iadd hx hb dX2_weigh_63 ?_
      refine rc_topi (nI (ldS (A9 ++ B9) k + ldN (A9 ++ B9) k)) (nI_add (ldS (A9 ++ B9) k) (ldN (A9 ++ B9) k)) ?_
      refine lv_istore_n (lv' := [(1, .int (nI (ldS (A9 ++ B9) k + ldN (A9 ++ B9) k))), (2, .int (nI k)), (0, .ref d)]) hx hb dX2_weigh_64 rfl hl (by decide) rfl (fun ls hl => ?_)
      refine lv_iinc (v := nI (k + 1)) (lv' := [(2, .int (nI (k + 1))), (1, .int (nI (ldS (A9 ++ B9) k + ldN (A9 ++ B9) k))), (0, .ref d)]) hx hb dX2_weigh_65 hl (k := 1) rfl (nI_1 _) (by decide) rfl (fun ls hl => ?_)
      refine lv_goto (tgt := 46) hx hb dX2_weigh_68 (by decide) ?_
      exact ih (k + 1) gl ls _ _ _ (by omega) hgl h1 h6 HO hw hl
  refine lv_aload_n hx hb dX2_weigh_0 rfl (lv_at hl 0 rfl) ?_
  refine lv_iconst (v := 0) hx hb dX2_weigh_1 (by decide) ?_
  refine tg_put hx hb hown hAm hw lyX2 tyX2 tyX2_ok nmX2 h1 rfl 4 (by decide) qw_113 (fun _ h9 => h9) rfl rfl (by decide +kernel) (Nat.le_of_ble_eq_true rfl) dX2_weigh_2 (fun G_8 H locs g_9 o_10 hw => ?_)
  have h2 := (o_10 _ (by decide)).trans h2
  have h3 := (o_10 _ (by decide)).trans h3
  have h4 := (o_10 _ (by decide)).trans h4
  have h5 := (o_10 _ (by decide)).trans h5
  have h6 := (o_10 _ (by decide)).trans h6
  have h7 := (o_10 _ (by decide)).trans h7
  have h1 : G_8 17 = some (d, .inr (3, [.ref fa, .ref sa, .ref la, .ref wa, .int 0, .int u5, .int u6, .int u7, .int u8, .int u9])) := g_9
  refine lv_aload_n hx hb dX2_weigh_5 rfl (lv_at hl 0 rfl) ?_
  refine lv_aload_n hx hb dX2_weigh_6 rfl (lv_at hl 0 rfl) ?_
  refine tg_get (v := .ref fa) hx hb hown hAm hw lyX2 h1 rfl 0 (by decide) qw_107 (fun _ h9 => h9) rfl dX2_weigh_7 ?_
  have HO := fun t9 (h8 : t9 ≠ 17) (h9 : t9 ≠ 22) => (o_10 t9 h8).trans (HO t9 h8 h9)
  refine tg_callv (va_runV (As := [.ref fa]) (rest := []) (Ts := []) ⟨hx, hb, hml, hown, fun _ h9 => absurd h9 List.not_mem_nil⟩ (du_lay l E _ G_8 (P := []) (L := A9) (fun i9 h9 => absurd h9 (Nat.not_lt_zero _)) hfA (by omega) (show 0 + A9.length ≤ 12 by omega) (by omega) h1 h6 h2 h3) (rc_cwV hAm qw_470 qw_7 qw_473 qw_472 qs_14 rfl rfl hd_X2_lay ⟨Nat.le_of_ble_eq_true rfl, Nat.le_of_ble_eq_true rfl⟩) (tg_preV hAm hA hw h1 (q := vwCl[3]) rfl) rfl rfl hl.1 rfl (lv_room (Nat.le_of_ble_eq_true rfl)) dX2_weigh_10 ⟨Nat.le_of_ble_eq_true rfl, Nat.le_of_ble_eq_true rfl⟩) hA hw (fun G_11 H locs hp hw => ?_)
  obtain ⟨h1, ⟨gl, h6, hgl⟩, hu⟩ := hp
  have h2 := (hu 18 (by omega) (by omega)).trans h2
  have h3 := (hu 19 (by omega) (by omega)).trans h3
  have h4 := (hu 20 (by omega) (by omega)).trans h4
  have h5 := (hu 21 (by omega) (by omega)).trans h5
  have h7 := (hu 23 (by omega) (by omega)).trans h7
  have HO := fun t9 (h8 : t9 ≠ 17) (h9 : t9 ≠ 22) => (hu t9 h8 h9).trans (HO t9 h8 h9)
  rw [show ([] : List Nat).length + A9.length = A9.length from Nat.zero_add _] at h1
  refine lv_aload_n hx hb dX2_weigh_13 rfl (lv_at hl 0 rfl) ?_
  refine lv_aload_n hx hb dX2_weigh_14 rfl (lv_at hl 0 rfl) ?_
  refine tg_get (v := .ref sa) hx hb hown hAm hw lyX2 h1 rfl 1 (by decide) qw_109 (fun _ h9 => h9) rfl dX2_weigh_15 ?_
  refine tg_callv (va_runV (As := [.ref sa]) (rest := []) (Ts := []) ⟨hx, hb, hml, hown, fun _ h9 => absurd h9 List.not_mem_nil⟩ (du_lay l E _ G_11 (P := A9) (L := B9) hgl hfB (by omega) (by omega) (by omega) h1 h6 h4 h5) (rc_cwV hAm qw_470 qw_7 qw_473 qw_472 qs_14 rfl rfl hd_X2_lay ⟨Nat.le_of_ble_eq_true rfl, Nat.le_of_ble_eq_true rfl⟩) (tg_preV hAm hA hw h1 (q := vwCl[3]) rfl) rfl rfl hl.1 rfl (lv_room (Nat.le_of_ble_eq_true rfl)) dX2_weigh_18 ⟨Nat.le_of_ble_eq_true rfl, Nat.le_of_ble_eq_true rfl⟩) hA hw (fun G_13 H locs hp hw => ?_)
  obtain ⟨h1, ⟨gl, h6, hgl⟩, hu⟩ := hp
  have h2 := (hu 18 (by omega) (by omega)).trans h2
  have h3 := (hu 19 (by omega) (by omega)).trans h3
  have h4 := (hu 20 (by omega) (by omega)).trans h4
  have h5 := (hu 21 (by omega) (by omega)).trans h5
  have h7 := (hu 23 (by omega) (by omega)).trans h7
  have HO := fun t9 (h8 : t9 ≠ 17) (h9 : t9 ≠ 22) => (hu t9 h8 h9).trans (HO t9 h8 h9)
  rw [← List.length_append] at h1
  refine lv_aload_n hx hb dX2_weigh_21 rfl (lv_at hl 0 rfl) ?_
  refine lv_sipush (v := 132) hx hb dX2_weigh_22 (by decide) ?_
  refine lv_aload_n hx hb dX2_weigh_25 rfl (lv_at hl 0 rfl) ?_
  refine tg_get (v := .int (nI ((A9 ++ B9).length))) hx hb hown hAm hw lyX2 h1 rfl 4 (by decide) qw_113 (fun _ h9 => h9) rfl dX2_weigh_26 ?_
  refine lv_aload_n hx hb dX2_weigh_29 rfl (lv_at hl 0 rfl) ?_
  refine tg_get (v := .int (nI ((A9 ++ B9).length))) hx hb hown hAm hw lyX2 h1 rfl 4 (by decide) qw_113 (fun _ h9 => h9) rfl dX2_weigh_30 ?_
  refine lv_iconst (v := 1) hx hb dX2_weigh_33 (by decide) ?_
  refine lv_isub hx hb dX2_weigh_34 ?_
  refine lv_imul hx hb dX2_weigh_35 ?_
  refine rc_topi (nI ((A9 ++ B9).length * ((A9 ++ B9).length - 1))) (nb_sq _) ?_
  refine va_mmin hx hb (by rw [hml]; exact hl.1.symm) hown (hAm.wd qw_478 rfl rfl) (hAm.wd qw_218 rfl rfl) (hAm.wd qw_10 rfl rfl) (hAm.wd qw_219 rfl rfl) (Nat.le_of_ble_eq_true rfl) (Nat.le_of_ble_eq_true rfl) (Nat.le_of_ble_eq_true rfl) (Nat.le_of_ble_eq_true rfl) dX2_weigh_36 ?_
  refine rc_topi (nI (min 132 ((A9 ++ B9).length * ((A9 ++ B9).length - 1)))) (nb_min (a := 132) (b := (A9 ++ B9).length * ((A9 ++ B9).length - 1)) (by omega) (by omega)) ?_
  refine rc_topi (nI ((A9 ++ B9).length * ((A9 ++ B9).length - 1))) (congrArg nI (Nat.min_eq_right hsq)) ?_
  refine tg_put hx hb hown hAm hw lyX2 tyX2 tyX2_ok nmX2 h1 rfl 5 (by decide) qw_114 (fun _ h9 => h9) rfl rfl rfl (Nat.le_of_ble_eq_true rfl) dX2_weigh_39 (fun G_15 H locs g_16 o_17 hw => ?_)
  have h2 := (o_17 _ (by decide)).trans h2
  have h3 := (o_17 _ (by decide)).trans h3
  have h4 := (o_17 _ (by decide)).trans h4
  have h5 := (o_17 _ (by decide)).trans h5
  have h6 := (o_17 _ (by decide)).trans h6
  have h7 := (o_17 _ (by decide)).trans h7
  have h1 : G_15 17 = some (d, .inr (3, [.ref fa, .ref sa, .ref la, .ref wa, .int (nI ((A9 ++ B9).length)), .int (nI ((A9 ++ B9).length * ((A9 ++ B9).length - 1))), .int u6, .int u7, .int u8, .int u9])) := g_16
  refine lv_iconst (v := 0) hx hb dX2_weigh_42 (by decide) ?_
  refine lv_istore_n (lv' := [(1, .int 0), (0, .ref d)]) hx hb dX2_weigh_43 rfl hl (by decide) rfl (fun ls hl => ?_)
  refine lv_iconst (v := 0) hx hb dX2_weigh_44 (by decide) ?_
  refine lv_istore_n (lv' := [(2, .int 0), (1, .int 0), (0, .ref d)]) hx hb dX2_weigh_45 rfl hl (by decide) rfl (fun ls hl => ?_)
  have HO := fun t9 (h8 : t9 ≠ 17) (h9 : t9 ≠ 22) => (o_17 t9 h8).trans (HO t9 h8 h9)
  exact loop A9.length 0 gl ls _ _ _ (by omega) hgl h1 h6 HO hw hl
