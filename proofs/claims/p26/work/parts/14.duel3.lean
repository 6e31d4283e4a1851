theorem hd_X2_addShifted : yX2_addShifted.cls ≠ "java/lang/invoke/MethodHandle" ∧ yX2_addShifted.cls ≠ "java/lang/invoke/VarHandle" ∧ (parseMethodDescriptor yX2_addShifted.desc).map (fun d => d.parameters.length) = some 3 := by decide +kernel
theorem hd_X2_leadOf : yX2_leadOf.cls ≠ "java/lang/invoke/MethodHandle" ∧ yX2_leadOf.cls ≠ "java/lang/invoke/VarHandle" ∧ (parseMethodDescriptor yX2_leadOf.desc).map (fun d => d.parameters.length) = some 1 := by decide +kernel
theorem hd_X2_clearLeads : yX2_clearLeads.cls ≠ "java/lang/invoke/MethodHandle" ∧ yX2_clearLeads.cls ≠ "java/lang/invoke/VarHandle" ∧ (parseMethodDescriptor yX2_clearLeads.desc).map (fun d => d.parameters.length) = some 1 := by decide +kernel
set_option maxHeartbeats 4000000 in
set_option maxRecDepth 100000 in
theorem du_countWays (l : Launch) (E : rc_E) (sz : Nat) (G : tg_G) {d fa sa la wa f1 U nA : Nat} {u6 u7 u8 u9 : Int32} {P : List Nat} {g : Nat → Int32} {rw9 : Nat → Option Nat} {w : Nat → Nat} (hg : ∀ i9, i9 < P.length → g i9 = nI (P.getD i9 0)) (hP : P.length ≤ 12) (hP9 : ∀ i9, P.getD i9 0 < 2 ^ 31) (hn : nA ≤ 6) (hU : U ≤ 132) (hrw : ∀ c9, c9 < 7 → rw9 c9 = some (w c9)) (hR : ∀ c9, c9 < 7 → ∃ f : Nat → Int32, G (24 + c9) = some (w c9, .inl (E.2.1 0, 133, .inl f))) (b1 : G 17 = some (d, .inr (3, [.ref fa, .ref sa, .ref la, .ref wa, .int (nI P.length), .int (nI U), .int u6, .int u7, .int u8, .int u9]))) (b2 : G 18 = some (fa, .inr (6, [.ref f1, .int (nI nA)]))) (b3 : G 22 = some (la, .inl (E.2.1 0, 12, .inl g))) (b4 : G 23 = some (wa, .inl (E.2.1 1, 7, .inr (.inr (.inr (.inr rw9)))))) : tg_M l yX2_countWays [Cond.code yX2_countWays cX2_countWays 5 (none : Option FieldType)] { frames := 2, cells := 0, slots := 0, locals := 38 } E [.ref d] G sz (tg_Qv E (fun u => (∀ c9, c9 < 7 → ∃ f : Nat → Int32, u (24 + c9) = some (w c9, .inl (E.2.1 0, 133, .inl f)) ∧ (c9 ≤ nA → ∀ j9, j9 ≤ U → f j9 = nI (wy (ldN P) P.length c9 j9))) ∧ ∀ t9, t9 < 24 ∨ 31 ≤ t9 → u t9 = G t9)) 0 0 := by
  refine tg_in (cc := cX2_countWays) (maxL := 5) (ret := (none : Option FieldType)) (tg_Qv E (fun u => (∀ c9, c9 < 7 → ∃ f : Nat → Int32, u (24 + c9) = some (w c9, .inl (E.2.1 0, 133, .inl f)) ∧ (c9 ≤ nA → ∀ j9, j9 ≤ U → f j9 = nI (wy (ldN P) P.length c9 j9))) ∧ ∀ t9, t9 < 24 ∨ 31 ≤ t9 → u t9 = G t9)) (by decide) rfl (Nat.le_of_ble_eq_true rfl) ?_
  intro p e s m args below meth cd ls A hx hb hr hml hown hlocks hin hA hAm hw hl
  have hown : s.vm.findClass RX2 = some m.cls := hown
  have hl : lv_has ls 5 [(0, .ref d)] := hl
  have loop2 : ∀ (r k : Nat) (ls : Array Slot) (G1 : tg_G) (H : Heap) (locs : List Loc), k + r = P.length → (∀ c9, c9 < 7 → ∃ f : Nat → Int32, G1 (24 + c9) = some (w c9, .inl (E.2.1 0, 133, .inl f)) ∧ (c9 ≤ nA → ∀ j9, j9 ≤ U → f j9 = nI (wy (ldN P) k c9 j9))) → (∀ t9, t9 < 24 ∨ 31 ≤ t9 → G1 t9 = G t9) → tg_W E A s G1 H locs → lv_has ls 5 [(1, .int (nI k)), (0, .ref d)] → W p l e { frames := 2, cells := 0, slots := 0, locals := 38 } s m args below meth cd H locs 0 0 (MQ below ((tg_Qv E (fun u => (∀ c9, c9 < 7 → ∃ f : Nat → Int32, u (24 + c9) = some (w c9, .inl (E.2.1 0, 133, .inl f)) ∧ (c9 ≤ nA → ∀ j9, j9 ≤ U → f j9 = nI (wy (ldN P) P.length c9 j9))) ∧ ∀ t9, t9 < 24 ∨ 31 ≤ t9 → u t9 = G t9)) A) args s 0 0 A) (F0 m 43 ls []) := by
    intro r
    induction r with
    | zero =>
      intro k ls G1 H locs hk hI HO hw hl
      have h1 := (HO 17 (by omega)).trans b1
      have h2 := (HO 18 (by omega)).trans b2
      have h3 := (HO 22 (by omega)).trans b3
      have h4 := (HO 23 (by omega)).trans b4
      refine lv_iload_n hx hb dX2_countWays_43 rfl (lv_at hl 0 rfl) ?_
      refine lv_aload_n hx hb dX2_countWays_44 rfl (lv_at hl 1 rfl) ?_
      refine tg_get (v := .int (nI P.length)) hx hb hown hAm hw lyX2 h1 rfl 4 (by decide) qw_113 (fun _ h9 => h9) rfl dX2_countWays_45 ?_
      refine lv_icmp_ge (tgt := 117) hx hb dX2_countWays_48 (by decide) (fun _ => ?_) (fun c9 => absurd ((nI_leI (a := P.length) (b := k) (by omega) (by omega)).mpr (by omega)) c9)
      exact tg_vret hx hb hr hlocks hw (⟨fun c9 h9 => by obtain ⟨f, e1, e2⟩ := hI c9 h9; exact ⟨f, e1, fun z9 j9 y9 => by rw [show P.length = k by omega]; exact e2 z9 j9 y9⟩, HO⟩) (Nat.le_of_ble_eq_true rfl) (Nat.le_of_ble_eq_true rfl) dX2_countWays_117
    | succ r ih =>
      intro k ls G1 H locs hk hI HO hw hl
      have h1 := (HO 17 (by omega)).trans b1
      have h2 := (HO 18 (by omega)).trans b2
      have h3 := (HO 22 (by omega)).trans b3
      have h4 := (HO 23 (by omega)).trans b4
      have hld := ldN_le P k
      have inner : ∀ (d9 : Nat) (ls : Array Slot) (G2 : tg_G) (H : Heap) (locs : List Loc), d9 ≤ min (k + 1) nA → (∀ c9, c9 < 7 → ∃ f : Nat → Int32, G2 (24 + c9) = some (w c9, .inl (E.2.1 0, 133, .inl f)) ∧ (c9 ≤ nA → ∀ j9, j9 ≤ U → f j9 = nI (if c9 ≤ d9 then wy (ldN P) k c9 j9 else wy (ldN P) (k + 1) c9 j9))) → (∀ t9, t9 < 24 ∨ 31 ≤ t9 → G2 t9 = G t9) → tg_W E A s G2 H locs → lv_has ls 5 [(3, .int (nI d9 + (-1))), (2, .int (nI (ldN P k))), (1, .int (nI k)), (0, .ref d)] → W p l e { frames := 2, cells := 0, slots := 0, locals := 38 } s m args below meth cd H locs 0 0 (MQ below ((tg_Qv E (fun u => (∀ c9, c9 < 7 → ∃ f : Nat → Int32, u (24 + c9) = some (w c9, .inl (E.2.1 0, 133, .inl f)) ∧ (c9 ≤ nA → ∀ j9, j9 ≤ U → f j9 = nI (wy (ldN P) P.length c9 j9))) ∧ ∀ t9, t9 < 24 ∨ 31 ≤ t9 → u t9 = G t9)) A) args s 0 0 A) (F0 m 71 ls []) := by
        intro d9
        induction d9 with
        | zero =>
          intro ls G2 H locs hd hJ HO hw hl
          have h1 := (HO 17 (by omega)).trans b1
          have h2 := (HO 18 (by omega)).trans b2
          have h3 := (HO 22 (by omega)).trans b3
          have h4 := (HO 23 (by omega)).trans b4
          refine lv_iload_n hx hb dX2_countWays_71 rfl (lv_at hl 0 rfl) ?_
          refine lv_if_lt (tgt := 111) hx hb dX2_countWays_72 (by decide) (fun _ => ?_) (fun c9 => absurd ((by decide)) c9)
          refine lv_iinc (v := nI (k + 1)) (lv' := [(1, .int (nI (k + 1))), (3, .int (nI 0 + (-1))), (2, .int (nI (ldN P k))), (0, .ref d)]) hx hb dX2_countWays_111 hl (k := 2) rfl (nI_1 _) (by decide) rfl (fun ls hl => ?_)
          refine lv_goto (tgt := 43) hx hb dX2_countWays_114 (by decide) ?_
          exact ih (k + 1) ls _ _ _ (by omega) (fun c9 h9 => by obtain ⟨f, e1, e2⟩ := hJ c9 h9; refine ⟨f, e1, fun z9 j9 y9 => (e2 z9 j9 y9).trans (congrArg nI ?_)⟩; by_cases e9 : c9 ≤ 0; (rw [if_pos e9, show c9 = 0 by omega]; rfl); (rw [if_neg e9])) HO hw (lv_sub hl [0, 3] rfl)
        | succ c8 ih2 =>
          intro ls G2 H locs hd hJ HO hw hl
          rw [pk_m1] at hl
          have h1 := (HO 17 (by omega)).trans b1
          have h2 := (HO 18 (by omega)).trans b2
          have h3 := (HO 22 (by omega)).trans b3
          have h4 := (HO 23 (by omega)).trans b4
          refine lv_iload_n hx hb dX2_countWays_71 rfl (lv_at hl 0 rfl) ?_
          refine lv_if_lt (tgt := 111) hx hb dX2_countWays_72 (by decide) (fun c9 => absurd c9 (fun z9 => absurd ((nI_ltI (a := c8) (b := 0) (by omega) (by omega)).mp z9) (by omega))) (fun _ => ?_)
          refine lv_iload_n hx hb dX2_countWays_75 rfl (lv_at hl 0 rfl) ?_
          refine lv_iconst (v := 1) hx hb dX2_countWays_76 (by decide) ?_
          refine lv_iadd hx hb dX2_countWays_77 ?_
          refine rc_topi (nI (c8 + 1)) (nI_add c8 1) ?_
          refine lv_aload_n hx hb dX2_countWays_78 rfl (lv_at hl 3 rfl) ?_
          refine tg_get (v := .ref wa) hx hb hown hAm hw lyX2 h1 rfl 3 (by decide) qw_112 (fun _ h9 => h9) rfl dX2_countWays_79 ?_
          refine tg_alen hx hb hAm hw 1 h4 rfl 7 rfl dX2_countWays_82 ?_
          refine lv_icmp_ge (tgt := 105) hx hb dX2_countWays_83 (by decide) (fun c9 => absurd c9 (fun z9 => absurd ((nI_leI (a := 7) (b := c8 + 1) (by omega) (by omega)).mp z9) (by omega))) (fun _ => ?_)
          refine lv_aload_n hx hb dX2_countWays_86 rfl (lv_at hl 3 rfl) ?_
          refine lv_aload_n hx hb dX2_countWays_87 rfl (lv_at hl 3 rfl) ?_
          refine tg_get (v := .ref wa) hx hb hown hAm hw lyX2 h1 rfl 3 (by decide) qw_112 (fun _ h9 => h9) rfl dX2_countWays_88 ?_
          refine lv_iload_n hx hb dX2_countWays_91 rfl (lv_at hl 0 rfl) ?_
          obtain ⟨fr, er1, er2⟩ := hJ c8 (by omega)
          refine tg_rald hx hb hAm hw h4 (vp_in_nI (n := c8) (N := 7) (by omega) (by omega)) dX2_countWays_92 ?_
          refine rc_topv (.ref (w c8)) (by rw [nI_clamp (by omega), hrw c8 (by omega)]; rfl) ?_
          refine lv_aload_n hx hb dX2_countWays_93 rfl (lv_at hl 3 rfl) ?_
          refine tg_get (v := .ref wa) hx hb hown hAm hw lyX2 h1 rfl 3 (by decide) qw_112 (fun _ h9 => h9) rfl dX2_countWays_94 ?_
          refine lv_iload_n hx hb dX2_countWays_97 rfl (lv_at hl 0 rfl) ?_
          refine lv_iconst (v := 1) hx hb dX2_countWays_98 (by decide) ?_
          refine lv_iadd hx hb dX2_countWays_99 ?_
          refine rc_topi (nI (c8 + 1)) (nI_add c8 1) ?_
          refine tg_rald hx hb hAm hw h4 (vp_in_nI (n := c8 + 1) (N := 7) (by omega) (by omega)) dX2_countWays_100 ?_
          refine rc_topv (.ref (w (c8 + 1))) (by rw [nI_clamp (by omega), hrw (c8 + 1) (by omega)]; rfl) ?_
          obtain ⟨ft, et1, et2⟩ := hJ (c8 + 1) (by omega)
          refine lv_iload_n hx hb dX2_countWays_101 rfl (lv_at hl 1 rfl) ?_
          refine tg_callv (va_runV (As := [.ref (w c8), .ref (w (c8 + 1)), .int (nI (ldN P k))]) (rest := []) (Ts := []) ⟨hx, hb, hml, hown, fun _ h9 => absurd h9 List.not_mem_nil⟩ (du_addShifted l E _ G2 (F9 := fun j9 => wy (ldN P) k c8 j9) (T9 := fun j9 => wy (ldN P) k (c8 + 1) j9) (by omega) (by omega) (by omega) (by omega) (by omega) (fun j9 y9 => (er2 (by omega) j9 y9).trans (congrArg nI (if_pos (by omega)))) (fun j9 y9 => (et2 (by omega) j9 y9).trans (congrArg nI (if_pos (by omega)))) h1 er1 et1) (rc_cwV hAm qw_491 qw_7 qw_494 qw_493 qs_19 rfl rfl hd_X2_addShifted ⟨Nat.le_of_ble_eq_true rfl, Nat.le_of_ble_eq_true rfl⟩) (tg_preV hAm hA hw h1 (q := vwCl[3]) rfl) rfl rfl hl.1 rfl (lv_room (Nat.le_of_ble_eq_true rfl)) dX2_countWays_102 ⟨Nat.le_of_ble_eq_true rfl, Nat.le_of_ble_eq_true rfl⟩) hA hw (fun G_1 H locs hp hw => ?_)
          obtain ⟨⟨gc, hc1, hc2⟩, hu⟩ := hp
          have HO := fun t9 (h9 : t9 < 24 ∨ 31 ≤ t9) => (hu t9 (by omega)).trans (HO t9 h9)
          have h1 := (hu 17 (by omega)).trans h1
          have h2 := (hu 18 (by omega)).trans h2
          have h3 := (hu 22 (by omega)).trans h3
          have h4 := (hu 23 (by omega)).trans h4
          have hJ : ∀ c9, c9 < 7 → ∃ f : Nat → Int32, G_1 (24 + c9) = some (w c9, .inl (E.2.1 0, 133, .inl f)) ∧ (c9 ≤ nA → ∀ j9, j9 ≤ U → f j9 = nI (if c9 ≤ c8 then wy (ldN P) k c9 j9 else wy (ldN P) (k + 1) c9 j9)) := by
            intro c9 h9
            by_cases e9 : c9 = c8 + 1
            · subst e9
              refine ⟨gc, hc1, fun z9 j9 y9 => (hc2 j9 y9).trans (congrArg nI ?_)⟩
              rw [if_neg (show ¬ c8 + 1 ≤ c8 by omega)]
              rfl
            · obtain ⟨f, e1, e2⟩ := hJ c9 h9
              refine ⟨f, (hu _ (by omega)).trans e1, fun z9 j9 y9 => (e2 z9 j9 y9).trans (congrArg nI ?_)⟩
              by_cases e8 : c9 ≤ c8
              · rw [if_pos e8, if_pos (by omega)]
              · rw [if_neg e8, if_neg (by omega)]
          refine lv_iinc (v := nI c8 + (-1)) (lv' := [(3, .int (nI c8 + (-1))), (2, .int (nI (ldN P k))), (1, .int (nI k)), (0, .ref d)]) hx hb dX2_countWays_105 hl (k := 0) rfl rfl (by decide) rfl (fun ls hl => ?_)
          refine lv_goto (tgt := 71) hx hb dX2_countWays_108 (by decide) ?_
          exact ih2 ls _ _ _ (by omega) hJ HO hw hl
      refine lv_iload_n hx hb dX2_countWays_43 rfl (lv_at hl 0 rfl) ?_
      refine lv_aload_n hx hb dX2_countWays_44 rfl (lv_at hl 1 rfl) ?_
      refine tg_get (v := .int (nI P.length)) hx hb hown hAm hw lyX2 h1 rfl 4 (by decide) qw_113 (fun _ h9 => h9) rfl dX2_countWays_45 ?_
      refine lv_icmp_ge (tgt := 117) hx hb dX2_countWays_48 (by decide) (fun c9 => absurd c9 (fun z9 => absurd ((nI_leI (a := P.length) (b := k) (by omega) (by omega)).mp z9) (by omega))) (fun _ => ?_)
      refine lv_aload_n hx hb dX2_countWays_51 rfl (lv_at hl 1 rfl) ?_
      refine lv_iload_n hx hb dX2_countWays_52 rfl (lv_at hl 0 rfl) ?_
      refine tg_callRi (va_runV (As := [.int (nI k)]) (rest := []) (Ts := []) ⟨hx, hb, hml, hown, fun _ h9 => absurd h9 List.not_mem_nil⟩ (du_leadOf l E _ G1 (P := P) k hg (by omega) (by omega) hP9 h1 h3) (rc_cwV hAm qw_479 qw_7 qw_482 qw_481 qs_16 rfl rfl hd_X2_leadOf ⟨Nat.le_of_ble_eq_true rfl, Nat.le_of_ble_eq_true rfl⟩) (tg_preV hAm hA hw h1 (q := vwCl[3]) rfl) rfl rfl hl.1 rfl (lv_room (Nat.le_of_ble_eq_true rfl)) dX2_countWays_53 ⟨Nat.le_of_ble_eq_true rfl, Nat.le_of_ble_eq_true rfl⟩) hA hw (fun H locs hw => ?_)
      refine lv_istore_n (lv' := [(2, .int (nI (ldN P k))), (1, .int (nI k)), (0, .ref d)]) hx hb dX2_countWays_56 rfl hl (by decide) rfl (fun ls hl => ?_)
      refine lv_iload_n hx hb dX2_countWays_57 rfl (lv_at hl 1 rfl) ?_
      refine lv_aload_n hx hb dX2_countWays_58 rfl (lv_at hl 2 rfl) ?_
      refine tg_get (v := .ref fa) hx hb hown hAm hw lyX2 h1 rfl 0 (by decide) qw_107 (fun _ h9 => h9) rfl dX2_countWays_59 ?_
      refine tg_getN (v := .int (nI nA)) hx hb hown hAm hw lyX5 h2 rfl 1 (by decide) qw_89 (fun _ h9 => h9) rfl dX2_countWays_62 ?_
      refine lv_iconst (v := 1) hx hb dX2_countWays_65 (by decide) ?_
      refine lv_isub hx hb dX2_countWays_66 ?_
      refine va_mmin hx hb (by rw [hml]; exact hl.1.symm) hown (hAm.wd qw_478 rfl rfl) (hAm.wd qw_218 rfl rfl) (hAm.wd qw_10 rfl rfl) (hAm.wd qw_219 rfl rfl) (Nat.le_of_ble_eq_true rfl) (Nat.le_of_ble_eq_true rfl) (Nat.le_of_ble_eq_true rfl) (Nat.le_of_ble_eq_true rfl) dX2_countWays_67 ?_
      refine rc_topi (nI (min (k + 1) nA) + (-1)) (nb_mn (by omega) (by omega)) ?_
      refine lv_istore_n (lv' := [(3, .int (nI (min (k + 1) nA) + (-1))), (2, .int (nI (ldN P k))), (1, .int (nI k)), (0, .ref d)]) hx hb dX2_countWays_70 rfl hl (by decide) rfl (fun ls hl => ?_)
      exact inner (min (k + 1) nA) ls _ _ _ (Nat.le_refl _) (fun c9 h9 => by obtain ⟨f, e1, e2⟩ := hI c9 h9; refine ⟨f, e1, fun z9 j9 y9 => (e2 z9 j9 y9).trans (congrArg nI ?_)⟩; by_cases e9 : c9 ≤ min (k + 1) nA; (rw [if_pos e9]); (rw [if_neg e9, wy_zero _ _ _ _ (by omega), wy_zero _ _ _ _ (by omega)])) HO hw hl
  have loop1 : ∀ (r k : Nat) (ls : Array Slot) (G1 : tg_G) (H : Heap) (locs : List Loc), k + r = 7 → (∀ c9, c9 < 7 → ∃ f : Nat → Int32, G1 (24 + c9) = some (w c9, .inl (E.2.1 0, 133, .inl f)) ∧ (c9 < k → ∀ j9, j9 ≤ U → f j9 = 0)) → (∀ t9, t9 < 24 ∨ 31 ≤ t9 → G1 t9 = G t9) → tg_W E A s G1 H locs → lv_has ls 5 [(3, .int (nI k)), (2, .int 7), (1, .ref wa), (0, .ref d)] → W p l e { frames := 2, cells := 0, slots := 0, locals := 38 } s m args below meth cd H locs 0 0 (MQ below ((tg_Qv E (fun u => (∀ c9, c9 < 7 → ∃ f : Nat → Int32, u (24 + c9) = some (w c9, .inl (E.2.1 0, 133, .inl f)) ∧ (c9 ≤ nA → ∀ j9, j9 ≤ U → f j9 = nI (wy (ldN P) P.length c9 j9))) ∧ ∀ t9, t9 < 24 ∨ 31 ≤ t9 → u t9 = G t9)) A) args s 0 0 A) (F0 m 10 ls []) := by
    intro r
    induction r with
    | zero =>
      intro k ls G1 H locs hk hI HO hw hl
      obtain rfl : k = 7 := by omega
      have h1 := (HO 17 (by omega)).trans b1
      have h2 := (HO 18 (by omega)).trans b2
      have h3 := (HO 22 (by omega)).trans b3
      have h4 := (HO 23 (by omega)).trans b4
      refine lv_iload_n hx hb dX2_countWays_10 rfl (lv_at hl 0 rfl) ?_
      refine lv_iload_n hx hb dX2_countWays_11 rfl (lv_at hl 1 rfl) ?_
      refine lv_icmp_ge (tgt := 32) hx hb dX2_countWays_12 (by decide) (fun _ => ?_) (fun c9 => absurd ((nI_leI (a := 7) (b := 7) (by omega) (by omega)).mpr (by omega)) c9)
      refine lv_aload_n hx hb dX2_countWays_32 rfl (lv_at hl 3 rfl) ?_
      refine tg_get (v := .ref wa) hx hb hown hAm hw lyX2 h1 rfl 3 (by decide) qw_112 (fun _ h9 => h9) rfl dX2_countWays_33 ?_
      refine lv_iconst (v := 0) hx hb dX2_countWays_36 (by decide) ?_
      refine tg_rald hx hb hAm hw h4 (vp_in_iff.mpr (by decide)) dX2_countWays_37 ?_
      refine rc_topv (.ref (w 0)) (by show va_rf (rw9 0) = _; rw [hrw 0 (by omega)]; rfl) ?_
      obtain ⟨fr, er1, er2⟩ := hI 0 (by omega)
      refine lv_iconst (v := 0) hx hb dX2_countWays_38 (by decide) ?_
      refine lv_iconst (v := 1) hx hb dX2_countWays_39 (by decide) ?_
      refine tg_iast hx hb hAm hw er1 (vp_in_iff.mpr (by decide)) dX2_countWays_40 (fun G_3 H locs g_4 o_5 hw => ?_)
      have h1 := (o_5 _ (by omega)).trans h1
      have h2 := (o_5 _ (by omega)).trans h2
      have h3 := (o_5 _ (by omega)).trans h3
      have h4 := (o_5 _ (by omega)).trans h4
      have er1 : G_3 (24 + 0) = some (w 0, .inl (E.2.1 0, 133, .inl (upd fr 0 1))) := g_4
      refine lv_iconst (v := 0) hx hb dX2_countWays_41 (by decide) ?_
      refine lv_istore_n (lv' := [(1, .int 0), (3, .int (nI 7)), (2, .int 7), (0, .ref d)]) hx hb dX2_countWays_42 rfl hl (by decide) rfl (fun ls hl => ?_)
      have HO := fun t9 (h9 : t9 < 24 ∨ 31 ≤ t9) => (o_5 t9 (by omega)).trans (HO t9 h9)
      refine loop2 P.length 0 ls _ _ _ (by omega) (fun c9 h9 => ?_) HO hw (lv_sub hl [0, 3] rfl)
      by_cases e9 : c9 = 0
      · subst e9
        refine ⟨_, er1, fun z9 j9 y9 => ?_⟩
        by_cases e8 : j9 = 0
        · subst e8; rfl
        · refine (if_neg e8).trans ((er2 (by omega) j9 y9).trans (congrArg nI ?_))
          exact (if_neg (fun z => e8 z.2)).symm
      · obtain ⟨f, e1, e2⟩ := hI c9 h9
        refine ⟨f, (o_5 _ (by omega)).trans e1, fun z9 j9 y9 => (e2 (by omega) j9 y9).trans (congrArg nI ?_)⟩
        exact (if_neg (fun z => e9 z.1)).symm
    | succ r ih =>
      intro k ls G1 H locs hk hI HO hw hl
      have h1 := (HO 17 (by omega)).trans b1
      have h2 := (HO 18 (by omega)).trans b2
      have h3 := (HO 22 (by omega)).trans b3
      have h4 := (HO 23 (by omega)).trans b4
      refine lv_iload_n hx hb dX2_countWays_10 rfl (lv_at hl 0 rfl) ?_
      refine lv_iload_n hx hb dX2_countWays_11 rfl (lv_at hl 1 rfl) ?_
      refine lv_icmp_ge (tgt := 32) hx hb dX2_countWays_12 (by decide) (fun c9 => absurd c9 (fun z9 => absurd ((nI_leI (a := 7) (b := k) (by omega) (by omega)).mp z9) (by omega))) (fun _ => ?_)
      refine lv_aload_n hx hb dX2_countWays_15 rfl (lv_at hl 2 rfl) ?_
      refine lv_iload_n hx hb dX2_countWays_16 rfl (lv_at hl 0 rfl) ?_
      refine tg_rald hx hb hAm hw h4 (vp_in_nI (n := k) (N := 7) (by omega) (by omega)) dX2_countWays_17 ?_
      refine rc_topv (.ref (w k)) (by rw [nI_clamp (by omega), hrw k (by omega)]; rfl) ?_
      obtain ⟨fr, er1, er2⟩ := hI k (by omega)
      refine lv_astore (lv' := [(4, .ref (w k)), (3, .int (nI k)), (2, .int 7), (1, .ref wa), (0, .ref d)]) hx hb dX2_countWays_18 hl (by decide) rfl (fun ls hl => ?_)
      refine lv_aload_n hx hb dX2_countWays_20 rfl (lv_at hl 4 rfl) ?_
      refine lv_aload hx hb dX2_countWays_21 (lv_at hl 0 rfl) ?_
      refine tg_callv (va_runV (As := [.ref (w k)]) (rest := []) (Ts := []) ⟨hx, hb, hml, hown, fun _ h9 => absurd h9 List.not_mem_nil⟩ (du_clearLeads l E _ G1 (by omega) (by omega) h1 er1) (rc_cwV hAm qw_487 qw_7 qw_490 qw_489 qs_18 rfl rfl hd_X2_clearLeads ⟨Nat.le_of_ble_eq_true rfl, Nat.le_of_ble_eq_true rfl⟩) (tg_preV hAm hA hw h1 (q := vwCl[3]) rfl) rfl rfl hl.1 rfl (lv_room (Nat.le_of_ble_eq_true rfl)) dX2_countWays_23 ⟨Nat.le_of_ble_eq_true rfl, Nat.le_of_ble_eq_true rfl⟩) hA hw (fun G_6 H locs hp hw => ?_)
      obtain ⟨⟨gc, hc1, hc2⟩, hu⟩ := hp
      have HO := fun t9 (h9 : t9 < 24 ∨ 31 ≤ t9) => (hu t9 (by omega)).trans (HO t9 h9)
      have hI : ∀ c9, c9 < 7 → ∃ f : Nat → Int32, G_6 (24 + c9) = some (w c9, .inl (E.2.1 0, 133, .inl f)) ∧ (c9 < k + 1 → ∀ j9, j9 ≤ U → f j9 = 0) := by
        intro c9 h9
        by_cases e9 : c9 = k
        · subst e9; exact ⟨gc, hc1, fun _ => hc2⟩
        · obtain ⟨f, e1, e2⟩ := hI c9 h9
          exact ⟨f, (hu _ (by omega)).trans e1, fun z9 => e2 (by omega)⟩
      refine lv_iinc (v := nI (k + 1)) (lv' := [(3, .int (nI (k + 1))), (4, .ref (w k)), (2, .int 7), (1, .ref wa), (0, .ref d)]) hx hb dX2_countWays_26 hl (k := 1) rfl (nI_1 _) (by decide) rfl (fun ls hl => ?_)
      refine lv_goto (tgt := 10) hx hb dX2_countWays_29 (by decide) ?_
      exact ih (k + 1) ls _ _ _ (by omega) hI HO hw (lv_sub hl [0, 2, 3, 4] rfl)
  refine lv_aload_n hx hb dX2_countWays_0 rfl (lv_at hl 0 rfl) ?_
  refine tg_get (v := .ref wa) hx hb hown hAm hw lyX2 b1 rfl 3 (by decide) qw_112 (fun _ h9 => h9) rfl dX2_countWays_1 ?_
  refine lv_astore_n (lv' := [(1, .ref wa), (0, .ref d)]) hx hb dX2_countWays_4 rfl hl (by decide) rfl (fun ls hl => ?_)
  refine lv_aload_n hx hb dX2_countWays_5 rfl (lv_at hl 0 rfl) ?_
  refine tg_alen hx hb hAm hw 1 b4 rfl 7 rfl dX2_countWays_6 ?_
  refine lv_istore_n (lv' := [(2, .int 7), (1, .ref wa), (0, .ref d)]) hx hb dX2_countWays_7 rfl hl (by decide) rfl (fun ls hl => ?_)
  refine lv_iconst (v := 0) hx hb dX2_countWays_8 (by decide) ?_
  refine lv_istore_n (lv' := [(3, .int 0), (2, .int 7), (1, .ref wa), (0, .ref d)]) hx hb dX2_countWays_9 rfl hl (by decide) rfl (fun ls hl => ?_)
  exact loop1 7 0 ls _ _ _ (by omega) (fun c9 h9 => by obtain ⟨f, e1⟩ := hR c9 h9; exact ⟨f, e1, fun z9 => absurd z9 (Nat.not_lt_zero _)⟩) (fun _ _ => rfl) hw hl
