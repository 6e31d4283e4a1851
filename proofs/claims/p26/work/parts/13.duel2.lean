set_option maxHeartbeats 4000000 in
set_option maxRecDepth 100000 in
theorem du_outcome (l : Launch) (E : rc_E) (sz : Nat) (G : tg_G) {d fa sa la wa f1 s1 p0 nA nB hi lo al en lv : Nat} {u5 u6 : Int32} (hn : nA ≤ 6 ∧ nB ≤ 6) (he : en < 100) (hh : hi * 1000 < 2 ^ 31) (hlo : lo * 1000 < 2 ^ 31) (hv : lv * al < 2 ^ 31) (h1 : G 17 = some (d, .inr (3, [.ref fa, .ref sa, .ref la, .ref wa, .int (nI p0), .int u5, .int u6, .int (nI hi), .int (nI lo), .int (nI al)]))) (h2 : G 18 = some (fa, .inr (6, [.ref f1, .int (nI nA)]))) (h3 : G 20 = some (sa, .inr (6, [.ref s1, .int (nI nB)]))) : tg_M l yX2_outcome [Cond.code yX2_outcome cX2_outcome 3 (some FieldType.int)] { frames := 0, cells := 0, slots := 0, locals := 0 } E [.ref d, .int (nI en), .int (nI lv)] G sz (tg_Qi E (fun r u => r = nI (outF nA nB hi lo al en lv) ∧ u = G)) 0 0 := by
  refine tg_in (cc := cX2_outcome) (maxL := 3) (ret := (some FieldType.int)) (tg_Qi E (fun r u => r = nI (outF nA nB hi lo al en lv) ∧ u = G)) (by decide) rfl (Nat.le_of_ble_eq_true rfl) ?_
  intro p e s m args below meth cd ls A hx hb hr hml hown hlocks hin hA hAm hw hl
  have hown : s.vm.findClass RX2 = some m.cls := hown
  have hl : lv_has ls 3 [(0, .ref d), (1, .int (nI en)), (2, .int (nI lv))] := hl
  obtain ⟨hn1, hn2⟩ := hn
  refine lv_aload_n hx hb dX2_outcome_0 rfl (lv_at hl 0 rfl) ?_
  refine tg_get (v := .ref fa) hx hb hown hAm hw lyX2 h1 rfl 0 (by decide) qw_107 (fun _ h9 => h9) rfl dX2_outcome_1 ?_
  refine tg_getN (v := .int (nI nA)) hx hb hown hAm hw lyX5 h2 rfl 1 (by decide) qw_89 (fun _ h9 => h9) rfl dX2_outcome_4 ?_
  refine lv_iload_n hx hb dX2_outcome_7 rfl (lv_at hl 1 rfl) ?_
  refine lv_icmp_lt (tgt := 22) hx hb dX2_outcome_8 (by decide) (fun c_1 => ?_) (fun c_1 => ?_)
  · have c_1 := (nI_ltI (a := nA) (b := en) (by omega) (by omega)).mp c_1
    refine lv_iconst (v := 0) hx hb dX2_outcome_22 (by decide) ?_
    exact tg_iret hx hb hr hlocks hw (⟨by unfold outF; (repeat' split) <;> first | rfl | omega, rfl⟩) (Nat.le_of_ble_eq_true rfl) (Nat.le_of_ble_eq_true rfl) dX2_outcome_23
  · have c_1 := mt (nI_ltI (a := nA) (b := en) (by omega) (by omega)).mpr c_1
    refine lv_aload_n hx hb dX2_outcome_11 rfl (lv_at hl 0 rfl) ?_
    refine tg_get (v := .ref sa) hx hb hown hAm hw lyX2 h1 rfl 1 (by decide) qw_109 (fun _ h9 => h9) rfl dX2_outcome_12 ?_
    refine tg_getN (v := .int (nI nB)) hx hb hown hAm hw lyX5 h3 rfl 1 (by decide) qw_89 (fun _ h9 => h9) rfl dX2_outcome_15 ?_
    refine lv_iload_n hx hb dX2_outcome_18 rfl (lv_at hl 1 rfl) ?_
    refine lv_icmp_ge (tgt := 24) hx hb dX2_outcome_19 (by decide) (fun c_2 => ?_) (fun c_2 => ?_)
    · have c_2 := (nI_leI (a := en) (b := nB) (by omega) (by omega)).mp c_2
      refine lv_aload_n hx hb dX2_outcome_24 rfl (lv_at hl 0 rfl) ?_
      refine tg_get (v := .int (nI hi)) hx hb hown hAm hw lyX2 h1 rfl 7 (by decide) qw_117 (fun _ h9 => h9) rfl dX2_outcome_25 ?_
      refine lv_sipush (v := 1000) hx hb dX2_outcome_28 (by decide) ?_
      refine lv_imul hx hb dX2_outcome_31 ?_
      refine rc_topi (nI (hi * 1000)) (pk_mul hi 1000) ?_
      refine lv_iload_n hx hb dX2_outcome_32 rfl (lv_at hl 2 rfl) ?_
      refine lv_aload_n hx hb dX2_outcome_33 rfl (lv_at hl 0 rfl) ?_
      refine tg_get (v := .int (nI al)) hx hb hown hAm hw lyX2 h1 rfl 9 (by decide) qw_121 (fun _ h9 => h9) rfl dX2_outcome_34 ?_
      refine lv_imul hx hb dX2_outcome_37 ?_
      refine rc_topi (nI (lv * al)) (pk_mul lv al) ?_
      refine lv_icmp_gt (tgt := 43) hx hb dX2_outcome_38 (by decide) (fun c_3 => ?_) (fun c_3 => ?_)
      · have c_3 := (nI_ltI (a := lv * al) (b := hi * 1000) (by omega) (by omega)).mp c_3
        refine lv_aload_n hx hb dX2_outcome_43 rfl (lv_at hl 0 rfl) ?_
        refine tg_get (v := .int (nI lo)) hx hb hown hAm hw lyX2 h1 rfl 8 (by decide) qw_119 (fun _ h9 => h9) rfl dX2_outcome_44 ?_
        refine lv_sipush (v := 1000) hx hb dX2_outcome_47 (by decide) ?_
        refine lv_imul hx hb dX2_outcome_50 ?_
        refine rc_topi (nI (lo * 1000)) (pk_mul lo 1000) ?_
        refine lv_iload_n hx hb dX2_outcome_51 rfl (lv_at hl 2 rfl) ?_
        refine lv_aload_n hx hb dX2_outcome_52 rfl (lv_at hl 0 rfl) ?_
        refine tg_get (v := .int (nI al)) hx hb hown hAm hw lyX2 h1 rfl 9 (by decide) qw_121 (fun _ h9 => h9) rfl dX2_outcome_53 ?_
        refine lv_imul hx hb dX2_outcome_56 ?_
        refine rc_topi (nI (lv * al)) (pk_mul lv al) ?_
        refine lv_icmp_gt (tgt := 62) hx hb dX2_outcome_57 (by decide) (fun c_4 => ?_) (fun c_4 => ?_)
        · have c_4 := (nI_ltI (a := lv * al) (b := lo * 1000) (by omega) (by omega)).mp c_4
          refine lv_aload_n hx hb dX2_outcome_62 rfl (lv_at hl 0 rfl) ?_
          refine tg_get (v := .ref fa) hx hb hown hAm hw lyX2 h1 rfl 0 (by decide) qw_107 (fun _ h9 => h9) rfl dX2_outcome_63 ?_
          refine tg_getN (v := .int (nI nA)) hx hb hown hAm hw lyX5 h2 rfl 1 (by decide) qw_89 (fun _ h9 => h9) rfl dX2_outcome_66 ?_
          refine lv_bipush (v := 6) hx hb dX2_outcome_69 (by decide) ?_
          refine lv_icmp_ne (tgt := 90) hx hb dX2_outcome_71 (by decide) (fun c_5 => ?_) (fun c_5 => ?_)
          · have c_5 := mt (nI_eq (a := nA) (b := 6) (by omega) (by omega)).mpr c_5
            refine lv_iconst (v := 4) hx hb dX2_outcome_90 (by decide) ?_
            exact tg_iret hx hb hr hlocks hw (⟨by unfold outF; (repeat' split) <;> first | rfl | omega, rfl⟩) (Nat.le_of_ble_eq_true rfl) (Nat.le_of_ble_eq_true rfl) dX2_outcome_91
          · have c_5 := (nI_eq (a := nA) (b := 6) (by omega) (by omega)).mp c_5
            refine lv_aload_n hx hb dX2_outcome_74 rfl (lv_at hl 0 rfl) ?_
            refine tg_get (v := .ref sa) hx hb hown hAm hw lyX2 h1 rfl 1 (by decide) qw_109 (fun _ h9 => h9) rfl dX2_outcome_75 ?_
            refine tg_getN (v := .int (nI nB)) hx hb hown hAm hw lyX5 h3 rfl 1 (by decide) qw_89 (fun _ h9 => h9) rfl dX2_outcome_78 ?_
            refine lv_bipush (v := 6) hx hb dX2_outcome_81 (by decide) ?_
            refine lv_icmp_ne (tgt := 90) hx hb dX2_outcome_83 (by decide) (fun c_6 => ?_) (fun c_6 => ?_)
            · have c_6 := mt (nI_eq (a := nB) (b := 6) (by omega) (by omega)).mpr c_6
              refine lv_iconst (v := 4) hx hb dX2_outcome_90 (by decide) ?_
              exact tg_iret hx hb hr hlocks hw (⟨by unfold outF; (repeat' split) <;> first | rfl | omega, rfl⟩) (Nat.le_of_ble_eq_true rfl) (Nat.le_of_ble_eq_true rfl) dX2_outcome_91
            · have c_6 := (nI_eq (a := nB) (b := 6) (by omega) (by omega)).mp c_6
              refine lv_iconst (v := 3) hx hb dX2_outcome_86 (by decide) ?_
              refine lv_goto (tgt := 91) hx hb dX2_outcome_87 (by decide) ?_
              exact tg_iret hx hb hr hlocks hw (⟨by unfold outF; (repeat' split) <;> first | rfl | omega, rfl⟩) (Nat.le_of_ble_eq_true rfl) (Nat.le_of_ble_eq_true rfl) dX2_outcome_91
        · have c_4 := mt (nI_ltI (a := lv * al) (b := lo * 1000) (by omega) (by omega)).mpr c_4
          refine lv_iconst (v := 2) hx hb dX2_outcome_60 (by decide) ?_
          exact tg_iret hx hb hr hlocks hw (⟨by unfold outF; (repeat' split) <;> first | rfl | omega, rfl⟩) (Nat.le_of_ble_eq_true rfl) (Nat.le_of_ble_eq_true rfl) dX2_outcome_61
      · have c_3 := mt (nI_ltI (a := lv * al) (b := hi * 1000) (by omega) (by omega)).mpr c_3
        refine lv_iconst (v := 1) hx hb dX2_outcome_41 (by decide) ?_
        exact tg_iret hx hb hr hlocks hw (⟨by unfold outF; (repeat' split) <;> first | rfl | omega, rfl⟩) (Nat.le_of_ble_eq_true rfl) (Nat.le_of_ble_eq_true rfl) dX2_outcome_42
    · have c_2 := mt (nI_leI (a := en) (b := nB) (by omega) (by omega)).mpr c_2
      refine lv_iconst (v := 0) hx hb dX2_outcome_22 (by decide) ?_
      exact tg_iret hx hb hr hlocks hw (⟨by unfold outF; (repeat' split) <;> first | rfl | omega, rfl⟩) (Nat.le_of_ble_eq_true rfl) (Nat.le_of_ble_eq_true rfl) dX2_outcome_23
set_option maxHeartbeats 4000000 in
set_option maxRecDepth 100000 in
theorem du_share (l : Launch) (E : rc_E) (sz : Nat) (G : tg_G) {d fa sa la wa p0 hi lo al : Nat} {u5 u6 : Int32} (hp : 0 < al) (ha : al < 2 ^ 31) (hnan : vf_n64 (FP.ddiv (FP.i2d (nI hi)) (FP.i2d (nI al)))) (h1 : G 17 = some (d, .inr (3, [.ref fa, .ref sa, .ref la, .ref wa, .int (nI p0), .int u5, .int u6, .int (nI hi), .int (nI lo), .int (nI al)]))) : tg_M l yX2_shareOfHigh [Cond.code yX2_shareOfHigh cX2_shareOfHigh 1 (some FieldType.double)] { frames := 0, cells := 0, slots := 0, locals := 0 } E [.ref d] G sz (tg_Qd E (fun r u => r = FP.ddiv (FP.i2d (nI hi)) (FP.i2d (nI al)) ∧ u = G)) 0 0 := by
  refine tg_in (cc := cX2_shareOfHigh) (maxL := 1) (ret := (some FieldType.double)) (tg_Qd E (fun r u => r = FP.ddiv (FP.i2d (nI hi)) (FP.i2d (nI al)) ∧ u = G)) (by decide) rfl (Nat.le_of_ble_eq_true rfl) ?_
  intro p e s m args below meth cd ls A hx hb hr hml hown hlocks hin hA hAm hw hl
  have hown : s.vm.findClass RX2 = some m.cls := hown
  have hl : lv_has ls 1 [(0, .ref d)] := hl
  refine lv_aload_n hx hb dX2_shareOfHigh_0 rfl (lv_at hl 0 rfl) ?_
  refine tg_get (v := .int (nI al)) hx hb hown hAm hw lyX2 h1 rfl 9 (by decide) qw_121 (fun _ h9 => h9) rfl dX2_shareOfHigh_1 ?_
  refine lv_if_le (tgt := 21) hx hb dX2_shareOfHigh_4 (by decide) (fun c9 => absurd c9 (fun z9 => absurd ((nI_leI (a := al) (b := 0) (by omega) (by omega)).mp z9) (by omega))) (fun _ => ?_)
  refine lv_aload_n hx hb dX2_shareOfHigh_7 rfl (lv_at hl 0 rfl) ?_
  refine tg_get (v := .int (nI hi)) hx hb hown hAm hw lyX2 h1 rfl 7 (by decide) qw_117 (fun _ h9 => h9) rfl dX2_shareOfHigh_8 ?_
  refine lv_i2d hx hb dX2_shareOfHigh_11 ?_
  refine lv_aload_n hx hb dX2_shareOfHigh_12 rfl (lv_at hl 0 rfl) ?_
  refine tg_get (v := .int (nI al)) hx hb hown hAm hw lyX2 h1 rfl 9 (by decide) qw_121 (fun _ h9 => h9) rfl dX2_shareOfHigh_13 ?_
  refine lv_i2d hx hb dX2_shareOfHigh_16 ?_
  refine lv_ddiv hx hb dX2_shareOfHigh_17 hnan ?_
  refine lv_goto (tgt := 22) hx hb dX2_shareOfHigh_18 (by decide) ?_
  exact tg_dret hx hb hr hlocks hw (⟨rfl, rfl⟩) (Nat.le_of_ble_eq_true rfl) (Nat.le_of_ble_eq_true rfl) dX2_shareOfHigh_22
set_option maxHeartbeats 4000000 in
set_option maxRecDepth 100000 in
theorem du_tally (l : Launch) (E : rc_E) (sz : Nat) (G : tg_G) {d fa sa la wa f1 p0 U nA le ro : Nat} {u6 u7 u8 u9 : Int32} {f : Nat → Int32} {rw9 : Nat → Option Nat} {F9 : Nat → Nat} (hU : U ≤ 132) (hn : nA ≤ 6) (hle : le < 2 ^ 30) (hro : rw9 nA = some ro) (hf : ∀ i9, i9 ≤ U → f i9 = nI (F9 i9)) (h1 : G 17 = some (d, .inr (3, [.ref fa, .ref sa, .ref la, .ref wa, .int (nI p0), .int (nI U), .int u6, .int u7, .int u8, .int u9]))) (h3 : G 18 = some (fa, .inr (6, [.ref f1, .int (nI nA)]))) (h4 : G 23 = some (wa, .inl (E.2.1 1, 7, .inr (.inr (.inr (.inr rw9)))))) (h2 : G (24 + nA) = some (ro, .inl (E.2.1 0, 133, .inl f))) : tg_M l yX2_tally [Cond.code yX2_tally cX2_tally 4 (none : Option FieldType)] { frames := 0, cells := 0, slots := 0, locals := 0 } E [.ref d, .int (nI le)] G sz (tg_Qv E (fun u => u 17 = some (d, .inr (3, [.ref fa, .ref sa, .ref la, .ref wa, .int (nI p0), .int (nI U), .int u6, .int (nI (smR (fun i9 => if le ≤ i9 then F9 i9 else 0) (U + 1))), .int (nI (smR (fun i9 => if i9 ≤ le then F9 i9 else 0) (U + 1))), .int (nI (smR F9 (U + 1)))])) ∧ ∀ t9, t9 ≠ 17 → u t9 = G t9)) 0 0 := by
  refine tg_in (cc := cX2_tally) (maxL := 4) (ret := (none : Option FieldType)) (tg_Qv E (fun u => u 17 = some (d, .inr (3, [.ref fa, .ref sa, .ref la, .ref wa, .int (nI p0), .int (nI U), .int u6, .int (nI (smR (fun i9 => if le ≤ i9 then F9 i9 else 0) (U + 1))), .int (nI (smR (fun i9 => if i9 ≤ le then F9 i9 else 0) (U + 1))), .int (nI (smR F9 (U + 1)))])) ∧ ∀ t9, t9 ≠ 17 → u t9 = G t9)) (by decide) rfl (Nat.le_of_ble_eq_true rfl) ?_
  intro p e s m args below meth cd ls A hx hb hr hml hown hlocks hin hA hAm hw hl
  have hown : s.vm.findClass RX2 = some m.cls := hown
  have hl : lv_has ls 4 [(0, .ref d), (1, .int (nI le))] := hl
  have loop : ∀ (r k : Nat) (ls : Array Slot) (G1 : tg_G) (H : Heap) (locs : List Loc), k + r = U + 1 → G1 17 = some (d, .inr (3, [.ref fa, .ref sa, .ref la, .ref wa, .int (nI p0), .int (nI U), .int u6, .int (nI (smR (fun i9 => if le ≤ i9 then F9 i9 else 0) k)), .int (nI (smR (fun i9 => if i9 ≤ le then F9 i9 else 0) k)), .int (nI (smR F9 k))])) → G1 (24 + nA) = some (ro, .inl (E.2.1 0, 133, .inl f)) → (∀ t9, t9 ≠ 17 → G1 t9 = G t9) → tg_W E A s G1 H locs → lv_has ls 4 [(3, .int (nI k)), (2, .ref ro), (0, .ref d), (1, .int (nI le))] → W p l e { frames := 0, cells := 0, slots := 0, locals := 0 } s m args below meth cd H locs 0 0 (MQ below ((tg_Qv E (fun u => u 17 = some (d, .inr (3, [.ref fa, .ref sa, .ref la, .ref wa, .int (nI p0), .int (nI U), .int u6, .int (nI (smR (fun i9 => if le ≤ i9 then F9 i9 else 0) (U + 1))), .int (nI (smR (fun i9 => if i9 ≤ le then F9 i9 else 0) (U + 1))), .int (nI (smR F9 (U + 1)))])) ∧ ∀ t9, t9 ≠ 17 → u t9 = G t9)) A) args s 0 0 A) (F0 m 56 ls []) := by
    intro r
    induction r with
    | zero =>
      intro k ls G1 H locs hk h1 h2 HO hw hl
      refine lv_iload_n hx hb dX2_tally_56 rfl (lv_at hl 0 rfl) ?_
      refine lv_aload_n hx hb dX2_tally_57 rfl (lv_at hl 2 rfl) ?_
      refine tg_get (v := .int (nI U)) hx hb hown hAm hw lyX2 h1 rfl 5 (by decide) qw_114 (fun _ h9 => h9) rfl dX2_tally_58 ?_
      refine lv_icmp_gt (tgt := 130) hx hb dX2_tally_61 (by decide) (fun _ => ?_) (fun c9 => absurd ((nI_ltI (a := U) (b := k) (by omega) (by omega)).mpr (by omega)) c9)
      exact tg_vret hx hb hr hlocks hw (⟨by rw [show U + 1 = k by omega]; exact h1, HO⟩) (Nat.le_of_ble_eq_true rfl) (Nat.le_of_ble_eq_true rfl) dX2_tally_130
    | succ r ih =>
      intro k ls G1 H locs hk h1 h2 HO hw hl
      refine lv_iload_n hx hb dX2_tally_56 rfl (lv_at hl 0 rfl) ?_
      refine lv_aload_n hx hb dX2_tally_57 rfl (lv_at hl 2 rfl) ?_
      refine tg_get (v := .int (nI U)) hx hb hown hAm hw lyX2 h1 rfl 5 (by decide) qw_114 (fun _ h9 => h9) rfl dX2_tally_58 ?_
      refine lv_icmp_gt (tgt := 130) hx hb dX2_tally_61 (by decide) (fun c9 => absurd c9 (fun z9 => absurd ((nI_ltI (a := U) (b := k) (by omega) (by omega)).mp z9) (by omega))) (fun _ => ?_)
      refine lv_iload_n hx hb dX2_tally_64 rfl (lv_at hl 0 rfl) ?_
      refine lv_aload_n hx hb dX2_tally_65 rfl (lv_at hl 1 rfl) ?_
      refine tg_alen hx hb hAm hw 0 h2 rfl 133 rfl dX2_tally_66 ?_
      refine lv_icmp_ge (tgt := 130) hx hb dX2_tally_67 (by decide) (fun c9 => absurd c9 (fun z9 => absurd ((nI_leI (a := 133) (b := k) (by omega) (by omega)).mp z9) (by omega))) (fun _ => ?_)
      refine lv_aload_n hx hb dX2_tally_70 rfl (lv_at hl 2 rfl) ?_
      refine lv_dup hx hb dX2_tally_71 rfl ?_
      refine tg_get (v := .int (nI (smR F9 k))) hx hb hown hAm hw lyX2 h1 rfl 9 (by decide) qw_121 (fun _ h9 => h9) rfl dX2_tally_72 ?_
      refine lv_aload_n hx hb dX2_tally_75 rfl (lv_at hl 1 rfl) ?_
      refine lv_iload_n hx hb dX2_tally_76 rfl (lv_at hl 0 rfl) ?_
      refine tg_iald hx hb hAm hw h2 (vp_in_nI (n := k) (N := 133) (by omega) (by omega)) dX2_tally_77 ?_
      refine rc_topi (f k) (by rw [nI_clamp (by omega)]) ?_
      refine rc_topi (nI (F9 k)) (hf k (by omega)) ?_
      refine lv_iadd hx hb dX2_tally_78 ?_
      refine rc_topi (nI (smR F9 k + F9 k)) (nI_add (smR F9 k) (F9 k)) ?_
      refine tg_put hx hb hown hAm hw lyX2 tyX2 tyX2_ok nmX2 h1 rfl 9 (by decide) qw_121 (fun _ h9 => h9) rfl rfl rfl (Nat.le_of_ble_eq_true rfl) dX2_tally_79 (fun G_1 H locs g_2 o_3 hw => ?_)
      have h2 := (o_3 _ (by omega)).trans h2
      have h1 : G_1 17 = some (d, .inr (3, [.ref fa, .ref sa, .ref la, .ref wa, .int (nI p0), .int (nI U), .int u6, .int (nI (smR (fun i9 => if le ≤ i9 then F9 i9 else 0) k)), .int (nI (smR (fun i9 => if i9 ≤ le then F9 i9 else 0) k)), .int (nI (smR F9 k + F9 k))])) := g_2
      refine lv_aload_n hx hb dX2_tally_82 rfl (lv_at hl 2 rfl) ?_
      refine lv_dup hx hb dX2_tally_83 rfl ?_
      refine tg_get (v := .int (nI (smR (fun i9 => if le ≤ i9 then F9 i9 else 0) k))) hx hb hown hAm hw lyX2 h1 rfl 7 (by decide) qw_117 (fun _ h9 => h9) rfl dX2_tally_84 ?_
      refine lv_iload_n hx hb dX2_tally_87 rfl (lv_at hl 0 rfl) ?_
      refine lv_iload_n hx hb dX2_tally_88 rfl (lv_at hl 3 rfl) ?_
      refine lv_icmp_lt (tgt := 98) hx hb dX2_tally_89 (by decide) (fun c_4 => ?_) (fun c_4 => ?_)
      · have c_4 := (nI_ltI (a := k) (b := le) (by omega) (by omega)).mp c_4
        refine lv_iconst (v := 0) hx hb dX2_tally_98 (by decide) ?_
        refine lv_iadd hx hb dX2_tally_99 ?_
        refine rc_topi (nI (smR (fun i9 => if le ≤ i9 then F9 i9 else 0) k + 0)) (nI_add (smR (fun i9 => if le ≤ i9 then F9 i9 else 0) k) 0) ?_
        refine tg_put hx hb hown hAm hw lyX2 tyX2 tyX2_ok nmX2 h1 rfl 7 (by decide) qw_117 (fun _ h9 => h9) rfl rfl rfl (Nat.le_of_ble_eq_true rfl) dX2_tally_100 (fun G_5 H locs g_6 o_7 hw => ?_)
        have h2 := (o_7 _ (by omega)).trans h2
        have h1 : G_5 17 = some (d, .inr (3, [.ref fa, .ref sa, .ref la, .ref wa, .int (nI p0), .int (nI U), .int u6, .int (nI (smR (fun i9 => if le ≤ i9 then F9 i9 else 0) k + 0)), .int (nI (smR (fun i9 => if i9 ≤ le then F9 i9 else 0) k)), .int (nI (smR F9 k + F9 k))])) := g_6
        refine lv_aload_n hx hb dX2_tally_103 rfl (lv_at hl 2 rfl) ?_
        refine lv_dup hx hb dX2_tally_104 rfl ?_
        refine tg_get (v := .int (nI (smR (fun i9 => if i9 ≤ le then F9 i9 else 0) k))) hx hb hown hAm hw lyX2 h1 rfl 8 (by decide) qw_119 (fun _ h9 => h9) rfl dX2_tally_105 ?_
        refine lv_iload_n hx hb dX2_tally_108 rfl (lv_at hl 0 rfl) ?_
        refine lv_iload_n hx hb dX2_tally_109 rfl (lv_at hl 3 rfl) ?_
        refine lv_icmp_gt (tgt := 119) hx hb dX2_tally_110 (by decide) (fun c_8 => ?_) (fun c_8 => ?_)
        · have c_8 := (nI_ltI (a := le) (b := k) (by omega) (by omega)).mp c_8
          refine lv_iconst (v := 0) hx hb dX2_tally_119 (by decide) ?_
          refine lv_iadd hx hb dX2_tally_120 ?_
          refine rc_topi (nI (smR (fun i9 => if i9 ≤ le then F9 i9 else 0) k + 0)) (nI_add (smR (fun i9 => if i9 ≤ le then F9 i9 else 0) k) 0) ?_
          refine tg_put hx hb hown hAm hw lyX2 tyX2 tyX2_ok nmX2 h1 rfl 8 (by decide) qw_119 (fun _ h9 => h9) rfl rfl rfl (Nat.le_of_ble_eq_true rfl) dX2_tally_121 (fun G_9 H locs g_10 o_11 hw => ?_)
          have h2 := (o_11 _ (by omega)).trans h2
          have h1 : G_9 17 = some (d, .inr (3, [.ref fa, .ref sa, .ref la, .ref wa, .int (nI p0), .int (nI U), .int u6, .int (nI (smR (fun i9 => if le ≤ i9 then F9 i9 else 0) k + 0)), .int (nI (smR (fun i9 => if i9 ≤ le then F9 i9 else 0) k + 0)), .int (nI (smR F9 k + F9 k))])) := g_10
          have e_0 : smR (fun i9 => if le ≤ i9 then F9 i9 else 0) k + 0 = smR (fun i9 => if le ≤ i9 then F9 i9 else 0) (k + 1) := by first | rfl | (show _ = smR (fun i9 => if le ≤ i9 then F9 i9 else 0) k + (if le ≤ k then F9 k else 0); split <;> omega)
          rw [e_0] at h1
          have e_1 : smR (fun i9 => if i9 ≤ le then F9 i9 else 0) k + 0 = smR (fun i9 => if i9 ≤ le then F9 i9 else 0) (k + 1) := by first | rfl | (show _ = smR (fun i9 => if i9 ≤ le then F9 i9 else 0) k + (if k ≤ le then F9 k else 0); split <;> omega)
          rw [e_1] at h1
          have e_2 : smR F9 k + F9 k = smR F9 (k + 1) := by first | rfl | (show _ = smR F9 k + (F9 k); split <;> omega)
          rw [e_2] at h1
          refine lv_iinc (v := nI (k + 1)) (lv' := [(3, .int (nI (k + 1))), (2, .ref ro), (0, .ref d), (1, .int (nI le))]) hx hb dX2_tally_124 hl (k := 0) rfl (nI_1 _) (by decide) rfl (fun ls hl => ?_)
          refine lv_goto (tgt := 56) hx hb dX2_tally_127 (by decide) ?_
          exact ih (k + 1) ls _ _ _ (by omega) h1 h2 (fun t9 h9 => (o_11 t9 (by omega)).trans ((o_7 t9 (by omega)).trans ((o_3 t9 (by omega)).trans ((HO t9 h9))))) hw hl
        · have c_8 := mt (nI_ltI (a := le) (b := k) (by omega) (by omega)).mpr c_8
          refine lv_aload_n hx hb dX2_tally_113 rfl (lv_at hl 1 rfl) ?_
          refine lv_iload_n hx hb dX2_tally_114 rfl (lv_at hl 0 rfl) ?_
          refine tg_iald hx hb hAm hw h2 (vp_in_nI (n := k) (N := 133) (by omega) (by omega)) dX2_tally_115 ?_
          refine rc_topi (f k) (by rw [nI_clamp (by omega)]) ?_
          refine rc_topi (nI (F9 k)) (hf k (by omega)) ?_
          refine lv_goto (tgt := 120) hx hb dX2_tally_116 (by decide) ?_
          refine lv_iadd hx hb dX2_tally_120 ?_
          refine rc_topi (nI (smR (fun i9 => if i9 ≤ le then F9 i9 else 0) k + F9 k)) (nI_add (smR (fun i9 => if i9 ≤ le then F9 i9 else 0) k) (F9 k)) ?_
          refine tg_put hx hb hown hAm hw lyX2 tyX2 tyX2_ok nmX2 h1 rfl 8 (by decide) qw_119 (fun _ h9 => h9) rfl rfl rfl (Nat.le_of_ble_eq_true rfl) dX2_tally_121 (fun G_12 H locs g_13 o_14 hw => ?_)
          have h2 := (o_14 _ (by omega)).trans h2
          have h1 : G_12 17 = some (d, .inr (3, [.ref fa, .ref sa, .ref la, .ref wa, .int (nI p0), .int (nI U), .int u6, .int (nI (smR (fun i9 => if le ≤ i9 then F9 i9 else 0) k + 0)), .int (nI (smR (fun i9 => if i9 ≤ le then F9 i9 else 0) k + F9 k)), .int (nI (smR F9 k + F9 k))])) := g_13
          have e_0 : smR (fun i9 => if le ≤ i9 then F9 i9 else 0) k + 0 = smR (fun i9 => if le ≤ i9 then F9 i9 else 0) (k + 1) := by first | rfl | (show _ = smR (fun i9 => if le ≤ i9 then F9 i9 else 0) k + (if le ≤ k then F9 k else 0); split <;> omega)
          rw [e_0] at h1
          have e_1 : smR (fun i9 => if i9 ≤ le then F9 i9 else 0) k + F9 k = smR (fun i9 => if i9 ≤ le then F9 i9 else 0) (k + 1) := by first | rfl | (show _ = smR (fun i9 => if i9 ≤ le then F9 i9 else 0) k + (if k ≤ le then F9 k else 0); split <;> omega)
          rw [e_1] at h1
          have e_2 : smR F9 k + F9 k = smR F9 (k + 1) := by first | rfl | (show _ = smR F9 k + (F9 k); split <;> omega)
          rw [e_2] at h1
          refine lv_iinc (v := nI (k + 1)) (lv' := [(3, .int (nI (k + 1))), (2, .ref ro), (0, .ref d), (1, .int (nI le))]) hx hb dX2_tally_124 hl (k := 0) rfl (nI_1 _) (by decide) rfl (fun ls hl => ?_)
          refine lv_goto (tgt := 56) hx hb dX2_tally_127 (by decide) ?_
          exact ih (k + 1) ls _ _ _ (by omega) h1 h2 (fun t9 h9 => (o_14 t9 (by omega)).trans ((o_7 t9 (by omega)).trans ((o_3 t9 (by omega)).trans ((HO t9 h9))))) hw hl
      · have c_4 := mt (nI_ltI (a := k) (b := le) (by omega) (by omega)).mpr c_4
        refine lv_aload_n hx hb dX2_tally_92 rfl (lv_at hl 1 rfl) ?_
        refine lv_iload_n hx hb dX2_tally_93 rfl (lv_at hl 0 rfl) ?_
        refine tg_iald hx hb hAm hw h2 (vp_in_nI (n := k) (N := 133) (by omega) (by omega)) dX2_tally_94 ?_
        refine rc_topi (f k) (by rw [nI_clamp (by omega)]) ?_
        refine rc_topi (nI (F9 k)) (hf k (by omega)) ?_
        refine lv_goto (tgt := 99) hx hb dX2_tally_95 (by decide) ?_
        refine lv_iadd hx hb dX2_tally_99 ?_
        refine rc_topi (nI (smR (fun i9 => if le ≤ i9 then F9 i9 else 0) k + F9 k)) (nI_add (smR (fun i9 => if le ≤ i9 then F9 i9 else 0) k) (F9 k)) ?_
        refine tg_put hx hb hown hAm hw lyX2 tyX2 tyX2_ok nmX2 h1 rfl 7 (by decide) qw_117 (fun _ h9 => h9) rfl rfl rfl (Nat.le_of_ble_eq_true rfl) dX2_tally_100 (fun G_15 H locs g_16 o_17 hw => ?_)
        have h2 := (o_17 _ (by omega)).trans h2
        have h1 : G_15 17 = some (d, .inr (3, [.ref fa, .ref sa, .ref la, .ref wa, .int (nI p0), .int (nI U), .int u6, .int (nI (smR (fun i9 => if le ≤ i9 then F9 i9 else 0) k + F9 k)), .int (nI (smR (fun i9 => if i9 ≤ le then F9 i9 else 0) k)), .int (nI (smR F9 k + F9 k))])) := g_16
        refine lv_aload_n hx hb dX2_tally_103 rfl (lv_at hl 2 rfl) ?_
        refine lv_dup hx hb dX2_tally_104 rfl ?_
        refine tg_get (v := .int (nI (smR (fun i9 => if i9 ≤ le then F9 i9 else 0) k))) hx hb hown hAm hw lyX2 h1 rfl 8 (by decide) qw_119 (fun _ h9 => h9) rfl dX2_tally_105 ?_
        refine lv_iload_n hx hb dX2_tally_108 rfl (lv_at hl 0 rfl) ?_
        refine lv_iload_n hx hb dX2_tally_109 rfl (lv_at hl 3 rfl) ?_
        refine lv_icmp_gt (tgt := 119) hx hb dX2_tally_110 (by decide) (fun c_18 => ?_) (fun c_18 => ?_)
        · have c_18 := (nI_ltI (a := le) (b := k) (by omega) (by omega)).mp c_18
          refine lv_iconst (v := 0) hx hb dX2_tally_119 (by decide) ?_
          refine lv_iadd hx hb dX2_tally_120 ?_
          refine rc_topi (nI (smR (fun i9 => if i9 ≤ le then F9 i9 else 0) k + 0)) (nI_add (smR (fun i9 => if i9 ≤ le then F9 i9 else 0) k) 0) ?_
          refine tg_put hx hb hown hAm hw lyX2 tyX2 tyX2_ok nmX2 h1 rfl 8 (by decide) qw_119 (fun _ h9 => h9) rfl rfl rfl (Nat.le_of_ble_eq_true rfl) dX2_tally_121 (fun G_19 H locs g_20 o_21 hw => ?_)
          have h2 := (o_21 _ (by omega)).trans h2
          have h1 : G_19 17 = some (d, .inr (3, [.ref fa, .ref sa, .ref la, .ref wa, .int (nI p0), .int (nI U), .int u6, .int (nI (smR (fun i9 => if le ≤ i9 then F9 i9 else 0) k + F9 k)), .int (nI (smR (fun i9 => if i9 ≤ le then F9 i9 else 0) k + 0)), .int (nI (smR F9 k + F9 k))])) := g_20
          have e_0 : smR (fun i9 => if le ≤ i9 then F9 i9 else 0) k + F9 k = smR (fun i9 => if le ≤ i9 then F9 i9 else 0) (k + 1) := by first | rfl | (show _ = smR (fun i9 => if le ≤ i9 then F9 i9 else 0) k + (if le ≤ k then F9 k else 0); split <;> omega)
          rw [e_0] at h1
          have e_1 : smR (fun i9 => if i9 ≤ le then F9 i9 else 0) k + 0 = smR (fun i9 => if i9 ≤ le then F9 i9 else 0) (k + 1) := by first | rfl | (show _ = smR (fun i9 => if i9 ≤ le then F9 i9 else 0) k + (if k ≤ le then F9 k else 0); split <;> omega)
          rw [e_1] at h1
          have e_2 : smR F9 k + F9 k = smR F9 (k + 1) := by first | rfl | (show _ = smR F9 k + (F9 k); split <;> omega)
          rw [e_2] at h1
          refine lv_iinc (v := nI (k + 1)) (lv' := [(3, .int (nI (k + 1))), (2, .ref ro), (0, .ref d), (1, .int (nI le))]) hx hb dX2_tally_124 hl (k := 0) rfl (nI_1 _) (by decide) rfl (fun ls hl => ?_)
          refine lv_goto (tgt := 56) hx hb dX2_tally_127 (by decide) ?_
          exact ih (k + 1) ls _ _ _ (by omega) h1 h2 (fun t9 h9 => (o_21 t9 (by omega)).trans ((o_17 t9 (by omega)).trans ((o_3 t9 (by omega)).trans ((HO t9 h9))))) hw hl
        · have c_18 := mt (nI_ltI (a := le) (b := k) (by omega) (by omega)).mpr c_18
          refine lv_aload_n hx hb dX2_tally_113 rfl (lv_at hl 1 rfl) ?_
          refine lv_iload_n hx hb dX2_tally_114 rfl (lv_at hl 0 rfl) ?_
          refine tg_iald hx hb hAm hw h2 (vp_in_nI (n := k) (N := 133) (by omega) (by omega)) dX2_tally_115 ?_
          refine rc_topi (f k) (by rw [nI_clamp (by omega)]) ?_
          refine rc_topi (nI (F9 k)) (hf k (by omega)) ?_
          refine lv_goto (tgt := 120) hx hb dX2_tally_116 (by decide) ?_
          refine lv_iadd hx hb dX2_tally_120 ?_
          refine rc_topi (nI (smR (fun i9 => if i9 ≤ le then F9 i9 else 0) k + F9 k)) (nI_add (smR (fun i9 => if i9 ≤ le then F9 i9 else 0) k) (F9 k)) ?_
          refine tg_put hx hb hown hAm hw lyX2 tyX2 tyX2_ok nmX2 h1 rfl 8 (by decide) qw_119 (fun _ h9 => h9) rfl rfl rfl (Nat.le_of_ble_eq_true rfl) dX2_tally_121 (fun G_22 H locs g_23 o_24 hw => ?_)
          have h2 := (o_24 _ (by omega)).trans h2
          have h1 : G_22 17 = some (d, .inr (3, [.ref fa, .ref sa, .ref la, .ref wa, .int (nI p0), .int (nI U), .int u6, .int (nI (smR (fun i9 => if le ≤ i9 then F9 i9 else 0) k + F9 k)), .int (nI (smR (fun i9 => if i9 ≤ le then F9 i9 else 0) k + F9 k)), .int (nI (smR F9 k + F9 k))])) := g_23
          have e_0 : smR (fun i9 => if le ≤ i9 then F9 i9 else 0) k + F9 k = smR (fun i9 => if le ≤ i9 then F9 i9 else 0) (k + 1) := by first | rfl | (show _ = smR (fun i9 => if le ≤ i9 then F9 i9 else 0) k + (if le ≤ k then F9 k else 0); split <;> omega)
          rw [e_0] at h1
          have e_1 : smR (fun i9 => if i9 ≤ le then F9 i9 else 0) k + F9 k = smR (fun i9 => if i9 ≤ le then F9 i9 else 0) (k + 1) := by first | rfl | (show _ = smR (fun i9 => if i9 ≤ le then F9 i9 else 0) k + (if k ≤ le then F9 k else 0); split <;> omega)
          rw [e_1] at h1
          have e_2 : smR F9 k + F9 k = smR F9 (k + 1) := by first | rfl | (show _ = smR F9 k + (F9 k); split <;> omega)
          rw [e_2] at h1
          refine lv_iinc (v := nI (k + 1)) (lv' := [(3, .int (nI (k + 1))), (2, .ref ro), (0, .ref d), (1, .int (nI le))]) hx hb dX2_tally_124 hl (k := 0) rfl (nI_1 _) (by decide) rfl (fun ls hl => ?_)
          refine lv_goto (tgt := 56) hx hb dX2_tally_127 (by decide) ?_
          exact ih (k + 1) ls _ _ _ (by omega) h1 h2 (fun t9 h9 => (o_24 t9 (by omega)).trans ((o_17 t9 (by omega)).trans ((o_3 t9 (by omega)).trans ((HO t9 h9))))) hw hl
  refine lv_aload_n hx hb dX2_tally_0 rfl (lv_at hl 0 rfl) ?_
  refine lv_iconst (v := 0) hx hb dX2_tally_1 (by decide) ?_
  refine tg_put hx hb hown hAm hw lyX2 tyX2 tyX2_ok nmX2 h1 rfl 7 (by decide) qw_117 (fun _ h9 => h9) rfl rfl (by decide +kernel) (Nat.le_of_ble_eq_true rfl) dX2_tally_2 (fun G_25 H locs g_26 o_27 hw => ?_)
  have h3 := (o_27 _ (by decide)).trans h3
  have h4 := (o_27 _ (by decide)).trans h4
  have h2 := (o_27 _ (by omega)).trans h2
  have h1 : G_25 17 = some (d, .inr (3, [.ref fa, .ref sa, .ref la, .ref wa, .int (nI p0), .int (nI U), .int u6, .int 0, .int u8, .int u9])) := g_26
  refine lv_aload_n hx hb dX2_tally_5 rfl (lv_at hl 0 rfl) ?_
  refine lv_iconst (v := 0) hx hb dX2_tally_6 (by decide) ?_
  refine tg_put hx hb hown hAm hw lyX2 tyX2 tyX2_ok nmX2 h1 rfl 8 (by decide) qw_119 (fun _ h9 => h9) rfl rfl (by decide +kernel) (Nat.le_of_ble_eq_true rfl) dX2_tally_7 (fun G_28 H locs g_29 o_30 hw => ?_)
  have h3 := (o_30 _ (by decide)).trans h3
  have h4 := (o_30 _ (by decide)).trans h4
  have h2 := (o_30 _ (by omega)).trans h2
  have h1 : G_28 17 = some (d, .inr (3, [.ref fa, .ref sa, .ref la, .ref wa, .int (nI p0), .int (nI U), .int u6, .int 0, .int 0, .int u9])) := g_29
  refine lv_aload_n hx hb dX2_tally_10 rfl (lv_at hl 0 rfl) ?_
  refine lv_iconst (v := 0) hx hb dX2_tally_11 (by decide) ?_
  refine tg_put hx hb hown hAm hw lyX2 tyX2 tyX2_ok nmX2 h1 rfl 9 (by decide) qw_121 (fun _ h9 => h9) rfl rfl (by decide +kernel) (Nat.le_of_ble_eq_true rfl) dX2_tally_12 (fun G_31 H locs g_32 o_33 hw => ?_)
  have h3 := (o_33 _ (by decide)).trans h3
  have h4 := (o_33 _ (by decide)).trans h4
  have h2 := (o_33 _ (by omega)).trans h2
  have h1 : G_31 17 = some (d, .inr (3, [.ref fa, .ref sa, .ref la, .ref wa, .int (nI p0), .int (nI U), .int u6, .int 0, .int 0, .int 0])) := g_32
  refine lv_aload_n hx hb dX2_tally_15 rfl (lv_at hl 0 rfl) ?_
  refine tg_get (v := .ref fa) hx hb hown hAm hw lyX2 h1 rfl 0 (by decide) qw_107 (fun _ h9 => h9) rfl dX2_tally_16 ?_
  refine tg_getN (v := .int (nI nA)) hx hb hown hAm hw lyX5 h3 rfl 1 (by decide) qw_89 (fun _ h9 => h9) rfl dX2_tally_19 ?_
  refine lv_if_lt (tgt := 40) hx hb dX2_tally_22 (by decide) (fun c9 => absurd c9 (fun z9 => absurd ((nI_ltI (a := nA) (b := 0) (by omega) (by omega)).mp z9) (by omega))) (fun _ => ?_)
  refine lv_aload_n hx hb dX2_tally_25 rfl (lv_at hl 0 rfl) ?_
  refine tg_get (v := .ref fa) hx hb hown hAm hw lyX2 h1 rfl 0 (by decide) qw_107 (fun _ h9 => h9) rfl dX2_tally_26 ?_
  refine tg_getN (v := .int (nI nA)) hx hb hown hAm hw lyX5 h3 rfl 1 (by decide) qw_89 (fun _ h9 => h9) rfl dX2_tally_29 ?_
  refine lv_aload_n hx hb dX2_tally_32 rfl (lv_at hl 0 rfl) ?_
  refine tg_get (v := .ref wa) hx hb hown hAm hw lyX2 h1 rfl 3 (by decide) qw_112 (fun _ h9 => h9) rfl dX2_tally_33 ?_
  refine tg_alen hx hb hAm hw 1 h4 rfl 7 rfl dX2_tally_36 ?_
  refine lv_icmp_lt (tgt := 41) hx hb dX2_tally_37 (by decide) (fun _ => ?_) (fun c9 => absurd ((nI_ltI (a := nA) (b := 7) (by omega) (by omega)).mpr (by omega)) c9)
  refine lv_aload_n hx hb dX2_tally_41 rfl (lv_at hl 0 rfl) ?_
  refine tg_get (v := .ref wa) hx hb hown hAm hw lyX2 h1 rfl 3 (by decide) qw_112 (fun _ h9 => h9) rfl dX2_tally_42 ?_
  refine lv_aload_n hx hb dX2_tally_45 rfl (lv_at hl 0 rfl) ?_
  refine tg_get (v := .ref fa) hx hb hown hAm hw lyX2 h1 rfl 0 (by decide) qw_107 (fun _ h9 => h9) rfl dX2_tally_46 ?_
  refine tg_getN (v := .int (nI nA)) hx hb hown hAm hw lyX5 h3 rfl 1 (by decide) qw_89 (fun _ h9 => h9) rfl dX2_tally_49 ?_
  refine tg_rald hx hb hAm hw h4 (vp_in_nI (n := nA) (N := 7) (by omega) (by omega)) dX2_tally_52 ?_
  refine rc_topv (.ref ro) (by rw [nI_clamp (by omega), hro]; rfl) ?_
  refine lv_astore_n (lv' := [(2, .ref ro), (0, .ref d), (1, .int (nI le))]) hx hb dX2_tally_53 rfl hl (by decide) rfl (fun ls hl => ?_)
  refine lv_iconst (v := 0) hx hb dX2_tally_54 (by decide) ?_
  refine lv_istore_n (lv' := [(3, .int 0), (2, .ref ro), (0, .ref d), (1, .int (nI le))]) hx hb dX2_tally_55 rfl hl (by decide) rfl (fun ls hl => ?_)
  exact loop (U + 1) 0 ls _ _ _ (by omega) h1 h2 (fun t9 h9 => (o_33 t9 (by omega)).trans ((o_30 t9 (by omega)).trans ((o_27 t9 (by omega))))) hw hl
