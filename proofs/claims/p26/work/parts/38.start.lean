/-! what holds around the law at its entry -/
theorem rc_nwOf {w : Cond} {A : Array Value} {s : State} (h : w.before A s = true) (hs : rc_st w = true) : va_Nw w s := by
  simp only [rc_st, Bool.or_eq_true, Bool.and_eq_true] at hs
  rcases hs with ⟨h1, -⟩ | h2
  · exact va_Nw.of h1 h
  · match w, h2 with
    | .fieldLinkNest .., _ => exact va_Nw.of rfl h
    | .methodLinkNest .., _ => exact va_Nw.of rfl h
    | .arrayOver ty, _ => exact h
    | .arrayClass ty, _ => exact word_at (State.WarmedH.refl s) (Or.inr ⟨ty, rfl⟩) h
theorem rc_arr {s : State} {ty : FieldType} {A : Array Value} (h : (Cond.arrayClass ty).before A s = true) : ∃ cA : ClassId, ArrOfT s cA ty ∧ s.vm.findClass ("[" ++ ty.toString) = some cA := by
  obtain ⟨c0, k0, comp, h1, h2, h3⟩ := Cond.arrayClass_spec h
  exact ⟨c0, fun n z => ⟨fun k h => (by cases h), k0, h2, comp, h3⟩, h1⟩
theorem rc_arrA {s : State} {ty : FieldType} {A : Array Value} (h : (Cond.arrayOver (.array ty)).before A s = true) : ∃ cA : ClassId, ArrOfT s cA (.array ty) ∧ s.vm.findClass ("[" ++ (FieldType.array ty).toString) = some cA := by
  obtain ⟨comp, c0, k0, h1, h2, h3, h4⟩ := Cond.arrayOver_specA h
  exact ⟨c0, fun n z => ⟨fun k h => (by cases h), k0, h2, comp, h3⟩, h4⟩
theorem rc_arrO {s : State} {C : String} {A : Array Value} (h : (Cond.arrayOver (.object C)).before A s = true) : ∃ cA : ClassId, ArrOfT s cA (.object C) ∧ va_RA s cA (.object C) := by
  obtain ⟨comp, c0, k0, h1, -, h3, h4, h5⟩ := Cond.arrayOver_spec h
  exact ⟨c0, fun n z => ⟨fun k h => (by cases h), k0, h3, comp, h4⟩, k0, comp, h3, h4, h1, h5⟩
abbrev rc_nar : List Cond := flatC (Jvm.Cond.and given_1 narrow_1)
theorem rc_strs_ok : ∀ q : String × Nat × String, q ∈ rc_strs → Cond.stringRef q.1 q.2.1 q.2.2 ∈ lw_tbl ∧ Cond.exactly (.string q.1 q.2.1) "java/lang/String" ∈ rc_nar := by decide +kernel
theorem rc_ncs_ok : ∀ q : String × String, q ∈ rc_ncs → Cond.not (.castable q.1 q.2) ∈ rc_nar := by decide +kernel
abbrev rc_DE : Term := .static "java/util/ArrayList" "DEFAULTCAPACITY_EMPTY_ELEMENTDATA" "[Ljava/lang/Object;"
set_option maxHeartbeats 4000000 in
set_option maxRecDepth 100000 in
theorem rc_start {p : Program} {s : State} {m : MethodId} {meth : Method} {c : Code} {b L : Nat} {xs : Nat → Int32} (C0 : lw_At p s m meth c b L xs) : ∃ E : rc_E, rc_Amb E (fun q : Nat => s.heap.size ≤ q) s s.heap := by
  obtain ⟨-, -, -, -, -, hts, -, -, -, hgv⟩ := C0
  have hA : ∀ a : Nat, a < s.heap.size → ¬ (fun q : Nat => s.heap.size ≤ q) a := fun a h => Nat.not_le.mpr h
  have hn := flat_of_before _ hgv
  obtain ⟨c0, i0, k0⟩ := u_known (C := RJx4a65c) (T := TJx4a65c) (N := 3) (n := 3) hts (fun w h => (lyJx4a65c w h).1) (hts (.instantiable RJx4a65c 3) (by decide +kernel))
  obtain ⟨c1, i1, k1⟩ := u_known (C := RX0) (T := TX0) (N := 4) (n := 4) hts (fun w h => (lyX0 w h).1) (hts (.instantiable RX0 4) (by decide +kernel))
  obtain ⟨c2, i2, k2⟩ := u_known (C := RX1) (T := TX1) (N := 3) (n := 3) hts (fun w h => (lyX1 w h).1) (hts (.instantiable RX1 3) (by decide +kernel))
  obtain ⟨c3, i3, k3⟩ := u_known (C := RX2) (T := TX2) (N := 10) (n := 10) hts (fun w h => (lyX2 w h).1) (hts (.instantiable RX2 10) (by decide +kernel))
  obtain ⟨c4, i4, k4⟩ := u_known (C := RX3) (T := TX3) (N := 8) (n := 8) hts (fun w h => (lyX3 w h).1) (hts (.instantiable RX3 8) (by decide +kernel))
  obtain ⟨c5, i5, k5⟩ := u_known (C := RX4) (T := TX4) (N := 5) (n := 5) hts (fun w h => (lyX4 w h).1) (hts (.instantiable RX4 5) (by decide +kernel))
  obtain ⟨c6, i6, k6⟩ := u_known (C := RX5) (T := TX5) (N := 2) (n := 2) hts (fun w h => (lyX5 w h).1) (hts (.instantiable RX5 2) (by decide +kernel))
  obtain ⟨c7, i7, k7⟩ := u_known (C := RX6) (T := TX6) (N := 13) (n := 13) hts (fun w h => (lyX6 w h).1) (hts (.instantiable RX6 13) (by decide +kernel))
  obtain ⟨a0, e0, g0⟩ := rc_arr (hts (.arrayClass .int) (by decide +kernel))
  obtain ⟨a1, e1, g1⟩ := rc_arrA (hts (.arrayOver (.array .int)) (by decide +kernel))
  obtain ⟨a2, e2, g2⟩ := rc_arrO (hts (.arrayOver (.object "java/lang/Object")) (by decide +kernel))
  obtain ⟨t0, v0, T0⟩ := va_Tof (tm := rc_DE) (ty := .object "java/lang/Object") (N := 0) (f := fun _ => .null) (A := fun q : Nat => s.heap.size ≤ q) (by decide) (hn (.arrayOf rc_DE (.object "java/lang/Object")) (by decide +kernel)) (va_eqt (hn (.eq (.length rc_DE) (.int 0)) (by decide +kernel))) (fun j h => absurd h (Nat.not_lt_zero j)) hA
  obtain ⟨mi, hmi⟩ := va_Mi.of (hn (.isRef (.mirror "[Ljava/lang/Object;")) (by decide +kernel))
  refine ⟨((fun k => [c0, c1, c2, c3, c4, c5, c6, c7].getD k 0, fun k => [i0, i1, i2, i3, i4, i5, i6, i7].getD k (fun _ => 0)), (fun k => [a0, a1, a2].getD k 0), (fun k => if k = 0 then t0 else if k = 300 then mi else 0)), ⟨⟨?_, ?_⟩, fun w hw hs => rc_nwOf (hts w hw) hs, fun q hq => ?_, fun q hq => va_Nc.of (hn _ (rc_ncs_ok q hq))⟩, ⟨vx_Zqof (hts _ (by decide +kernel)) (hts _ (by decide +kernel)) (hn _ (by decide +kernel)) hA, vx_Zqof (hts _ (by decide +kernel)) (hts _ (by decide +kernel)) (hn _ (by decide +kernel)) hA⟩, ⟨va_Zref (hts _ (by decide +kernel)) (hts _ (by decide +kernel)) v0 hA, T0⟩, hmi⟩
  · intro k q hq
    match k, hq with
    | 0, hq => cases hq; exact k0
    | 1, hq => cases hq; exact k1
    | 2, hq => cases hq; exact k2
    | 3, hq => cases hq; exact k3
    | 4, hq => cases hq; exact k4
    | 5, hq => cases hq; exact k5
    | 6, hq => cases hq; exact k6
    | 7, hq => cases hq; exact k7
    | k + 8, hq => simp [vwCl] at hq
  · intro k q hq
    match k, hq with
    | 0, hq => cases hq; exact ⟨e0, g0⟩
    | 1, hq => cases hq; exact ⟨e1, g1⟩
    | 2, hq => cases hq; exact ⟨e2, g2⟩
    | k + 3, hq => simp [rc_tys] at hq
  · obtain ⟨a, c9, cA, kA, h1, -⟩ := Cond.exactly_spec (hn _ (rc_strs_ok q hq).2)
    exact ⟨a, vk_R.of (hts _ (rc_strs_ok q hq).1) h1⟩
theorem rc_noTraces {l : Launch} (h : l.flags = flags0) : l.stackTraces = false := by
  unfold Launch.stackTraces
  rw [h]
  decide +kernel
theorem rc_lcmpS (x : Int64) : lg_cmp x x = 0 := by
  simp [lg_cmp]
section RCH
variable {p : Program} {l : Launch} {e : Env} {R : Room} {s : State} {m : MethodId} {args : Array Value} {below : List Frame} {meth : Method} {c : Code} {H : Heap} {locs : List Loc} {cells slots : Nat} {Q : State → Prop}
variable {E : rc_E} {A : Nat → Prop} {own : String} {index mc ms : Nat}
theorem rc_cwSW {y : MethodName} {bytes : ByteArray} {maxL n : Nat} {ret : Option FieldType} {hh : List (Nat × Nat × Nat × Nat)} {rm : Room} (hAm : rc_Amb E A s s.heap) (h1 : Cond.methodLink own index y ∈ lw_tbl) (h2 : Cond.initialized y.cls ∈ lw_tbl) (h3 : Cond.codeWith y bytes maxL ret hh ∈ lw_tbl) (h4 : Cond.static y ∈ lw_tbl) (hrc : rm.cells = mc) (hrs : rm.slots = ms) (hd : y.cls ≠ "java/lang/invoke/MethodHandle" ∧ y.cls ≠ "java/lang/invoke/VarHandle" ∧ (parseMethodDescriptor y.desc).map (fun d => d.parameters.length) = some n) (hR : rm.frames + 1 ≤ R.frames ∧ 8 + (maxL + 11) + rm.locals ≤ R.locals) : vx_CSW R s args own index y bytes maxL ret hh [Cond.codeWith y bytes maxL ret hh] rm mc ms n := by
  refine ⟨⟨hrc, hrs, hR.1, hR.2, fun w hw a2 U hW => ?_, List.mem_cons_self⟩, hAm.wd h3 rfl rfl, hAm.wd h2 rfl rfl, ⟨hd.1, hd.2.1⟩, fun sig h => ?_, hAm.wd h1 rfl rfl, hAm.wd h4 rfl rfl⟩
  · obtain rfl := List.mem_singleton.mp hw
    exact va_Nw.use rfl (rc_st_warm hW rfl (hAm.nw h3 rfl))
  · have h9 := hd.2.2
    rw [h] at h9
    exact (Option.some.inj h9).symm
end RCH
/-- the script's cell, as the law reads it -/
def cl (xs : Nat → Int32) (L k : Nat) : Int32 := if k < L then xs k else 790386105 * (nI k + 3)
def sc_Pc (E : rc_E) (b L : Nat) (xs : Nat → Int32) (k : Nat) (G : tg_G) (sz : Nat) : Array Value → State → Prop := va_Pc [.ref b, .int (nI k)] (fun U => U.heap.size = sz ∧ tg_H E G U.heap ∧ rc_Amb E (tg_A G sz) U U.heap ∧ va_X b L xs U U.heap ∧ b < sz ∧ ¬ tg_A G sz b)
set_option maxHeartbeats 4000000 in
set_option maxRecDepth 100000 in
theorem sc_cell (l : Launch) (E : rc_E) (sz : Nat) (G : tg_G) (b L : Nat) (xs : Nat → Int32) (k : Nat) (hk : k < 1000) (hL : L ≤ 260) : Met l yL_cell [Cond.code yL_cell cL_cell 2 (some FieldType.int)] { frames := 0, cells := 0, slots := 0, locals := 0 } (sc_Pc E b L xs k G sz) (tg_Qi E (fun r u => r = cl xs L k ∧ u = G) (tg_A G sz)) 0 0 (tg_A G sz) := by
  refine Met.ofW (cc := cL_cell) (maxL := 2) (ret := some FieldType.int) (by decide) rfl ?_
  intro p e s m args below meth c s₁ B hml hv
  obtain ⟨rfl, hsz, hH, hAm, hX, hbl, hbA⟩ := hv
  have hl := lv_entry [.ref b, .int (nI k)] (n := 2) (Nat.le_of_ble_eq_true rfl)
  rw [lg_entry_eq]
  generalize (lg_sl [.ref b, .int (nI k)] ++ List.replicate (2 - (lg_sl [.ref b, .int (nI k)]).length) Slot.unset).toArray = ls at hl ⊢
  have hl : lv_has ls 2 [(0, .ref b), (1, .int (nI k))] := hl
  subst hsz
  have hx := B.exec
  have hb := B.bytes
  have hr := B.returns
  have hlocks := B.notSynchronized
  have hw : tg_W E (tg_A G s.heap.size) s G s.heap [] := ⟨hH, fun t x h => Or.inl ⟨t, x.2, h⟩, va_S.rf⟩
  refine lv_iload_n hx hb dL_cell_0 rfl (lv_at hl 1 rfl) ?_
  refine lv_aload_n hx hb dL_cell_1 rfl (lv_at hl 0 rfl) ?_
  refine va_slen hx hb hX hbl hbA hw.2.2 dL_cell_2 ?_
  refine lv_icmp_ge (tgt := 12) hx hb dL_cell_3 (by decide) (fun c9 => ?_) (fun c9 => ?_)
  · have h9 : L ≤ k := (nI_leI (a := L) (b := k) (by omega) (by omega)).mp c9
    refine lv_ldc (v := 790386105) hx hb (findClass_of_methodNamed B.named : s.vm.findClass RL = some m.cls) (hAm.wd qw_625 rfl rfl) dL_cell_12 ?_
    refine lv_iload_n hx hb dL_cell_14 rfl (lv_at hl 1 rfl) ?_
    refine lv_iconst (v := 3) hx hb dL_cell_15 (by decide) ?_
    refine lv_iadd hx hb dL_cell_16 ?_
    refine lv_imul hx hb dL_cell_17 ?_
    exact tg_iret hx hb hr hlocks hw ⟨(if_neg (by omega)).symm, rfl⟩ (Nat.le_refl _) (Nat.le_refl _) dL_cell_18
  · have h9 : ¬ L ≤ k := fun z => c9 ((nI_leI (a := L) (b := k) (by omega) (by omega)).mpr z)
    refine lv_aload_n hx hb dL_cell_6 rfl (lv_at hl 0 rfl) ?_
    refine lv_iload_n hx hb dL_cell_7 rfl (lv_at hl 1 rfl) ?_
    refine va_sld hx hb hX hbl hbA hw.2.2 (vp_in_nI (n := k) (N := L) (by omega) (by omega)) dL_cell_8 ?_
    refine rc_topi (xs k) (by rw [nI_clamp (by omega)]) ?_
    refine lv_goto (tgt := 18) hx hb dL_cell_9 (by decide) ?_
    exact tg_iret hx hb hr hlocks hw ⟨(if_pos (by omega)).symm, rfl⟩ (Nat.le_refl _) (Nat.le_refl _) dL_cell_18
theorem sc_preX {E : rc_E} {A : Nat → Prop} {s : State} {G : tg_G} {H : Heap} {locs : List Loc} {b L k : Nat} {xs : Nat → Int32} (hAm : rc_Amb E A s s.heap) (hA : ∀ q, s.heap.size ≤ q → A q) (hX : va_X b L xs s s.heap) (hbl : b < s.heap.size) (hbA : ¬ A b) (hw : tg_W E A s G H locs) : PreS s H (sc_Pc E b L xs k G H.size) [.ref b, .int (nI k)] := by
  refine ⟨?_, fun U hU hW => ⟨rfl, by rw [hU], by rw [hU]; exact hw.1, hAm.at hw.2.2 (tg_free hA hw) hU hW, ?_, Nat.lt_of_lt_of_le hbl hw.2.2.1, fun z => hbA (tg_free hA hw b z)⟩⟩
  · intro a U g mk h
    obtain ⟨h1, h2, h3, h5, h6, h7, h8⟩ := h
    exact ⟨h1, h2, h3, h5.at (U := U.calling g mk a) va_S.rf (fun _ h => h) rfl (State.WarmedH.refl U), h6, h7, h8⟩
  · rw [hU]
    exact (hX.kept (hw.2.2.2.1 b hbl hbA)).moved hW.alike
