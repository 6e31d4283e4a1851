/-! what holds around the law at its entry -/
theorem lyJ0 : rc_Lay RJ0 TJ0 4 := by unfold rc_Lay; decide +kernel
theorem lyJ4 : rc_Lay RJ4 TJ4 4 := by unfold rc_Lay; decide +kernel
theorem rc_nwOf {w : Cond} {A : Array Value} {s : State} (h : w.before A s = true) (hs : rc_st w = true) : va_Nw w s := by
  simp only [rc_st, Bool.or_eq_true, Bool.and_eq_true] at hs
  rcases hs with ⟨h1, -⟩ | h2
  · exact va_Nw.of h1 h
  · match w, h2 with
    | .fieldLinkNest .., _ => exact va_Nw.of rfl h
    | .methodLinkNest .., _ => exact va_Nw.of rfl h
    | .arrayOver ty, _ => exact h
    | .arrayClass ty, _ => exact word_at (State.WarmedH.refl s) (Or.inr ⟨ty, rfl⟩) h
theorem rc_arr {s : State} {ty : FieldType} {A : Array Value} (h : (Cond.arrayClass ty).before A s = true) : ∃ cA : ClassId, ArrOfT s cA ty ∧ s.vm.findClass ("[" ++ ty.toString) = some cA := by
  obtain ⟨c0, k0, comp, h1, h2, h3⟩ := Cond.arrayClass_spec h
  exact ⟨c0, fun n z => ⟨fun k h => (by cases h), k0, h2, comp, h3⟩, h1⟩
theorem rc_arrA {s : State} {ty : FieldType} {A : Array Value} (h : (Cond.arrayOver (.array ty)).before A s = true) : ∃ cA : ClassId, ArrOfT s cA (.array ty) ∧ s.vm.findClass ("[" ++ (FieldType.array ty).toString) = some cA := by
  obtain ⟨comp, c0, k0, h1, h2, h3, h4⟩ := Cond.arrayOver_specA h
  exact ⟨c0, fun n z => ⟨fun k h => (by cases h), k0, h2, comp, h3⟩, h4⟩
theorem rc_arrO {s : State} {C : String} {A : Array Value} (h : (Cond.arrayOver (.object C)).before A s = true) : ∃ cA : ClassId, ArrOfT s cA (.object C) ∧ va_RA s cA (.object C) := by
  obtain ⟨comp, c0, k0, h1, -, h3, h4, h5⟩ := Cond.arrayOver_spec h
  exact ⟨c0, fun n z => ⟨fun k h => (by cases h), k0, h3, comp, h4⟩, k0, comp, h3, h4, h1, h5⟩
abbrev rc_nar : List Cond := flatC (Jvm.Cond.and given_1 narrow_1)
theorem rc_strs_ok : ∀ q : String × Nat × String, q ∈ rc_strs → Cond.stringRef q.1 q.2.1 q.2.2 ∈ lw_tbl ∧ Cond.exactly (.string q.1 q.2.1) "java/lang/String" ∈ rc_nar := by decide +kernel
theorem rc_ncs_ok : ∀ q : String × String, q ∈ rc_ncs → Cond.not (.castable q.1 q.2) ∈ rc_nar := by decide +kernel
abbrev rc_DE : Term := .static "java/util/ArrayList" "DEFAULTCAPACITY_EMPTY_ELEMENTDATA" "[Ljava/lang/Object;"
abbrev rc_IC : Term := .static "java/lang/Integer$IntegerCache" "cache" "[Ljava/lang/Integer;"
theorem rc_T_eq {ty : FieldType} {t N : Nat} {f g : Nat → Value} {A : Nat → Prop} {U : State} {H : Heap} (h : va_T ty t N f A U H) (e : ∀ j, j < N → f j = g j) : va_T ty t N g A U H := by
  obtain ⟨cell, h1, h2, h3, h4, h5, h6, h7⟩ := h
  exact ⟨cell, h1, h2, h3, h4, h5, fun j hj => by rw [← e j hj]; exact h6 j hj, h7⟩
theorem rc_C_eq {ad ae : Nat → Nat} {A : Nat → Prop} {U : State} {H : Heap} (h : vb_C ad A U H) (e : ∀ j, j < 256 → ad j = ae j) : vb_C ae A U H := by
  refine ⟨fun k hk => ?_, fun k hk => ?_⟩
  · rw [← e k hk]; exact h.1 k hk
  · rw [← e k hk]; exact h.2 k hk
set_option maxHeartbeats 4000000 in
set_option maxRecDepth 100000 in
theorem rc_start {p : Program} {s : State} {m : MethodId} {meth : Method} {c : Code} {b L : Nat} {xs : Nat → Int32} (C0 : lw_At p s m meth c b L xs) : ∃ E : rc_E, rc_Amb E (fun q : Nat => s.heap.size ≤ q) s s.heap := by
  obtain ⟨-, -, -, -, -, hts, -, -, -, hgv⟩ := C0
  have hA : ∀ a : Nat, a < s.heap.size → ¬ (fun q : Nat => s.heap.size ≤ q) a := fun a h => Nat.not_le.mpr h
  have hn := flat_of_before _ hgv
  obtain ⟨c0, i0, k0⟩ := u_known (C := RJ0) (T := TJ0) (N := 4) (n := 4) hts (fun w h => (lyJ0 w h).1) (hts (.instantiable RJ0 4) (by decide +kernel))
  obtain ⟨c1, i1, k1⟩ := u_known (C := RJ4) (T := TJ4) (N := 4) (n := 4) hts (fun w h => (lyJ4 w h).1) (hts (.instantiable RJ4 4) (by decide +kernel))
  obtain ⟨c2, i2, k2⟩ := u_known (C := RJ6) (T := TJ6) (N := 1) (n := 1) hts (fun w h => (lyJ6 w h).1) (hts (.instantiable RJ6 1) (by decide +kernel))
  obtain ⟨c3, i3, k3⟩ := u_known (C := RJx35411) (T := TJx35411) (N := 4) (n := 4) hts (fun w h => (lyJx35411 w h).1) (hts (.instantiable RJx35411 4) (by decide +kernel))
  obtain ⟨c4, i4, k4⟩ := u_known (C := RJx4a65c) (T := TJx4a65c) (N := 3) (n := 3) hts (fun w h => (lyJx4a65c w h).1) (hts (.instantiable RJx4a65c 3) (by decide +kernel))
  obtain ⟨c5, i5, k5⟩ := u_known (C := RX0) (T := TX0) (N := 4) (n := 4) hts (fun w h => (lyX0 w h).1) (hts (.instantiable RX0 4) (by decide +kernel))
  obtain ⟨c6, i6, k6⟩ := u_known (C := RX1) (T := TX1) (N := 3) (n := 3) hts (fun w h => (lyX1 w h).1) (hts (.instantiable RX1 3) (by decide +kernel))
  obtain ⟨c7, i7, k7⟩ := u_known (C := RX2) (T := TX2) (N := 10) (n := 10) hts (fun w h => (lyX2 w h).1) (hts (.instantiable RX2 10) (by decide +kernel))
  obtain ⟨c8, i8, k8⟩ := u_known (C := RX3) (T := TX3) (N := 8) (n := 8) hts (fun w h => (lyX3 w h).1) (hts (.instantiable RX3 8) (by decide +kernel))
  obtain ⟨c9, i9, k9⟩ := u_known (C := RX4) (T := TX4) (N := 5) (n := 5) hts (fun w h => (lyX4 w h).1) (hts (.instantiable RX4 5) (by decide +kernel))
  obtain ⟨c10, i10, k10⟩ := u_known (C := RX5) (T := TX5) (N := 2) (n := 2) hts (fun w h => (lyX5 w h).1) (hts (.instantiable RX5 2) (by decide +kernel))
  obtain ⟨c11, i11, k11⟩ := u_known (C := RX6) (T := TX6) (N := 13) (n := 13) hts (fun w h => (lyX6 w h).1) (hts (.instantiable RX6 13) (by decide +kernel))
  obtain ⟨c12, i12, k12⟩ := u_known (C := RX7) (T := TX7) (N := 17) (n := 17) hts (fun w h => (lyX7 w h).1) (hts (.instantiable RX7 17) (by decide +kernel))
  obtain ⟨a0, e0, g0⟩ := rc_arr (hts (.arrayClass .int) (by decide +kernel))
  obtain ⟨a1, e1, g1⟩ := rc_arrA (hts (.arrayOver (.array .int)) (by decide +kernel))
  obtain ⟨a2, e2, g2⟩ := rc_arrO (hts (.arrayOver (.object "java/lang/Object")) (by decide +kernel))
  obtain ⟨a3, e3, g3⟩ := rc_arr (hts (.arrayClass .boolean) (by decide +kernel))
  obtain ⟨a4, e4, g4⟩ := rc_arr (hts (.arrayClass .long) (by decide +kernel))
  obtain ⟨a5, e5, g5⟩ := rc_arr (hts (.arrayClass .double) (by decide +kernel))
  obtain ⟨t0, v0, T0⟩ := va_Tof (tm := rc_DE) (ty := .object "java/lang/Object") (N := 0) (f := fun _ => .null) (A := fun q : Nat => s.heap.size ≤ q) (by decide) (hn (.arrayOf rc_DE (.object "java/lang/Object")) (by decide +kernel)) (va_eqt (hn (.eq (.length rc_DE) (.int 0)) (by decide +kernel))) (fun j h => absurd h (Nat.not_lt_zero j)) hA
  have hlen := va_eqt (hn (.eq (.length rc_IC) (.int 256)) (by decide +kernel))
  obtain ⟨ad, C9, hel⟩ := vb_Cof (st := rc_IC) (A := fun q : Nat => s.heap.size ≤ q) rfl hlen (hn _ (by decide +kernel)) hA
  obtain ⟨t1, v1, T1⟩ := va_Tof (tm := rc_IC) (ty := .object "java/lang/Integer") (N := 256) (f := fun k => .ref (ad k)) (A := fun q : Nat => s.heap.size ≤ q) (by decide) (hn (.arrayOf rc_IC (.object "java/lang/Integer")) (by decide +kernel)) hlen hel hA
  obtain ⟨mi, hmi⟩ := va_Mi.of (hn (.isRef (.mirror "[Ljava/lang/Object;")) (by decide +kernel))
  have f0 : ∀ k, k < 256 → ad k = (fun k => if k = 0 then t0 else if k = 1 then t1 else if k = 300 then mi else ad (k - 2)) (2 + k) := by
    intro k hk
    show ad k = if 2 + k = 0 then t0 else if 2 + k = 1 then t1 else if 2 + k = 300 then mi else ad (2 + k - 2)
    rw [if_neg (by omega), if_neg (by omega), if_neg (by omega), show 2 + k - 2 = k by omega]
  refine ⟨((fun k => [c0, c1, c2, c3, c4, c5, c6, c7, c8, c9, c10, c11, c12].getD k 0, fun k => [i0, i1, i2, i3, i4, i5, i6, i7, i8, i9, i10, i11, i12].getD k (fun _ => 0)), (fun k => [a0, a1, a2, a3, a4, a5].getD k 0), (fun k => if k = 0 then t0 else if k = 1 then t1 else if k = 300 then mi else ad (k - 2))), ⟨⟨?_, ?_⟩, fun w hw hs => rc_nwOf (hts w hw) hs, fun q hq => ?_, fun q hq => va_Nc.of (hn _ (rc_ncs_ok q hq))⟩, ⟨vx_Zqof (hts _ (by decide +kernel)) (hts _ (by decide +kernel)) (hn _ (by decide +kernel)) hA, vx_Zqof (hts _ (by decide +kernel)) (hts _ (by decide +kernel)) (hn _ (by decide +kernel)) hA⟩, ⟨va_Zref (hts _ (by decide +kernel)) (hts _ (by decide +kernel)) v0 hA, T0⟩, va_Zof (hts _ (by decide +kernel)) (hts _ (by decide +kernel)) (va_eqi (hn _ (by decide +kernel))) hA, va_Zref (hts _ (by decide +kernel)) (hts _ (by decide +kernel)) v1 hA, rc_T_eq T1 (fun j hj => congrArg Value.ref (f0 j hj)), rc_C_eq C9 f0, hmi⟩
  · intro k q hq
    match k, hq with
    | 0, hq => cases hq; exact k0
    | 1, hq => cases hq; exact k1
    | 2, hq => cases hq; exact k2
    | 3, hq => cases hq; exact k3
    | 4, hq => cases hq; exact k4
    | 5, hq => cases hq; exact k5
    | 6, hq => cases hq; exact k6
    | 7, hq => cases hq; exact k7
    | 8, hq => cases hq; exact k8
    | 9, hq => cases hq; exact k9
    | 10, hq => cases hq; exact k10
    | 11, hq => cases hq; exact k11
    | 12, hq => cases hq; exact k12
    | k + 13, hq => simp [vwCl] at hq
  · intro k q hq
    match k, hq with
    | 0, hq => cases hq; exact ⟨e0, g0⟩
    | 1, hq => cases hq; exact ⟨e1, g1⟩
    | 2, hq => cases hq; exact ⟨e2, g2⟩
    | 3, hq => cases hq; exact ⟨e3, g3⟩
    | 4, hq => cases hq; exact ⟨e4, g4⟩
    | 5, hq => cases hq; exact ⟨e5, g5⟩
    | k + 6, hq => simp [rc_tys] at hq
  · obtain ⟨a, c9, cA, kA, h1, -⟩ := Cond.exactly_spec (hn _ (rc_strs_ok q hq).2)
    exact ⟨a, vk_R.of (hts _ (rc_strs_ok q hq).1) h1⟩
theorem rc_noTraces {l : Launch} (h : l.flags = flags0) : l.stackTraces = false := by
  unfold Launch.stackTraces
  rw [h]
  decide +kernel
theorem rc_lcmpS (x : Int64) : lg_cmp x x = 0 := by
  simp [lg_cmp]
section RCH
variable {p : Program} {l : Launch} {e : Env} {R : Room} {s : State} {m : MethodId} {args : Array Value} {below : List Frame} {meth : Method} {c : Code} {H : Heap} {locs : List Loc} {cells slots : Nat} {Q : State → Prop}
variable {E : rc_E} {A : Nat → Prop} {own : String} {index mc ms : Nat}
theorem rc_cwSW {y : MethodName} {bytes : ByteArray} {maxL n : Nat} {ret : Option FieldType} {hh : List (Nat × Nat × Nat × Nat)} {rm : Room} (hAm : rc_Amb E A s s.heap) (h1 : Cond.methodLink own index y ∈ lw_tbl) (h2 : Cond.initialized y.cls ∈ lw_tbl) (h3 : Cond.codeWith y bytes maxL ret hh ∈ lw_tbl) (h4 : Cond.static y ∈ lw_tbl) (hrc : rm.cells = mc) (hrs : rm.slots = ms) (hd : y.cls ≠ "java/lang/invoke/MethodHandle" ∧ y.cls ≠ "java/lang/invoke/VarHandle" ∧ (parseMethodDescriptor y.desc).map (fun d => d.parameters.length) = some n) (hR : rm.frames + 1 ≤ R.frames ∧ 8 + (maxL + 11) + rm.locals ≤ R.locals) : vx_CSW R s args own index y bytes maxL ret hh [Cond.codeWith y bytes maxL ret hh] rm mc ms n := by
  refine ⟨⟨hrc, hrs, hR.1, hR.2, fun w hw a2 U hW => ?_, List.mem_cons_self⟩, hAm.wd h3 rfl rfl, hAm.wd h2 rfl rfl, ⟨hd.1, hd.2.1⟩, fun sig h => ?_, hAm.wd h1 rfl rfl, hAm.wd h4 rfl rfl⟩
  · obtain rfl := List.mem_singleton.mp hw
    exact va_Nw.use rfl (rc_st_warm hW rfl (hAm.nw h3 rfl))
  · have h9 := hd.2.2
    rw [h] at h9
    exact (Option.some.inj h9).symm
end RCH
