/-! more of the base: arrays of arrays, the throws, methods with handlers -/
def rc_rows (L : List Nat) : Nat → Option Nat := fun i => L[i]?
theorem rc_rows_eq (N : Nat) (r : Nat → Nat) : (fun i => if i < N then some (r i) else none) = rc_rows ((List.range N).map r) := by
  funext i
  unfold rc_rows
  rw [List.getElem?_map]
  by_cases h : i < N
  · rw [if_pos h, List.getElem?_range h]; rfl
  · rw [if_neg h, List.getElem?_eq_none (by simp; omega)]; rfl
section RCM
variable {p : Program} {l : Launch} {e : Env} {R : Room} {s : State} {m : MethodId} {args : Array Value} {below : List Frame} {meth : Method} {c : Code} {H : Heap} {locs : List Loc} {cells slots : Nat} {Q : State → Prop}
variable {cc : ByteArray} {pc : Nat} {ls : Array Slot} {rest st0 : List Value} {E : rc_E} {A : Nat → Prop} {ws wc wr : va_W} {mc ms : Nat} {a : Array Value} {own : String} {index : Nat}
theorem rc_mna (hx : p.tables.exec = Jvm.exec) (hb : c.code = cc) (hown : s.vm.findClass own = some m.cls) (hAm : rc_Amb E A s s.heap) (hA : ∀ q, s.heap.size ≤ q → A q) (hw : rc_W E A s ws H locs) (h1 : Cond.classLink own index "[[I" ∈ lw_tbl) (h2 : Cond.arrayOver (.array .int) ∈ lw_tbl) (h3 : Cond.arrayClass .int ∈ lw_tbl) {n k : Int32} (N1 K1 : Nat) (hN : ¬ n < 0 ∧ n.toNatClampNeg = N1) (hK : ¬ k < 0 ∧ k.toNatClampNeg = K1) (hb1 : N1 * 4 ≤ 536870912) (hb2 : K1 * componentBytes .int ≤ 536870912) (hb3 : K1 ≤ 536870912) (hcells : cells + (1 + N1) ≤ R.cells) (hslots : slots + (N1 + N1 * K1) ≤ R.slots) (hdg : decode cc pc = .ok (.multianewarray index 2, 4))
    (kk : ∀ (q : Nat) (r : Nat → Nat) (H1 : Heap), rc_W E A s ((ws ++ [(q, .inl (E.2.1 1, N1, .inr (.inr (.inr (.inr (rc_rows ((List.range N1).map r)))))))]) ++ ((List.range N1).map r).map (fun x => (x, .inl (E.2.1 0, K1, .inl (fun _ => 0))))) H1 locs → W p l e R s m args below meth c H1 locs (cells + 1 + N1) (slots + N1 + N1 * K1) Q (F0 m (pc + 4) ls (.ref q :: rest))) : W p l e R s m args below meth c H locs cells slots Q (F0 m pc ls (.int k :: .int n :: rest)) := by
  have e0 : ws ++ va_pl [] (fun _ => (.inr (0, []) : va_E)) = ws := List.append_nil ws
  refine va_mna (X := ws) (L := []) (f := fun _ => .inr (0, [])) (ty := .int) (cy := E.2.1 0) (z := (K1, .inl (fun _ => 0))) hx hb hown (hAm.wd h1 rfl rfl) (hAm.nw h2 rfl) (word_at (State.WarmedH.refl s) (Or.inr ⟨_, rfl⟩) (hAm.nw h3 rfl)) ((hAm.K.2 0 _ rfl).2) hAm.K (by rw [e0]; exact hw.1) (by rw [e0]; exact hw.2.1) hw.2.2 hA hN.1 hK.1 hN.2 hK.2 hb1 hb2 hb3 rfl rfl hcells hslots (fun c9 => arrV_new c9 K1 (.int 0)) hdg (fun q r cA H1 hi ho hK1 hP hD hS => ?_)
  obtain rfl := rc_cyI hK1 1 rfl
  have e1 : va_pl ([] ++ (List.range N1).map r) (vr_up (fun _ => (.inr (0, []) : va_E)) ((List.range N1).map r) (.inl (E.2.1 0, K1, .inl (fun _ => 0)))) = ((List.range N1).map r).map (fun x => (x, .inl (E.2.1 0, K1, .inl (fun _ => 0)))) := by
    unfold va_pl
    rw [List.nil_append]
    apply List.map_congr_left
    intro x hx9
    rw [vr_up_in hx9]
  rw [e1, rc_rows_eq] at hP hD
  exact kk q r H1 ⟨hP, hD, hS⟩
theorem rc_mna7 (hx : p.tables.exec = Jvm.exec) (hb : c.code = cc) (hown : s.vm.findClass own = some m.cls) (hAm : rc_Amb E A s s.heap) (hA : ∀ q, s.heap.size ≤ q → A q) (hw : rc_W E A s ws H locs) (h1 : Cond.classLink own index "[[I" ∈ lw_tbl) (h2 : Cond.arrayOver (.array .int) ∈ lw_tbl) (h3 : Cond.arrayClass .int ∈ lw_tbl) {n k : Int32} (K1 : Nat) (hN : ¬ n < 0 ∧ n.toNatClampNeg = 7) (hK : ¬ k < 0 ∧ k.toNatClampNeg = K1) (hb2 : K1 * componentBytes .int ≤ 536870912) (hb3 : K1 ≤ 536870912) (hcells : cells + (1 + 7) ≤ R.cells) (hslots : slots + (7 + 7 * K1) ≤ R.slots) (hdg : decode cc pc = .ok (.multianewarray index 2, 4))
    (kk : ∀ (q q0 q1 q2 q3 q4 q5 q6 : Nat) (H1 : Heap), rc_W E A s (ws ++ [(q, .inl (E.2.1 1, 7, .inr (.inr (.inr (.inr (rc_rows [q0, q1, q2, q3, q4, q5, q6])))))), (q0, .inl (E.2.1 0, K1, .inl (fun _ => 0))), (q1, .inl (E.2.1 0, K1, .inl (fun _ => 0))), (q2, .inl (E.2.1 0, K1, .inl (fun _ => 0))), (q3, .inl (E.2.1 0, K1, .inl (fun _ => 0))), (q4, .inl (E.2.1 0, K1, .inl (fun _ => 0))), (q5, .inl (E.2.1 0, K1, .inl (fun _ => 0))), (q6, .inl (E.2.1 0, K1, .inl (fun _ => 0)))]) H1 locs → W p l e R s m args below meth c H1 locs (cells + 1 + 7) (slots + 7 + 7 * K1) Q (F0 m (pc + 4) ls (.ref q :: rest))) : W p l e R s m args below meth c H locs cells slots Q (F0 m pc ls (.int k :: .int n :: rest)) := by
  refine rc_mna hx hb hown hAm hA hw h1 h2 h3 7 K1 hN hK (Nat.le_of_ble_eq_true rfl) hb2 hb3 hcells hslots hdg (fun q r H1 hw1 => ?_)
  rw [List.append_assoc] at hw1
  exact kk q (r 0) (r 1) (r 2) (r 3) (r 4) (r 5) (r 6) H1 hw1
theorem rc_thr {cls tx : String} {is ik ic : Nat} {pe : String → Prop} {Qc : Array Value → State → Outcome → State → Prop} (hx : p.tables.exec = Jvm.exec) (hb : c.code = cc) (hst : l.stackTraces = false) (hown : s.vm.findClass RX6 = some m.cls) (hAm : rc_Amb E A s s.heap) (hw : rc_W E A s ws H locs) (hstr : ((RX6, is, tx) : String × Nat × String) ∈ rc_strs) (htab : ∀ x ∈ c.exceptionTable.toList, False) (hsz : ls.size = c.maxLocals) (hcls : Bundle.fit cls = true) (hk : Cond.classLink RX6 ik cls ∈ lw_tbl) (hini : Cond.initialized cls ∈ lw_tbl) (hat : ∀ w : Cond, w ∈ vx_atS RX6 ic cls ["java/lang/RuntimeException", "java/lang/Exception"] → w ∈ lw_tbl ∧ rc_st w = true ∧ w.onTables = true) (hgood : ∀ w : Cond, w ∈ Cond.classLink RX6 ik cls :: Cond.initialized cls :: vx_atS RX6 ic cls ["java/lang/RuntimeException", "java/lang/Exception"] → vx_ot w = true)
    (d0 : decode cc pc = .ok (.new ik, 3)) (d3 : decode cc (pc + 3) = .ok (.dup, 1)) (d4 : decode cc (pc + 4) = .ok (.ldc is, 2)) (d6 : decode cc (pc + 6) = .ok (.invokespecial ic, 3)) (d9 : decode cc (pc + 9) = .ok (.athrow, 1))
    (hF : 5 < R.frames) (hL : (rest.map fun v => v.category).sum + 82 ≤ R.locals) (hC : cells + 1 ≤ R.cells) (hSl : slots + 6 ≤ R.slots) (hlocks : meth.locks = false) (hpe : pe cls) (hc : cells + 1 ≤ mc) (hs : slots + 6 ≤ ms) : W p l e R s m args below meth c H locs cells slots (vx_MQ below Qc (rc_X pe A) args s mc ms A) (F0 m pc ls rest) := by
  obtain ⟨sa, hsa⟩ := hAm.1.2.2.1 _ hstr
  refine vx_throwS (names := ["java/lang/RuntimeException", "java/lang/Exception"]) (A := A) hx hb hst hown hcls (by decide +kernel) (hAm.wd hk rfl rfl) (hAm.wd hini rfl rfl) hsa (fun w h => hAm.wd (hat w h).1 (hat w h).2.1 (hat w h).2.2) hgood hAm.2.1.1 hAm.2.1.2 hw.2.2 hsz d0 d3 d4 d6 d9 (fun x h => (htab x h).elim) hF (by show _ + (13 * (2 + 1) + 43) ≤ _; omega) hC hSl hlocks (fun t h1 h2 h3 => ?_) hw.2.2.2.2 hc hs
  exact ⟨(), trivial, hpe, Nat.le_trans hw.2.2.1 h2, fun q h4 h5 => (h3 q (Nat.lt_of_lt_of_le h4 hw.2.2.1)).trans (hw.2.2.2.1 q h4 h5)⟩
theorem rc_atA : ∀ w : Cond, w ∈ vx_atS RX6 85 "java/lang/IllegalArgumentException" ["java/lang/RuntimeException", "java/lang/Exception"] → w ∈ lw_tbl ∧ rc_st w = true ∧ w.onTables = true := by decide +kernel
theorem rc_gdA : ∀ w : Cond, w ∈ Cond.classLink RX6 81 "java/lang/IllegalArgumentException" :: Cond.initialized "java/lang/IllegalArgumentException" :: vx_atS RX6 85 "java/lang/IllegalArgumentException" ["java/lang/RuntimeException", "java/lang/Exception"] → vx_ot w = true := by decide +kernel
theorem rc_throwA {tx : String} {is : Nat} {pe : String → Prop} {Qc : Array Value → State → Outcome → State → Prop} (hx : p.tables.exec = Jvm.exec) (hb : c.code = cc) (hst : l.stackTraces = false) (hown : s.vm.findClass RX6 = some m.cls) (hAm : rc_Amb E A s s.heap) (hw : rc_W E A s ws H locs) (hstr : ((RX6, is, tx) : String × Nat × String) ∈ rc_strs) (htab : ∀ x ∈ c.exceptionTable.toList, False) (hsz : ls.size = c.maxLocals)
    (d0 : decode cc pc = .ok (.new 81, 3)) (d3 : decode cc (pc + 3) = .ok (.dup, 1)) (d4 : decode cc (pc + 4) = .ok (.ldc is, 2)) (d6 : decode cc (pc + 6) = .ok (.invokespecial 85, 3)) (d9 : decode cc (pc + 9) = .ok (.athrow, 1))
    (hF : 5 < R.frames) (hL : (rest.map fun v => v.category).sum + 82 ≤ R.locals) (hC : cells + 1 ≤ R.cells) (hSl : slots + 6 ≤ R.slots) (hlocks : meth.locks = false) (hpe : pe "java/lang/IllegalArgumentException") (hc : cells + 1 ≤ mc) (hs : slots + 6 ≤ ms) : W p l e R s m args below meth c H locs cells slots (vx_MQ below Qc (rc_X pe A) args s mc ms A) (F0 m pc ls rest) :=
  rc_thr hx hb hst hown hAm hw hstr htab hsz (by decide +kernel) (List.mem_of_getElem? (i := 325) (by decide +kernel)) (List.mem_of_getElem? (i := 66) (by decide +kernel)) rc_atA rc_gdA d0 d3 d4 d6 d9 hF hL hC hSl hlocks hpe hc hs
theorem rc_atS : ∀ w : Cond, w ∈ vx_atS RX6 96 "java/lang/IllegalStateException" ["java/lang/RuntimeException", "java/lang/Exception"] → w ∈ lw_tbl ∧ rc_st w = true ∧ w.onTables = true := by decide +kernel
theorem rc_gdS : ∀ w : Cond, w ∈ Cond.classLink RX6 92 "java/lang/IllegalStateException" :: Cond.initialized "java/lang/IllegalStateException" :: vx_atS RX6 96 "java/lang/IllegalStateException" ["java/lang/RuntimeException", "java/lang/Exception"] → vx_ot w = true := by decide +kernel
theorem rc_throwS {tx : String} {is : Nat} {pe : String → Prop} {Qc : Array Value → State → Outcome → State → Prop} (hx : p.tables.exec = Jvm.exec) (hb : c.code = cc) (hst : l.stackTraces = false) (hown : s.vm.findClass RX6 = some m.cls) (hAm : rc_Amb E A s s.heap) (hw : rc_W E A s ws H locs) (hstr : ((RX6, is, tx) : String × Nat × String) ∈ rc_strs) (htab : ∀ x ∈ c.exceptionTable.toList, False) (hsz : ls.size = c.maxLocals)
    (d0 : decode cc pc = .ok (.new 92, 3)) (d3 : decode cc (pc + 3) = .ok (.dup, 1)) (d4 : decode cc (pc + 4) = .ok (.ldc is, 2)) (d6 : decode cc (pc + 6) = .ok (.invokespecial 96, 3)) (d9 : decode cc (pc + 9) = .ok (.athrow, 1))
    (hF : 5 < R.frames) (hL : (rest.map fun v => v.category).sum + 82 ≤ R.locals) (hC : cells + 1 ≤ R.cells) (hSl : slots + 6 ≤ R.slots) (hlocks : meth.locks = false) (hpe : pe "java/lang/IllegalStateException") (hc : cells + 1 ≤ mc) (hs : slots + 6 ≤ ms) : W p l e R s m args below meth c H locs cells slots (vx_MQ below Qc (rc_X pe A) args s mc ms A) (F0 m pc ls rest) :=
  rc_thr hx hb hst hown hAm hw hstr htab hsz (by decide +kernel) (List.mem_of_getElem? (i := 397) (by decide +kernel)) (List.mem_of_getElem? (i := 67) (by decide +kernel)) rc_atS rc_gdS d0 d3 d4 d6 d9 hF hL hC hSl hlocks hpe hc hs
theorem rc_atO : ∀ w : Cond, w ∈ vx_atS RX6 106 "java/lang/IndexOutOfBoundsException" ["java/lang/RuntimeException", "java/lang/Exception"] → w ∈ lw_tbl ∧ rc_st w = true ∧ w.onTables = true := by decide +kernel
theorem rc_gdO : ∀ w : Cond, w ∈ Cond.classLink RX6 102 "java/lang/IndexOutOfBoundsException" :: Cond.initialized "java/lang/IndexOutOfBoundsException" :: vx_atS RX6 106 "java/lang/IndexOutOfBoundsException" ["java/lang/RuntimeException", "java/lang/Exception"] → vx_ot w = true := by decide +kernel
theorem rc_throwO {tx : String} {is : Nat} {pe : String → Prop} {Qc : Array Value → State → Outcome → State → Prop} (hx : p.tables.exec = Jvm.exec) (hb : c.code = cc) (hst : l.stackTraces = false) (hown : s.vm.findClass RX6 = some m.cls) (hAm : rc_Amb E A s s.heap) (hw : rc_W E A s ws H locs) (hstr : ((RX6, is, tx) : String × Nat × String) ∈ rc_strs) (htab : ∀ x ∈ c.exceptionTable.toList, False) (hsz : ls.size = c.maxLocals)
    (d0 : decode cc pc = .ok (.new 102, 3)) (d3 : decode cc (pc + 3) = .ok (.dup, 1)) (d4 : decode cc (pc + 4) = .ok (.ldc is, 2)) (d6 : decode cc (pc + 6) = .ok (.invokespecial 106, 3)) (d9 : decode cc (pc + 9) = .ok (.athrow, 1))
    (hF : 5 < R.frames) (hL : (rest.map fun v => v.category).sum + 82 ≤ R.locals) (hC : cells + 1 ≤ R.cells) (hSl : slots + 6 ≤ R.slots) (hlocks : meth.locks = false) (hpe : pe "java/lang/IndexOutOfBoundsException") (hc : cells + 1 ≤ mc) (hs : slots + 6 ≤ ms) : W p l e R s m args below meth c H locs cells slots (vx_MQ below Qc (rc_X pe A) args s mc ms A) (F0 m pc ls rest) :=
  rc_thr hx hb hst hown hAm hw hstr htab hsz (by decide +kernel) (List.mem_of_getElem? (i := 686) (by decide +kernel)) (List.mem_of_getElem? (i := 71) (by decide +kernel)) rc_atO rc_gdO d0 d3 d4 d6 d9 hF hL hC hSl hlocks hpe hc hs
theorem rc_callxi {S : Type} {post : Int32 → S → Prop} {w1 : S → va_W} {pe : String → Prop} (hr : vx_Run p l e R s m args below meth c H locs cells slots mc ms (F0 m pc ls st0) rest (va_Qi post (rc_B E (va_A wc H.size) w1) (va_A wc H.size) a) (rc_X pe (va_A wc H.size)) (va_A wc H.size)) (hA : ∀ q, s.heap.size ≤ q → A q) (hw : rc_W E A s ws H locs) (isC isR : List Nat) (hC : isC.map (fun i => ws[i]?) = wc.map some) (hR : isR.map (fun i => ws[i]?) = wr.map some) (hn : va_nd isR = true) (hdis : ∀ i ∈ isR, i ∉ isC)
    (kx : ∀ (x9 : String) (ce9 : Cell) (q9 : Addr) (H1 : Heap) (locs1 : List Loc), pe x9 → rc_W E A s wr H1 locs1 → H1[q9]? = some ce9 → ce9.vm = .none → s.vm.findClass x9 = some ce9.cls → vx_W p l e R s m args below meth c H1 locs1 (cells + mc) (slots + ms) Q (F0 m pc ls rest) q9)
    (kk : ∀ (r : Int32) (u : S) (H1 : Heap) (locs1 : List Loc), post r u → rc_W E A s (wr ++ w1 u) H1 locs1 → W p l e R s m args below meth c H1 locs1 (cells + mc) (slots + ms) Q (F0 m (pc + 3) ls (.int r :: rest))) : W p l e R s m args below meth c H locs cells slots Q (F0 m pc ls st0) := by
  have hFc := va_free (wc := wc) hw.2.1 hw.2.2 hA isC hC
  refine vx_calli hr hw.2.2 (fun q _ h => hFc q h) hFc (fun q _ h => hFc q h) (fun x9 ce9 q9 u t H1 locs1 ht hvm hp hB hz1 hk1 hS h1 h2 h3 => ?_) (fun r u t H1 locs1 ht hvm hp hB hz1 hk1 hS => ?_)
  · obtain ⟨hP, hD⟩ := va_join (wr := wr) (w1 := []) (cl := vwCl) (D := E.1) hw.1 hw.2.1 isC isR hC hR hn hdis hk1 hFc (fun k q h => by simp at h) ⟨fun i j p q h => by simp at h, fun k q h => by simp at h⟩
    rw [List.append_nil] at hP hD
    exact kx x9 ce9 q9 H1 locs1 hB ⟨hP, hD, hS⟩ h1 h2 h3
  · obtain ⟨hP1, hD1⟩ := hB
    rw [ht] at hP1
    obtain ⟨hP, hD⟩ := va_join (wr := wr) (w1 := w1 u) hw.1 hw.2.1 isC isR hC hR hn hdis hk1 hFc hP1 hD1
    exact kk r u H1 locs1 hp ⟨hP, hD, hS⟩
theorem rc_callxl {S : Type} {post : Int64 → S → Prop} {w1 : S → va_W} {pe : String → Prop} (hr : vx_Run p l e R s m args below meth c H locs cells slots mc ms (F0 m pc ls st0) rest (va_Ql post (rc_B E (va_A wc H.size) w1) (va_A wc H.size) a) (rc_X pe (va_A wc H.size)) (va_A wc H.size)) (hA : ∀ q, s.heap.size ≤ q → A q) (hw : rc_W E A s ws H locs) (isC isR : List Nat) (hC : isC.map (fun i => ws[i]?) = wc.map some) (hR : isR.map (fun i => ws[i]?) = wr.map some) (hn : va_nd isR = true) (hdis : ∀ i ∈ isR, i ∉ isC)
    (kx : ∀ (x9 : String) (ce9 : Cell) (q9 : Addr) (H1 : Heap) (locs1 : List Loc), pe x9 → rc_W E A s wr H1 locs1 → H1[q9]? = some ce9 → ce9.vm = .none → s.vm.findClass x9 = some ce9.cls → vx_W p l e R s m args below meth c H1 locs1 (cells + mc) (slots + ms) Q (F0 m pc ls rest) q9)
    (kk : ∀ (r : Int64) (u : S) (H1 : Heap) (locs1 : List Loc), post r u → rc_W E A s (wr ++ w1 u) H1 locs1 → W p l e R s m args below meth c H1 locs1 (cells + mc) (slots + ms) Q (F0 m (pc + 3) ls (.long r :: rest))) : W p l e R s m args below meth c H locs cells slots Q (F0 m pc ls st0) := by
  have hFc := va_free (wc := wc) hw.2.1 hw.2.2 hA isC hC
  refine vx_calll hr hw.2.2 (fun q _ h => hFc q h) hFc (fun q _ h => hFc q h) (fun x9 ce9 q9 u t H1 locs1 ht hvm hp hB hz1 hk1 hS h1 h2 h3 => ?_) (fun r u t H1 locs1 ht hvm hp hB hz1 hk1 hS => ?_)
  · obtain ⟨hP, hD⟩ := va_join (wr := wr) (w1 := []) (cl := vwCl) (D := E.1) hw.1 hw.2.1 isC isR hC hR hn hdis hk1 hFc (fun k q h => by simp at h) ⟨fun i j p q h => by simp at h, fun k q h => by simp at h⟩
    rw [List.append_nil] at hP hD
    exact kx x9 ce9 q9 H1 locs1 hB ⟨hP, hD, hS⟩ h1 h2 h3
  · obtain ⟨hP1, hD1⟩ := hB
    rw [ht] at hP1
    obtain ⟨hP, hD⟩ := va_join (wr := wr) (w1 := w1 u) hw.1 hw.2.1 isC isR hC hR hn hdis hk1 hFc hP1 hD1
    exact kk r u H1 locs1 hp ⟨hP, hD, hS⟩
theorem rc_callxd {S : Type} {post : UInt64 → S → Prop} {w1 : S → va_W} {pe : String → Prop} (hr : vx_Run p l e R s m args below meth c H locs cells slots mc ms (F0 m pc ls st0) rest (va_Qd post (rc_B E (va_A wc H.size) w1) (va_A wc H.size) a) (rc_X pe (va_A wc H.size)) (va_A wc H.size)) (hA : ∀ q, s.heap.size ≤ q → A q) (hw : rc_W E A s ws H locs) (isC isR : List Nat) (hC : isC.map (fun i => ws[i]?) = wc.map some) (hR : isR.map (fun i => ws[i]?) = wr.map some) (hn : va_nd isR = true) (hdis : ∀ i ∈ isR, i ∉ isC)
    (kx : ∀ (x9 : String) (ce9 : Cell) (q9 : Addr) (H1 : Heap) (locs1 : List Loc), pe x9 → rc_W E A s wr H1 locs1 → H1[q9]? = some ce9 → ce9.vm = .none → s.vm.findClass x9 = some ce9.cls → vx_W p l e R s m args below meth c H1 locs1 (cells + mc) (slots + ms) Q (F0 m pc ls rest) q9)
    (kk : ∀ (r : UInt64) (u : S) (H1 : Heap) (locs1 : List Loc), post r u → rc_W E A s (wr ++ w1 u) H1 locs1 → W p l e R s m args below meth c H1 locs1 (cells + mc) (slots + ms) Q (F0 m (pc + 3) ls (.double r :: rest))) : W p l e R s m args below meth c H locs cells slots Q (F0 m pc ls st0) := by
  have hFc := va_free (wc := wc) hw.2.1 hw.2.2 hA isC hC
  refine vx_calld hr hw.2.2 (fun q _ h => hFc q h) hFc (fun q _ h => hFc q h) (fun x9 ce9 q9 u t H1 locs1 ht hvm hp hB hz1 hk1 hS h1 h2 h3 => ?_) (fun r u t H1 locs1 ht hvm hp hB hz1 hk1 hS => ?_)
  · obtain ⟨hP, hD⟩ := va_join (wr := wr) (w1 := []) (cl := vwCl) (D := E.1) hw.1 hw.2.1 isC isR hC hR hn hdis hk1 hFc (fun k q h => by simp at h) ⟨fun i j p q h => by simp at h, fun k q h => by simp at h⟩
    rw [List.append_nil] at hP hD
    exact kx x9 ce9 q9 H1 locs1 hB ⟨hP, hD, hS⟩ h1 h2 h3
  · obtain ⟨hP1, hD1⟩ := hB
    rw [ht] at hP1
    obtain ⟨hP, hD⟩ := va_join (wr := wr) (w1 := w1 u) hw.1 hw.2.1 isC isR hC hR hn hdis hk1 hFc hP1 hD1
    exact kk r u H1 locs1 hp ⟨hP, hD, hS⟩
theorem rc_callxv {S : Type} {post : S → Prop} {w1 : S → va_W} {pe : String → Prop} (hr : vx_Run p l e R s m args below meth c H locs cells slots mc ms (F0 m pc ls st0) rest (va_Qv post (rc_B E (va_A wc H.size) w1) (va_A wc H.size) a) (rc_X pe (va_A wc H.size)) (va_A wc H.size)) (hA : ∀ q, s.heap.size ≤ q → A q) (hw : rc_W E A s ws H locs) (isC isR : List Nat) (hC : isC.map (fun i => ws[i]?) = wc.map some) (hR : isR.map (fun i => ws[i]?) = wr.map some) (hn : va_nd isR = true) (hdis : ∀ i ∈ isR, i ∉ isC)
    (kx : ∀ (x9 : String) (ce9 : Cell) (q9 : Addr) (H1 : Heap) (locs1 : List Loc), pe x9 → rc_W E A s wr H1 locs1 → H1[q9]? = some ce9 → ce9.vm = .none → s.vm.findClass x9 = some ce9.cls → vx_W p l e R s m args below meth c H1 locs1 (cells + mc) (slots + ms) Q (F0 m pc ls rest) q9)
    (kk : ∀ (u : S) (H1 : Heap) (locs1 : List Loc), post u → rc_W E A s (wr ++ w1 u) H1 locs1 → W p l e R s m args below meth c H1 locs1 (cells + mc) (slots + ms) Q (F0 m (pc + 3) ls rest)) : W p l e R s m args below meth c H locs cells slots Q (F0 m pc ls st0) := by
  have hFc := va_free (wc := wc) hw.2.1 hw.2.2 hA isC hC
  refine vx_callv hr hw.2.2 (fun q _ h => hFc q h) hFc (fun q _ h => hFc q h) (fun x9 ce9 q9 u t H1 locs1 ht hvm hp hB hz1 hk1 hS h1 h2 h3 => ?_) (fun u t H1 locs1 ht hvm hp hB hz1 hk1 hS => ?_)
  · obtain ⟨hP, hD⟩ := va_join (wr := wr) (w1 := []) (cl := vwCl) (D := E.1) hw.1 hw.2.1 isC isR hC hR hn hdis hk1 hFc (fun k q h => by simp at h) ⟨fun i j p q h => by simp at h, fun k q h => by simp at h⟩
    rw [List.append_nil] at hP hD
    exact kx x9 ce9 q9 H1 locs1 hB ⟨hP, hD, hS⟩ h1 h2 h3
  · obtain ⟨hP1, hD1⟩ := hB
    rw [ht] at hP1
    obtain ⟨hP, hD⟩ := va_join (wr := wr) (w1 := w1 u) hw.1 hw.2.1 isC isR hC hR hn hdis hk1 hFc hP1 hD1
    exact kk u H1 locs1 hp ⟨hP, hD, hS⟩
end RCM
theorem rc_inWi {l : Launch} {y : MethodName} {ws ws2 : List Cond} {rm : Room} {E : rc_E} {av : List Value} {wc : va_W} {sz : Nat} {mc ms : Nat} {cc : ByteArray} {maxL : Nat} {ret : Option FieldType} {hh : List (Nat × Nat × Nat × Nat)} {S : Type} {post : Int32 → S → Prop} {w1 : S → va_W} (hy : plainName y.cls = true) (hw : ws = Cond.codeWith y cc maxL ret hh :: ws2) (hav : (lg_sl av).length ≤ maxL) (body : ∀ (p : Program) (e : Env) (s : State) (m : MethodId) (args : Array Value) (below : List Frame) (meth : Method) (c : Code) (ls : Array Slot) (A : Nat → Prop), c.exceptionTable.toList = tableOf hh → p.tables.exec = Jvm.exec → c.code = cc → meth.sig.returnType = ret → c.maxLocals = maxL → (∀ w ∈ ws, w.before args s = true) → s.vm.findClass y.cls = some m.cls → meth.locks = false → meth.name = y.name → (∀ q, s.heap.size ≤ q → A q) → rc_Amb E A s s.heap → rc_W E A s wc s.heap [] → lv_has ls maxL (lv_args 0 av) → W p l e rm s m args below meth c s.heap [] 0 0 (MQ below (va_Qi post (rc_B E A w1) A) args s mc ms A) (F0 m 0 ls [])) : rc_Mi l y ws rm E av wc sz post w1 mc ms := by
  refine va_MetW (cc := cc) (maxL := maxL) (ret := ret) (hh := hh) hy hw ?_
  intro p e s m args below meth c s₁ B hml hv
  obtain ⟨rfl, hsz, hP, hD0, hAm⟩ := hv
  have hts := atoms_spec (ws := ws) B.pre
  have htb := vx_table (x := y) B (hts _ (by rw [hw]; exact List.mem_cons_self))
  have hl := lv_entry av (n := maxL) hav
  rw [lg_entry_eq]
  generalize (lg_sl av ++ List.replicate (maxL - (lg_sl av).length) Slot.unset).toArray = ls at hl ⊢
  subst hsz
  exact body p e s m _ below meth c ls _ htb B.exec B.bytes B.returns hml hts (findClass_of_methodNamed B.named) B.notSynchronized (name_of_methodNamed B.named B.method).1 (fun _ h => Or.inr h) hAm ⟨hP, hD0.self, va_S.rf⟩ hl
theorem rc_g1 {x k : Int32} {b : Int} (h : x < k) (hk : k.toInt = b) : x.toInt < b := by rw [← hk]; exact Int32.lt_iff_toInt_lt.mp h
theorem rc_g2 {x k : Int32} {b : Int} (h : k < x) (hk : k.toInt = b) : b < x.toInt := by rw [← hk]; exact Int32.lt_iff_toInt_lt.mp h
theorem rc_g3 {x k : Int32} {b : Int} (h : x ≤ k) (hk : k.toInt = b) : x.toInt ≤ b := by rw [← hk]; exact Int32.le_iff_toInt_le.mp h
theorem rc_g4 {x k : Int32} {b : Int} (h : k ≤ x) (hk : k.toInt = b) : b ≤ x.toInt := by rw [← hk]; exact Int32.le_iff_toInt_le.mp h
theorem rc_g5 {x k : Int32} {b : Int} (h : x = k) (hk : k.toInt = b) : x.toInt = b := by rw [← hk, h]
theorem rc_n1 {x k : Int32} {b : Int} (h : ¬ x < k) (hk : k.toInt = b) : ¬ x.toInt < b := by rw [← hk]; exact fun g => h (Int32.lt_iff_toInt_lt.mpr g)
theorem rc_n2 {x k : Int32} {b : Int} (h : ¬ k < x) (hk : k.toInt = b) : ¬ b < x.toInt := by rw [← hk]; exact fun g => h (Int32.lt_iff_toInt_lt.mpr g)
theorem rc_n3 {x k : Int32} {b : Int} (h : ¬ x ≤ k) (hk : k.toInt = b) : ¬ x.toInt ≤ b := by rw [← hk]; exact fun g => h (Int32.le_iff_toInt_le.mpr g)
theorem rc_n4 {x k : Int32} {b : Int} (h : ¬ k ≤ x) (hk : k.toInt = b) : ¬ b ≤ x.toInt := by rw [← hk]; exact fun g => h (Int32.le_iff_toInt_le.mpr g)
theorem rc_n5 {x k : Int32} {b : Int} (h : ¬ x = k) (hk : k.toInt = b) : ¬ x.toInt = b := by rw [← hk]; exact fun g => h (Int32.toInt_inj.mp g)
theorem rc_eqc {x k : Int32} {b : Int} (hk : k.toInt = b) (h : x.toInt = b) : x = k := Int32.toInt_inj.mp (h.trans hk.symm)
theorem rc_inN {i : Int32} {n N : Nat} (e : i.toNatClampNeg = n) (h : n < N) (h0 : ¬ i < 0) : vp_in i N := by
  intro q
  rcases q with q | q
  · exact h0 q
  · omega
section RCN
variable {p : Program} {l : Launch} {e : Env} {R : Room} {s : State} {m : MethodId} {args : Array Value} {below : List Frame} {meth : Method} {c : Code} {H : Heap} {locs : List Loc} {cells slots : Nat} {Q : State → Prop}
variable {cc : ByteArray} {pc : Nat} {ls : Array Slot} {rest st0 : List Value} {E : rc_E} {A : Nat → Prop} {ws wc wr : va_W} {mc ms : Nat} {a : Array Value} {own C : String} {index : Nat}
theorem rc_rows_nil : (fun _ => none) = rc_rows [] := rfl
theorem rc_rows_push {L : List Nat} {k q : Nat} (h : k = L.length) : va_up (rc_rows L) k (some q) = rc_rows (L ++ [q]) := by
  subst h
  funext i
  unfold va_up rc_rows
  by_cases e : i = L.length
  · rw [if_pos e, e]; simp
  · rw [if_neg e]
    rcases Nat.lt_or_ge i L.length with h | h
    · rw [List.getElem?_append_left h]
    · rw [List.getElem?_eq_none h, List.getElem?_eq_none (by simp; omega)]
theorem rc_rows_cpy {L : List Nat} {n : Nat} (h : n = L.length) : va_cpy (rc_rows L) (rc_rows []) 0 0 n = rc_rows L := by
  subst h
  funext i
  unfold va_cpy rc_rows
  by_cases e : i < L.length
  · rw [if_pos ⟨Nat.zero_le _, by omega⟩]; simp
  · rw [if_neg (by omega), List.getElem?_eq_none (Nat.not_lt.mp e)]; rfl
theorem rc_rowsF {P : Nat → Prop} {L : List Nat} (h : ∀ y ∈ L, P y) (n : Nat) : ∀ i : Nat, i < n → ∀ y : Nat, rc_rows L (0 + i) = some y → P y := by
  intro i _ y hy
  unfold rc_rows at hy
  exact h y (List.mem_of_getElem? hy)
theorem rc_qnewR (hx : p.tables.exec = Jvm.exec) (hb : c.code = cc) (hown : s.vm.findClass own = some m.cls) (hAm : rc_Amb E A s s.heap) (hA : ∀ q, s.heap.size ≤ q → A q) (hw : rc_W E A s ws H locs) (h1 : Cond.classLink own index "java/lang/Object" ∈ lw_tbl) (h2 : Cond.arrayOver (.object "java/lang/Object") ∈ lw_tbl) {n : Int32} (N1 : Nat) (hn : ¬ n < 0) (hN : n.toNatClampNeg = N1) (hbytes : N1 * 4 ≤ 536870912) (hcells : cells + 1 ≤ R.cells) (hslots : slots + N1 ≤ R.slots) (hdg : decode cc pc = .ok (.anewarray index, 3))
    (kk : ∀ (q : Nat) (H1 : Heap), rc_W E A s (ws ++ [(q, .inl (E.2.1 2, N1, .inr (.inr (.inr (.inr (rc_rows []))))))]) H1 locs → W p l e R s m args below meth c H1 locs (cells + 1) (slots + N1) Q (F0 m (pc + 3) ls (.ref q :: rest))) : W p l e R s m args below meth c H locs cells slots Q (F0 m pc ls (.int n :: rest)) :=
  rc_qnew hx hb hown hAm hA hw h1 h2 N1 hn hN hbytes hcells hslots hdg kk
theorem rc_qastR {T : u_T} {N ci : Nat} (hx : p.tables.exec = Jvm.exec) (hb : c.code = cc) (hAm : rc_Amb E A s s.heap) (hw : rc_W E A s ws H locs) (q0 : Nat) {aa n v : Nat} {L : List Nat} (ha : ws[q0]? = some (aa, .inl (E.2.1 2, n, .inr (.inr (.inr (.inr (rc_rows L))))))) (qk : Nat) {vs : List Value} (hv : ws[qk]? = some (v, .inr (ci, vs))) (hc : vwCl[ci]? = some (C, T, N)) (hca : Cond.castable C "java/lang/Object" ∈ lw_tbl) {i : Int32} (hi : i.toNatClampNeg = L.length) (hin : vp_in i n) (ws2 : va_W) (h2 : ws.set q0 (aa, .inl (E.2.1 2, n, .inr (.inr (.inr (.inr (rc_rows (L ++ [v]))))))) = ws2) (hdg : decode cc pc = .ok (.aastore, 1))
    (kk : ∀ (H1 : Heap) (locs1 : List Loc), rc_W E A s ws2 H1 locs1 → W p l e R s m args below meth c H1 locs1 cells slots Q (F0 m (pc + 1) ls rest)) : W p l e R s m args below meth c H locs cells slots Q (F0 m pc ls (.ref v :: .int i :: .ref aa :: rest)) :=
  rc_qast hx hb hAm hw q0 ha qk hv hc hca hin ws2 (by rw [rc_rows_push hi]; exact h2) hdg kk
theorem rc_qaldR (hx : p.tables.exec = Jvm.exec) (hb : c.code = cc) (hAm : rc_Amb E A s s.heap) (hw : rc_W E A s ws H locs) (q0 : Nat) {n aa : Nat} {L : List Nat} (ha : ws[q0]? = some (aa, .inl (E.2.1 2, n, .inr (.inr (.inr (.inr (rc_rows L))))))) {i : Int32} (hin : vp_in i n) {q : Nat} (hq : L[i.toNatClampNeg]? = some q) (hdg : decode cc pc = .ok (.aaload, 1))
    (kk : W p l e R s m args below meth c H locs cells slots Q (F0 m (pc + 1) ls (.ref q :: rest))) : W p l e R s m args below meth c H locs cells slots Q (F0 m pc ls (.int i :: .ref aa :: rest)) := by
  refine rc_qald hx hb hAm hw q0 ha hin hdg ?_
  have e : rc_rows L i.toNatClampNeg = some q := hq
  rw [e]
  exact kk
theorem rc_copyR (hx : p.tables.exec = Jvm.exec) (hb : c.code = cc) (hml : c.maxLocals = ls.size) (hown : s.vm.findClass own = some m.cls) (hAm : rc_Amb E A s s.heap) (hw : rc_W E A s ws H locs) (h1 : Cond.methodLink own index arraycopyName ∈ lw_tbl) (h2 : Cond.native arraycopyName ∈ lw_tbl) (h3 : Cond.static arraycopyName ∈ lw_tbl) (h4 : Cond.initialized "java/lang/System" ∈ lw_tbl) (q0 q1 : Nat) {a0 a1 n0 n1 : Nat} {L : List Nat} (ha0 : ws[q0]? = some (a0, .inl (E.2.1 2, n0, .inr (.inr (.inr (.inr (rc_rows L))))))) (ha1 : ws[q1]? = some (a1, .inl (E.2.1 2, n1, .inr (.inr (.inr (.inr (rc_rows []))))))) {n : Int32} (hn : ¬ n < 0) (hn2 : n.toNatClampNeg = L.length) (h5 : n.toNatClampNeg ≤ n0) (h6 : n.toNatClampNeg ≤ n1) (hel : ∀ y ∈ L, ∃ cellV : Cell, H[y]? = some cellV ∧ cellV.vm.isStatics = false ∧ s.vm.findClass C = some cellV.cls) (hca : Cond.castable C "java/lang/Object" ∈ lw_tbl)
    (hframes : 1 ≤ R.frames) (hlocals : (rest.map fun v => v.category).sum + (nativeFrameWords "java/lang/System" "arraycopy" 5 + 11) ≤ R.locals) (ws2 : va_W) (hs2 : ws.set q1 (a1, .inl (E.2.1 2, n1, .inr (.inr (.inr (.inr (rc_rows L)))))) = ws2) (hdg : decode cc pc = .ok (.invokestatic index, 3))
    (kk : ∀ (H1 : Heap) (locs1 : List Loc), rc_W E A s ws2 H1 locs1 → W p l e R s m args below meth c H1 locs1 cells slots Q (F0 m (pc + 3) ls rest)) : W p l e R s m args below meth c H locs cells slots Q (F0 m pc ls (.int n :: .int 0 :: .ref a1 :: .int 0 :: .ref a0 :: rest)) := by
  subst hs2
  have e0 : (0 : Int32).toNatClampNeg = 0 := rfl
  refine va_copyq (E0 := "java/lang/Object") (E1 := "java/lang/Object") (C := C) (sp := 0) (dp := 0) hx hb hml hown (hAm.wd h1 rfl rfl) (hAm.wd h2 rfl rfl) (hAm.wd h3 rfl rfl) (hAm.wd h4 rfl rfl) hAm.K hw.1 hw.2.1 hw.2.2 q0 q1 2 2 ha0 ha1 rfl rfl (by decide) (by decide) hn (by rw [e0]; omega) (by rw [e0]; omega) (by rw [e0]; exact rc_rowsF hel _) (vb_asgC (hAm.nw hca rfl)) hframes hlocals hdg (fun H1 locs1 hP hD hS => kk H1 locs1 ?_)
  rw [e0, rc_rows_cpy hn2] at hP hD
  exact ⟨hP, hD, hS⟩
theorem rc_getC (hx : p.tables.exec = Jvm.exec) (hb : c.code = cc) (hml : c.maxLocals = ls.size) (hown : s.vm.findClass own = some m.cls) (hAm : rc_Amb E A s s.heap) (hw : rc_W E A s ws H locs) (h1 : Cond.methodLink own index ⟨"java/lang/Object", "getClass", "()Ljava/lang/Class;"⟩ ∈ lw_tbl) (h2 : Cond.declares ⟨"java/lang/Object", "getClass", "()Ljava/lang/Class;"⟩ ∈ lw_tbl) (h3 : Cond.selects "[Ljava/lang/Object;" ⟨"java/lang/Object", "getClass", "()Ljava/lang/Class;"⟩ ⟨"java/lang/Object", "getClass", "()Ljava/lang/Class;"⟩ ∈ lw_tbl) (h4 : Cond.instanceMethod ⟨"java/lang/Object", "getClass", "()Ljava/lang/Class;"⟩ ∈ lw_tbl) (h5 : Cond.native ⟨"java/lang/Object", "getClass", "()Ljava/lang/Class;"⟩ ∈ lw_tbl) (q0 : Nat) {aa n : Nat} {f : Nat → Option Nat} (ha : ws[q0]? = some (aa, .inl (E.2.1 2, n, .inr (.inr (.inr (.inr f)))))) (hframes : 1 ≤ R.frames) (hlocals : (rest.map fun v => v.category).sum + 14 ≤ R.locals) (hdg : decode cc pc = .ok (.invokevirtual index, 3))
    (k : W p l e R s m args below meth c H locs cells slots Q (F0 m (pc + 3) ls (.ref (E.2.2 300) :: rest))) : W p l e R s m args below meth c H locs cells slots Q (F0 m pc ls (.ref aa :: rest)) :=
  va_getC (C := "[Ljava/lang/Object;") hx hb hml hown (hAm.wd h1 rfl rfl) (hAm.wd h2 rfl rfl) (hAm.wd h3 rfl rfl) (hAm.wd h4 rfl rfl) (hAm.wd h5 rfl rfl) hAm.2.2.2 ⟨_, hw.1 q0 _ ha, rfl, va_nmO ((hAm.K.2 2 _ rfl).2) rfl⟩ hframes hlocals hdg k
end RCN
