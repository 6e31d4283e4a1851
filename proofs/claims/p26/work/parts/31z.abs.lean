/-! Math.abs of a double that is a number -/
section ABS
variable {p : Program} {l : Launch} {e : Env} {R : Room} {s : State} {m : MethodId} {args : Array Value} {below : List Frame} {meth : Method} {c : Code} {H : Heap} {locs : List Loc} {cells slots : Nat} {Q : State → Prop} {cc : ByteArray} {pc : Nat} {ls : Array Slot} {rest : List Value}
theorem la_absD (hx : p.tables.exec = Jvm.exec) (hb : c.code = cc) (hml : c.maxLocals = ls.size) {own : String} {index : Nat} (hown : s.vm.findClass own = some m.cls) (hlink : (Cond.methodLink own index Jvm.Free.Fl.Abs.absDN).before args s = true) (hstat : (Cond.static Jvm.Free.Fl.Abs.absDN).before args s = true) (hini : (Cond.initialized "java/lang/Math").before args s = true) (hcode : (Cond.code Jvm.Free.Fl.Abs.absDN Jvm.Free.Fl.Abs.absDCode 2 (some .double)).before args s = true)
    (hframes : 1 ≤ R.frames) (hlocals : (rest.map fun v => v.category).sum + 13 ≤ R.locals) (hc : cells ≤ R.cells) (hs : slots ≤ R.slots) {a : UInt64} (ha : vf_n64 a) (hdg : decode cc pc = .ok (.invokestatic index, 3))
    (kk : W p l e R s m args below meth c H locs cells slots Q (F0 m (pc + 3) ls (.double (a &&& 0x7fffffffffffffff) :: rest))) : W p l e R s m args below meth c H locs cells slots Q (F0 m pc ls (.double a :: rest)) := by
  intro T hT X
  obtain ⟨mk, hnamed⟩ := Cond.code_named hcode
  obtain ⟨methS, cS, hmethS, -, -, -, -, -, -, hsigS⟩ := Cond.code_spec hnamed hcode
  have hstatic := Cond.static_spec hnamed hmethS hstat
  obtain ⟨kS, hkS, -⟩ := className_of_methodNamed hnamed
  have hinitS : kS.init = .initialized := Cond.initialized_spec (findClass_of_methodNamed hnamed) hkS hini
  obtain ⟨vm₁, X₁, hstep₁⟩ := X.invokestatic hx hown hlink hnamed hmethS hstatic hkS hinitS (by decide) (g := F0 m pc ls (.double a :: rest)) rfl (argsL := [.double a]) (rest := rest)
    (by have h := hsigS; rw [show parseMethodDescriptor Jvm.Free.Fl.Abs.absDN.desc = some ⟨[.double], some .double⟩ from by decide +kernel] at h; rw [← Option.some.inj h]; rfl) rfl (by rw [hb]; exact hdg)
  have hnamed₁ : (T.setVm vm₁).methodNamed? Jvm.Free.Fl.Abs.absDN = some mk := X₁.named hnamed
  have hcodeU : (Cond.code Jvm.Free.Fl.Abs.absDN Jvm.Free.Fl.Abs.absDCode 2 (some .double)).before args (T.setVm vm₁) = true := Cond.tabsOnly_warm (args' := args) (T := T.setVm vm₁) X₁.warmed _ rfl hcode
  obtain ⟨methM, cM, hmethM, hcodeM', -, hlocalsM, -, hlocksM, -, hsigM⟩ := Cond.code_spec hnamed₁ hcodeU
  obtain ⟨kP, hkP, hkname⟩ := className_of_methodNamed hnamed₁
  obtain ⟨hmnM, hmdM⟩ := name_of_methodNamed hnamed₁ hmethM
  have hkP' : vm₁.classes[mk.cls]? = some kP := hkP
  have hxP : kP.methods[mk.idx]? = some methM := by simpa [Vm.method?, hkP'] using hmethM
  have hbootP : kP.loader = none := Vm.bootOf_findClass (findClass_of_methodNamed hnamed₁) hkP
  obtain ⟨t, a1, b1⟩ := kk (T.setVm vm₁) hT X₁
  refine ⟨t, hstep₁ _ fun acts => ?_, b1⟩
  exact Jvm.Free.Fl.Abs.Steps.absD p (g := { F0 m pc ls (.double a :: rest) with stack := rest }) X₁.here.top X₁.here.above X₁.here.running X₁.here.runnable X₁.here.alone X₁.here.code acts hkP hxP hbootP hkname hmnM hmdM hsigM hcodeM' hlocalsM hlocksM
    (X₁.room_calling (g := { F0 m pc ls (.double a :: rest) with stack := rest }) (by rw [hml]) hmethM hcodeM' (R' := {}) (by show 0 + 1 ≤ R.frames; omega) (by rw [hlocalsM]; show 2 * 0 + (rest.map fun v => v.category).sum + (2 + 11) + 0 ≤ R.locals; omega) (by show cells + 0 ≤ R.cells; omega) (by show slots + 0 ≤ R.slots; omega)) ha (by rw [hb]; exact hdg) a1
end ABS
