/-! the base: what a state of the run is taken to be; entry, call and end of a method in few rows -/
/-- the environment: the classes of the worlds, the array classes, the addresses that nobody writes -/
abbrev rc_E : Type := va_G × (Nat → ClassId) × (Nat → Nat)
abbrev rc_tys (E : rc_E) : List (ClassId × FieldType) := [(E.2.1 0, .int), (E.2.1 1, .array .int), (E.2.1 2, .object "java/lang/Object")]
def rc_nest (w : Cond) : Bool := match w with
  | .fieldLinkNest .. => true
  | .methodLinkNest .. => true
  | .arrayOver _ => true
  | .arrayClass _ => true
  | _ => false
/-- a word that stays true whatever is resolved -/
def rc_st (w : Cond) : Bool := (w.onTables && (w.keeps || w.faceAtom)) || rc_nest w
theorem rc_st_warm {w : Cond} {s U : State} (hW : s.WarmedH U.vm) (h : rc_st w = true) (hz : va_Nw w s) : va_Nw w U := by
  simp only [rc_st, Bool.or_eq_true, Bool.and_eq_true] at h
  rcases h with ⟨h1, h2 | h2⟩ | h
  · have h3 := Cond.onTables_warm (T := U) (args' := #[]) hW h1 h2 hz
    rwa [State.setVm_self] at h3
  · have h3 := Cond.faceAtom_setVm (args := #[]) hW.alike w h2 hz
    exact va_tabs h1 (rfl : (s.setVm U.vm).vm = U.vm) h3
  · match w, h with
    | .fieldLinkNest .., _ => exact va_Nw.warmF hW hz
    | .methodLinkNest .., _ => exact va_Nw.warmM hW hz
    | .arrayOver ty, _ =>
      have h3 : (Cond.arrayOver ty).before #[] (s.setVm U.vm) = true := (Cond.arrayOver_setVmC hW.alike ty).trans hz
      exact h3
    | .arrayClass ty, _ => exact word_at hW (Or.inr ⟨ty, rfl⟩) hz
def rc_strs : List (String × Nat × String) := [("RegressionCourt", 83, "price or measure"), ("RegressionCourt", 94, "no more machines"), ("RegressionCourt", 130, "many"), ("RegressionCourt", 132, "no more changes"), ("RegressionCourt", 190, "enough or level"), ("RegressionCourt", 124, "what"), ("RegressionCourt", 104, "machine"), ("RegressionCourt", 107, "measure"), ("RegressionCourt", 161, "run"), ("RegressionCourt", 166, "struck already"), ("RegressionCourt", 172, "change"), ("RegressionCourt", 192, "bad is not above good"), ("RegressionCourt", 197, "there is a case"), ("RegressionCourt", 205, "there is no case"), ("RegressionCourt", 222, "price"), ("RegressionCourt", 229, "not named, excused, or no credit"), ("RegressionCourt", 231, "minutes"), ("RegressionCourt", 137, "change or machine"), ("RegressionCourt", 139, "time"), ("RegressionCourt", 144, "aside, no more runs, or no minutes")]
def rc_ncs : List (String × String) := [("java/lang/IllegalArgumentException", "java/lang/IllegalStateException"), ("java/lang/IllegalArgumentException", "java/lang/IndexOutOfBoundsException"), ("java/lang/IllegalStateException", "java/lang/IllegalArgumentException"), ("java/lang/IllegalStateException", "java/lang/IndexOutOfBoundsException"), ("java/lang/IndexOutOfBoundsException", "java/lang/IllegalArgumentException"), ("java/lang/IndexOutOfBoundsException", "java/lang/IllegalStateException")]
/-- what holds around every method of the run: the classes, the tables' words, the texts, the statics; A: what may be written -/
def rc_Amb (E : rc_E) (A : Nat → Prop) (U : State) (H : Heap) : Prop :=
  (va_K E.1 vwCl (rc_tys E) U ∧ (∀ w : Cond, w ∈ lw_tbl → rc_st w = true → va_Nw w U) ∧ (∀ q : String × Nat × String, q ∈ rc_strs → ∃ a : Nat, vk_R q.1 q.2.1 q.2.2 a U) ∧ (∀ q : String × String, q ∈ rc_ncs → va_Nc q.1 q.2 U)) ∧
  (vx_Zq Bundle.tN "UNASSIGNED_STACK" Bundle.steD A U H ∧ vx_Zq Bundle.tN "SUPPRESSED_SENTINEL" Bundle.listD A U H) ∧
  (va_Z "java/util/ArrayList" "DEFAULTCAPACITY_EMPTY_ELEMENTDATA" "[Ljava/lang/Object;" (.ref (E.2.2 0)) A U H ∧ va_T (.object "java/lang/Object") (E.2.2 0) 0 (fun _ => .null) A U H) ∧
  va_Mi "[Ljava/lang/Object;" (E.2.2 300) U
theorem rc_Amb.at {E : rc_E} {A B : Nat → Prop} {s U : State} {H : Heap} {locs : List Loc} (h : rc_Amb E A s s.heap) (hS : va_S A s.heap H locs) (hAB : ∀ q, B q → A q) (hU : U.heap = H) (hW : s.WarmedH U.vm) : rc_Amb E B U U.heap := by
  subst hU
  obtain ⟨⟨k1, k2, k3, k4⟩, ⟨z1, z2⟩, ⟨z3, z4⟩, z9⟩ := h
  have hv := hW.alike
  have hk := hS.2.1
  exact ⟨⟨va_K.moved hv k1, fun w hw hs => rc_st_warm hW hs (k2 w hw hs), fun q hq => (k3 q hq).imp fun a h => vk_R.warm hW h, fun q hq => va_Nc.moved hv (k4 q hq)⟩,
    ⟨vx_Zq.narrow (vx_Zq.moved hv (z1.kept hk)) hAB, vx_Zq.narrow (vx_Zq.moved hv (z2.kept hk)) hAB⟩,
    ⟨va_Z.narrow (va_Z.moved hv (z3.kept hk)) hAB, va_T.narrow (va_T.moved hv (z4.kept hk)) hAB⟩,
    va_Mi.moved hv z9⟩
theorem rc_Amb.K {E : rc_E} {A : Nat → Prop} {U : State} {H : Heap} (h : rc_Amb E A U H) : va_K E.1 vwCl (rc_tys E) U := h.1.1
theorem rc_Amb.nw {E : rc_E} {A : Nat → Prop} {U : State} {H : Heap} (h : rc_Amb E A U H) {w : Cond} (hw : w ∈ lw_tbl) (hs : rc_st w = true) : va_Nw w U := h.1.2.1 w hw hs
/-- a word of the tables, seen at a method's start -/
theorem rc_Amb.wd {E : rc_E} {A : Nat → Prop} {U : State} {H : Heap} (h : rc_Amb E A U H) {w : Cond} {a : Array Value} (hw : w ∈ lw_tbl) (hs : rc_st w = true) (ht : w.onTables = true) : w.before a U = true := va_Nw.use ht (h.1.2.1 w hw hs)
/-- the cells in sight: they hold, they are apart, and since the method's start nothing outside A has changed -/
def rc_W (E : rc_E) (A : Nat → Prop) (s : State) (ws : va_W) (H : Heap) (locs : List Loc) : Prop := va_P E.1 vwCl ws H ∧ va_D A ws ∧ va_S A s.heap H locs
theorem rc_sub {D : va_G} {cl : List vw_C} {ws ws' : va_W} {H : Heap} (h : va_P D cl ws H) (is : List Nat) (hs : is.map (fun i => ws[i]?) = ws'.map some) : va_P D cl ws' H := by
  intro k q hk
  have h1 : (is.map (fun i => ws[i]?))[k]? = some (some q) := by rw [hs, List.getElem?_map, hk]; rfl
  rw [List.getElem?_map] at h1
  cases hi : is[k]? with
  | none => rw [hi] at h1; cases h1
  | some i => rw [hi] at h1; exact h i q (Option.some.inj h1)
theorem rc_W.sub {E : rc_E} {A : Nat → Prop} {s : State} {ws ws' : va_W} {H : Heap} {locs : List Loc} (h : rc_W E A s ws H locs) (is : List Nat) (hn : va_nd is = true) (hs : is.map (fun i => ws[i]?) = ws'.map some) : rc_W E A s ws' H locs := ⟨rc_sub h.1 is hs, h.2.1.sub is hn hs, h.2.2⟩
def rc_Pc (E : rc_E) (av : List Value) (wc : va_W) (sz : Nat) : Array Value → State → Prop := va_Pc av (fun U => U.heap.size = sz ∧ va_P E.1 vwCl wc U.heap ∧ va_D (fun _ => True) wc ∧ rc_Amb E (va_A wc sz) U U.heap)
def rc_B {S : Type} (E : rc_E) (A : Nat → Prop) (w1 : S → va_W) : S → State → Prop := fun u t => va_P E.1 vwCl (w1 u) t.heap ∧ va_D A (w1 u)
def rc_Br {S : Type} (E : rc_E) (A : Nat → Prop) (pr : S → Nat → Prop) (w1 : S → va_W) : S → Nat → State → Prop := fun u a t => pr u a ∧ va_P E.1 vwCl (w1 u) t.heap ∧ va_D A (w1 u)
theorem rc_blind {E : rc_E} {av : List Value} {wc : va_W} {sz : Nat} : FrameBlind (rc_Pc E av wc sz) := by
  intro a U g mk h
  obtain ⟨h1, h2, h3, h4, h5⟩ := h
  exact ⟨h1, h2, h3, h4, h5.at (U := U.calling g mk a) va_S.rf (fun _ h => h) rfl (State.WarmedH.refl U)⟩
/-- which exception, and when -/
def rc_X (pe : String → Prop) (A : Nat → Prop) : String → State → State → Prop := vx_X (S := Unit) (fun _ => True) (fun E _ _ => pe E) A
abbrev rc_Mi (l : Launch) (y : MethodName) (ws : List Cond) (rm : Room) (E : rc_E) (av : List Value) (wc : va_W) (sz : Nat) {S : Type} (post : Int32 → S → Prop) (w1 : S → va_W) (mc ms : Nat) : Prop := Met l y ws rm (rc_Pc E av wc sz) (va_Qi post (rc_B E (va_A wc sz) w1) (va_A wc sz)) mc ms (va_A wc sz)
abbrev rc_Xi (l : Launch) (y : MethodName) (ws : List Cond) (rm : Room) (E : rc_E) (av : List Value) (wc : va_W) (sz : Nat) {S : Type} (post : Int32 → S → Prop) (w1 : S → va_W) (pe : String → Prop) (mc ms : Nat) : Prop := vx_Met l y ws rm (rc_Pc E av wc sz) (va_Qi post (rc_B E (va_A wc sz) w1) (va_A wc sz)) (rc_X pe (va_A wc sz)) mc ms (va_A wc sz)
abbrev rc_Ml (l : Launch) (y : MethodName) (ws : List Cond) (rm : Room) (E : rc_E) (av : List Value) (wc : va_W) (sz : Nat) {S : Type} (post : Int64 → S → Prop) (w1 : S → va_W) (mc ms : Nat) : Prop := Met l y ws rm (rc_Pc E av wc sz) (va_Ql post (rc_B E (va_A wc sz) w1) (va_A wc sz)) mc ms (va_A wc sz)
abbrev rc_Xl (l : Launch) (y : MethodName) (ws : List Cond) (rm : Room) (E : rc_E) (av : List Value) (wc : va_W) (sz : Nat) {S : Type} (post : Int64 → S → Prop) (w1 : S → va_W) (pe : String → Prop) (mc ms : Nat) : Prop := vx_Met l y ws rm (rc_Pc E av wc sz) (va_Ql post (rc_B E (va_A wc sz) w1) (va_A wc sz)) (rc_X pe (va_A wc sz)) mc ms (va_A wc sz)
abbrev rc_Md (l : Launch) (y : MethodName) (ws : List Cond) (rm : Room) (E : rc_E) (av : List Value) (wc : va_W) (sz : Nat) {S : Type} (post : UInt64 → S → Prop) (w1 : S → va_W) (mc ms : Nat) : Prop := Met l y ws rm (rc_Pc E av wc sz) (va_Qd post (rc_B E (va_A wc sz) w1) (va_A wc sz)) mc ms (va_A wc sz)
abbrev rc_Xd (l : Launch) (y : MethodName) (ws : List Cond) (rm : Room) (E : rc_E) (av : List Value) (wc : va_W) (sz : Nat) {S : Type} (post : UInt64 → S → Prop) (w1 : S → va_W) (pe : String → Prop) (mc ms : Nat) : Prop := vx_Met l y ws rm (rc_Pc E av wc sz) (va_Qd post (rc_B E (va_A wc sz) w1) (va_A wc sz)) (rc_X pe (va_A wc sz)) mc ms (va_A wc sz)
abbrev rc_Mv (l : Launch) (y : MethodName) (ws : List Cond) (rm : Room) (E : rc_E) (av : List Value) (wc : va_W) (sz : Nat) {S : Type} (post : S → Prop) (w1 : S → va_W) (mc ms : Nat) : Prop := Met l y ws rm (rc_Pc E av wc sz) (va_Qv post (rc_B E (va_A wc sz) w1) (va_A wc sz)) mc ms (va_A wc sz)
abbrev rc_Xv (l : Launch) (y : MethodName) (ws : List Cond) (rm : Room) (E : rc_E) (av : List Value) (wc : va_W) (sz : Nat) {S : Type} (post : S → Prop) (w1 : S → va_W) (pe : String → Prop) (mc ms : Nat) : Prop := vx_Met l y ws rm (rc_Pc E av wc sz) (va_Qv post (rc_B E (va_A wc sz) w1) (va_A wc sz)) (rc_X pe (va_A wc sz)) mc ms (va_A wc sz)
abbrev rc_Mr (l : Launch) (y : MethodName) (ws : List Cond) (rm : Room) (E : rc_E) (av : List Value) (wc : va_W) (sz : Nat) {S : Type} (pr : S → Nat → Prop) (w1 : S → va_W) (mc ms : Nat) : Prop := Met l y ws rm (rc_Pc E av wc sz) (va_Qr (fun _ : S => True) (rc_Br E (va_A wc sz) pr w1) (va_A wc sz)) mc ms (va_A wc sz)
theorem rc_ini {l : Launch} {y : MethodName} {ws ws2 : List Cond} {rm : Room} {E : rc_E} {av : List Value} {wc : va_W} {sz : Nat} {mc ms : Nat} {cc : ByteArray} {maxL : Nat} {ret : Option FieldType} {S : Type} {post : Int32 → S → Prop} {w1 : S → va_W} (hy : plainName y.cls = true) (hw : ws = Cond.code y cc maxL ret :: ws2) (hav : (lg_sl av).length ≤ maxL) (body : ∀ (p : Program) (e : Env) (s : State) (m : MethodId) (args : Array Value) (below : List Frame) (meth : Method) (c : Code) (ls : Array Slot) (A : Nat → Prop), p.tables.exec = Jvm.exec → c.code = cc → meth.sig.returnType = ret → c.maxLocals = maxL → (∀ w ∈ ws, w.before args s = true) → s.vm.findClass y.cls = some m.cls → meth.locks = false → meth.name = y.name → (∀ q, s.heap.size ≤ q → A q) → rc_Amb E A s s.heap → rc_W E A s wc s.heap [] → lv_has ls maxL (lv_args 0 av) → W p l e rm s m args below meth c s.heap [] 0 0 (MQ below (va_Qi post (rc_B E A w1) A) args s mc ms A) (F0 m 0 ls [])) : rc_Mi l y ws rm E av wc sz post w1 mc ms := by
  refine Met.ofW (cc := cc) (maxL := maxL) (ret := ret) hy hw ?_
  intro p e s m args below meth c s₁ B hml hv
  obtain ⟨rfl, hsz, hP, hD0, hAm⟩ := hv
  have hts := atoms_spec (ws := ws) B.pre
  have hl := lv_entry av (n := maxL) hav
  rw [lg_entry_eq]
  generalize (lg_sl av ++ List.replicate (maxL - (lg_sl av).length) Slot.unset).toArray = ls at hl ⊢
  subst hsz
  exact body p e s m _ below meth c ls _ B.exec B.bytes B.returns hml hts (findClass_of_methodNamed B.named) B.notSynchronized (name_of_methodNamed B.named B.method).1 (fun _ h => Or.inr h) hAm ⟨hP, hD0.self, va_S.rf⟩ hl
theorem rc_xini {l : Launch} {y : MethodName} {ws ws2 : List Cond} {rm : Room} {E : rc_E} {av : List Value} {wc : va_W} {sz : Nat} {mc ms : Nat} {cc : ByteArray} {maxL : Nat} {ret : Option FieldType} {S : Type} {post : Int32 → S → Prop} {w1 : S → va_W} {pe : String → Prop} (hy : plainName y.cls = true) (hw : ws = Cond.code y cc maxL ret :: ws2) (hav : (lg_sl av).length ≤ maxL) (body : ∀ (p : Program) (e : Env) (s : State) (m : MethodId) (args : Array Value) (below : List Frame) (meth : Method) (c : Code) (ls : Array Slot) (A : Nat → Prop), (∀ x ∈ c.exceptionTable.toList, False) → p.tables.exec = Jvm.exec → c.code = cc → meth.sig.returnType = ret → c.maxLocals = maxL → (∀ w ∈ ws, w.before args s = true) → s.vm.findClass y.cls = some m.cls → meth.locks = false → meth.name = y.name → (∀ q, s.heap.size ≤ q → A q) → rc_Amb E A s s.heap → rc_W E A s wc s.heap [] → lv_has ls maxL (lv_args 0 av) → W p l e rm s m args below meth c s.heap [] 0 0 (vx_MQ below (va_Qi post (rc_B E A w1) A) (rc_X pe A) args s mc ms A) (F0 m 0 ls [])) : rc_Xi l y ws rm E av wc sz post w1 pe mc ms := by
  refine vx_ofW (cc := cc) (maxL := maxL) (ret := ret) hy hw ?_
  intro p e s m args below meth c s₁ B hml htab hv
  obtain ⟨rfl, hsz, hP, hD0, hAm⟩ := hv
  have hts := atoms_spec (ws := ws) B.pre
  have hl := lv_entry av (n := maxL) hav
  rw [lg_entry_eq]
  generalize (lg_sl av ++ List.replicate (maxL - (lg_sl av).length) Slot.unset).toArray = ls at hl ⊢
  subst hsz
  exact body p e s m _ below meth c ls _ htab B.exec B.bytes B.returns hml hts (findClass_of_methodNamed B.named) B.notSynchronized (name_of_methodNamed B.named B.method).1 (fun _ h => Or.inr h) hAm ⟨hP, hD0.self, va_S.rf⟩ hl
theorem rc_inl {l : Launch} {y : MethodName} {ws ws2 : List Cond} {rm : Room} {E : rc_E} {av : List Value} {wc : va_W} {sz : Nat} {mc ms : Nat} {cc : ByteArray} {maxL : Nat} {ret : Option FieldType} {S : Type} {post : Int64 → S → Prop} {w1 : S → va_W} (hy : plainName y.cls = true) (hw : ws = Cond.code y cc maxL ret :: ws2) (hav : (lg_sl av).length ≤ maxL) (body : ∀ (p : Program) (e : Env) (s : State) (m : MethodId) (args : Array Value) (below : List Frame) (meth : Method) (c : Code) (ls : Array Slot) (A : Nat → Prop), p.tables.exec = Jvm.exec → c.code = cc → meth.sig.returnType = ret → c.maxLocals = maxL → (∀ w ∈ ws, w.before args s = true) → s.vm.findClass y.cls = some m.cls → meth.locks = false → meth.name = y.name → (∀ q, s.heap.size ≤ q → A q) → rc_Amb E A s s.heap → rc_W E A s wc s.heap [] → lv_has ls maxL (lv_args 0 av) → W p l e rm s m args below meth c s.heap [] 0 0 (MQ below (va_Ql post (rc_B E A w1) A) args s mc ms A) (F0 m 0 ls [])) : rc_Ml l y ws rm E av wc sz post w1 mc ms := by
  refine Met.ofW (cc := cc) (maxL := maxL) (ret := ret) hy hw ?_
  intro p e s m args below meth c s₁ B hml hv
  obtain ⟨rfl, hsz, hP, hD0, hAm⟩ := hv
  have hts := atoms_spec (ws := ws) B.pre
  have hl := lv_entry av (n := maxL) hav
  rw [lg_entry_eq]
  generalize (lg_sl av ++ List.replicate (maxL - (lg_sl av).length) Slot.unset).toArray = ls at hl ⊢
  subst hsz
  exact body p e s m _ below meth c ls _ B.exec B.bytes B.returns hml hts (findClass_of_methodNamed B.named) B.notSynchronized (name_of_methodNamed B.named B.method).1 (fun _ h => Or.inr h) hAm ⟨hP, hD0.self, va_S.rf⟩ hl
theorem rc_xinl {l : Launch} {y : MethodName} {ws ws2 : List Cond} {rm : Room} {E : rc_E} {av : List Value} {wc : va_W} {sz : Nat} {mc ms : Nat} {cc : ByteArray} {maxL : Nat} {ret : Option FieldType} {S : Type} {post : Int64 → S → Prop} {w1 : S → va_W} {pe : String → Prop} (hy : plainName y.cls = true) (hw : ws = Cond.code y cc maxL ret :: ws2) (hav : (lg_sl av).length ≤ maxL) (body : ∀ (p : Program) (e : Env) (s : State) (m : MethodId) (args : Array Value) (below : List Frame) (meth : Method) (c : Code) (ls : Array Slot) (A : Nat → Prop), (∀ x ∈ c.exceptionTable.toList, False) → p.tables.exec = Jvm.exec → c.code = cc → meth.sig.returnType = ret → c.maxLocals = maxL → (∀ w ∈ ws, w.before args s = true) → s.vm.findClass y.cls = some m.cls → meth.locks = false → meth.name = y.name → (∀ q, s.heap.size ≤ q → A q) → rc_Amb E A s s.heap → rc_W E A s wc s.heap [] → lv_has ls maxL (lv_args 0 av) → W p l e rm s m args below meth c s.heap [] 0 0 (vx_MQ below (va_Ql post (rc_B E A w1) A) (rc_X pe A) args s mc ms A) (F0 m 0 ls [])) : rc_Xl l y ws rm E av wc sz post w1 pe mc ms := by
  refine vx_ofW (cc := cc) (maxL := maxL) (ret := ret) hy hw ?_
  intro p e s m args below meth c s₁ B hml htab hv
  obtain ⟨rfl, hsz, hP, hD0, hAm⟩ := hv
  have hts := atoms_spec (ws := ws) B.pre
  have hl := lv_entry av (n := maxL) hav
  rw [lg_entry_eq]
  generalize (lg_sl av ++ List.replicate (maxL - (lg_sl av).length) Slot.unset).toArray = ls at hl ⊢
  subst hsz
  exact body p e s m _ below meth c ls _ htab B.exec B.bytes B.returns hml hts (findClass_of_methodNamed B.named) B.notSynchronized (name_of_methodNamed B.named B.method).1 (fun _ h => Or.inr h) hAm ⟨hP, hD0.self, va_S.rf⟩ hl
theorem rc_ind {l : Launch} {y : MethodName} {ws ws2 : List Cond} {rm : Room} {E : rc_E} {av : List Value} {wc : va_W} {sz : Nat} {mc ms : Nat} {cc : ByteArray} {maxL : Nat} {ret : Option FieldType} {S : Type} {post : UInt64 → S → Prop} {w1 : S → va_W} (hy : plainName y.cls = true) (hw : ws = Cond.code y cc maxL ret :: ws2) (hav : (lg_sl av).length ≤ maxL) (body : ∀ (p : Program) (e : Env) (s : State) (m : MethodId) (args : Array Value) (below : List Frame) (meth : Method) (c : Code) (ls : Array Slot) (A : Nat → Prop), p.tables.exec = Jvm.exec → c.code = cc → meth.sig.returnType = ret → c.maxLocals = maxL → (∀ w ∈ ws, w.before args s = true) → s.vm.findClass y.cls = some m.cls → meth.locks = false → meth.name = y.name → (∀ q, s.heap.size ≤ q → A q) → rc_Amb E A s s.heap → rc_W E A s wc s.heap [] → lv_has ls maxL (lv_args 0 av) → W p l e rm s m args below meth c s.heap [] 0 0 (MQ below (va_Qd post (rc_B E A w1) A) args s mc ms A) (F0 m 0 ls [])) : rc_Md l y ws rm E av wc sz post w1 mc ms := by
  refine Met.ofW (cc := cc) (maxL := maxL) (ret := ret) hy hw ?_
  intro p e s m args below meth c s₁ B hml hv
  obtain ⟨rfl, hsz, hP, hD0, hAm⟩ := hv
  have hts := atoms_spec (ws := ws) B.pre
  have hl := lv_entry av (n := maxL) hav
  rw [lg_entry_eq]
  generalize (lg_sl av ++ List.replicate (maxL - (lg_sl av).length) Slot.unset).toArray = ls at hl ⊢
  subst hsz
  exact body p e s m _ below meth c ls _ B.exec B.bytes B.returns hml hts (findClass_of_methodNamed B.named) B.notSynchronized (name_of_methodNamed B.named B.method).1 (fun _ h => Or.inr h) hAm ⟨hP, hD0.self, va_S.rf⟩ hl
theorem rc_xind {l : Launch} {y : MethodName} {ws ws2 : List Cond} {rm : Room} {E : rc_E} {av : List Value} {wc : va_W} {sz : Nat} {mc ms : Nat} {cc : ByteArray} {maxL : Nat} {ret : Option FieldType} {S : Type} {post : UInt64 → S → Prop} {w1 : S → va_W} {pe : String → Prop} (hy : plainName y.cls = true) (hw : ws = Cond.code y cc maxL ret :: ws2) (hav : (lg_sl av).length ≤ maxL) (body : ∀ (p : Program) (e : Env) (s : State) (m : MethodId) (args : Array Value) (below : List Frame) (meth : Method) (c : Code) (ls : Array Slot) (A : Nat → Prop), (∀ x ∈ c.exceptionTable.toList, False) → p.tables.exec = Jvm.exec → c.code = cc → meth.sig.returnType = ret → c.maxLocals = maxL → (∀ w ∈ ws, w.before args s = true) → s.vm.findClass y.cls = some m.cls → meth.locks = false → meth.name = y.name → (∀ q, s.heap.size ≤ q → A q) → rc_Amb E A s s.heap → rc_W E A s wc s.heap [] → lv_has ls maxL (lv_args 0 av) → W p l e rm s m args below meth c s.heap [] 0 0 (vx_MQ below (va_Qd post (rc_B E A w1) A) (rc_X pe A) args s mc ms A) (F0 m 0 ls [])) : rc_Xd l y ws rm E av wc sz post w1 pe mc ms := by
  refine vx_ofW (cc := cc) (maxL := maxL) (ret := ret) hy hw ?_
  intro p e s m args below meth c s₁ B hml htab hv
  obtain ⟨rfl, hsz, hP, hD0, hAm⟩ := hv
  have hts := atoms_spec (ws := ws) B.pre
  have hl := lv_entry av (n := maxL) hav
  rw [lg_entry_eq]
  generalize (lg_sl av ++ List.replicate (maxL - (lg_sl av).length) Slot.unset).toArray = ls at hl ⊢
  subst hsz
  exact body p e s m _ below meth c ls _ htab B.exec B.bytes B.returns hml hts (findClass_of_methodNamed B.named) B.notSynchronized (name_of_methodNamed B.named B.method).1 (fun _ h => Or.inr h) hAm ⟨hP, hD0.self, va_S.rf⟩ hl
theorem rc_inv {l : Launch} {y : MethodName} {ws ws2 : List Cond} {rm : Room} {E : rc_E} {av : List Value} {wc : va_W} {sz : Nat} {mc ms : Nat} {cc : ByteArray} {maxL : Nat} {ret : Option FieldType} {S : Type} {post : S → Prop} {w1 : S → va_W} (hy : plainName y.cls = true) (hw : ws = Cond.code y cc maxL ret :: ws2) (hav : (lg_sl av).length ≤ maxL) (body : ∀ (p : Program) (e : Env) (s : State) (m : MethodId) (args : Array Value) (below : List Frame) (meth : Method) (c : Code) (ls : Array Slot) (A : Nat → Prop), p.tables.exec = Jvm.exec → c.code = cc → meth.sig.returnType = ret → c.maxLocals = maxL → (∀ w ∈ ws, w.before args s = true) → s.vm.findClass y.cls = some m.cls → meth.locks = false → meth.name = y.name → (∀ q, s.heap.size ≤ q → A q) → rc_Amb E A s s.heap → rc_W E A s wc s.heap [] → lv_has ls maxL (lv_args 0 av) → W p l e rm s m args below meth c s.heap [] 0 0 (MQ below (va_Qv post (rc_B E A w1) A) args s mc ms A) (F0 m 0 ls [])) : rc_Mv l y ws rm E av wc sz post w1 mc ms := by
  refine Met.ofW (cc := cc) (maxL := maxL) (ret := ret) hy hw ?_
  intro p e s m args below meth c s₁ B hml hv
  obtain ⟨rfl, hsz, hP, hD0, hAm⟩ := hv
  have hts := atoms_spec (ws := ws) B.pre
  have hl := lv_entry av (n := maxL) hav
  rw [lg_entry_eq]
  generalize (lg_sl av ++ List.replicate (maxL - (lg_sl av).length) Slot.unset).toArray = ls at hl ⊢
  subst hsz
  exact body p e s m _ below meth c ls _ B.exec B.bytes B.returns hml hts (findClass_of_methodNamed B.named) B.notSynchronized (name_of_methodNamed B.named B.method).1 (fun _ h => Or.inr h) hAm ⟨hP, hD0.self, va_S.rf⟩ hl
theorem rc_xinv {l : Launch} {y : MethodName} {ws ws2 : List Cond} {rm : Room} {E : rc_E} {av : List Value} {wc : va_W} {sz : Nat} {mc ms : Nat} {cc : ByteArray} {maxL : Nat} {ret : Option FieldType} {S : Type} {post : S → Prop} {w1 : S → va_W} {pe : String → Prop} (hy : plainName y.cls = true) (hw : ws = Cond.code y cc maxL ret :: ws2) (hav : (lg_sl av).length ≤ maxL) (body : ∀ (p : Program) (e : Env) (s : State) (m : MethodId) (args : Array Value) (below : List Frame) (meth : Method) (c : Code) (ls : Array Slot) (A : Nat → Prop), (∀ x ∈ c.exceptionTable.toList, False) → p.tables.exec = Jvm.exec → c.code = cc → meth.sig.returnType = ret → c.maxLocals = maxL → (∀ w ∈ ws, w.before args s = true) → s.vm.findClass y.cls = some m.cls → meth.locks = false → meth.name = y.name → (∀ q, s.heap.size ≤ q → A q) → rc_Amb E A s s.heap → rc_W E A s wc s.heap [] → lv_has ls maxL (lv_args 0 av) → W p l e rm s m args below meth c s.heap [] 0 0 (vx_MQ below (va_Qv post (rc_B E A w1) A) (rc_X pe A) args s mc ms A) (F0 m 0 ls [])) : rc_Xv l y ws rm E av wc sz post w1 pe mc ms := by
  refine vx_ofW (cc := cc) (maxL := maxL) (ret := ret) hy hw ?_
  intro p e s m args below meth c s₁ B hml htab hv
  obtain ⟨rfl, hsz, hP, hD0, hAm⟩ := hv
  have hts := atoms_spec (ws := ws) B.pre
  have hl := lv_entry av (n := maxL) hav
  rw [lg_entry_eq]
  generalize (lg_sl av ++ List.replicate (maxL - (lg_sl av).length) Slot.unset).toArray = ls at hl ⊢
  subst hsz
  exact body p e s m _ below meth c ls _ htab B.exec B.bytes B.returns hml hts (findClass_of_methodNamed B.named) B.notSynchronized (name_of_methodNamed B.named B.method).1 (fun _ h => Or.inr h) hAm ⟨hP, hD0.self, va_S.rf⟩ hl
theorem rc_inr {l : Launch} {y : MethodName} {ws ws2 : List Cond} {rm : Room} {E : rc_E} {av : List Value} {wc : va_W} {sz : Nat} {mc ms : Nat} {cc : ByteArray} {maxL : Nat} {ret : Option FieldType} {S : Type} {pr : S → Nat → Prop} {w1 : S → va_W} (hy : plainName y.cls = true) (hw : ws = Cond.code y cc maxL ret :: ws2) (hav : (lg_sl av).length ≤ maxL) (body : ∀ (p : Program) (e : Env) (s : State) (m : MethodId) (args : Array Value) (below : List Frame) (meth : Method) (c : Code) (ls : Array Slot) (A : Nat → Prop), p.tables.exec = Jvm.exec → c.code = cc → meth.sig.returnType = ret → c.maxLocals = maxL → (∀ w ∈ ws, w.before args s = true) → s.vm.findClass y.cls = some m.cls → meth.locks = false → meth.name = y.name → (∀ q, s.heap.size ≤ q → A q) → rc_Amb E A s s.heap → rc_W E A s wc s.heap [] → lv_has ls maxL (lv_args 0 av) → W p l e rm s m args below meth c s.heap [] 0 0 (MQ below (va_Qr (fun _ : S => True) (rc_Br E A pr w1) A) args s mc ms A) (F0 m 0 ls [])) : rc_Mr l y ws rm E av wc sz pr w1 mc ms := by
  refine Met.ofW (cc := cc) (maxL := maxL) (ret := ret) hy hw ?_
  intro p e s m args below meth c s₁ B hml hv
  obtain ⟨rfl, hsz, hP, hD0, hAm⟩ := hv
  have hts := atoms_spec (ws := ws) B.pre
  have hl := lv_entry av (n := maxL) hav
  rw [lg_entry_eq]
  generalize (lg_sl av ++ List.replicate (maxL - (lg_sl av).length) Slot.unset).toArray = ls at hl ⊢
  subst hsz
  exact body p e s m _ below meth c ls _ B.exec B.bytes B.returns hml hts (findClass_of_methodNamed B.named) B.notSynchronized (name_of_methodNamed B.named B.method).1 (fun _ h => Or.inr h) hAm ⟨hP, hD0.self, va_S.rf⟩ hl
section RCB
variable {p : Program} {l : Launch} {e : Env} {R : Room} {s : State} {m : MethodId} {args : Array Value} {below : List Frame} {meth : Method} {c : Code} {H : Heap} {locs : List Loc} {cells slots : Nat} {Q : State → Prop}
variable {cc : ByteArray} {pc : Nat} {ls : Array Slot} {rest st0 : List Value} {E : rc_E} {A : Nat → Prop} {ws wc wr : va_W} {mc ms : Nat} {a : Array Value}
theorem rc_end {S : Type} {w1 : S → va_W} {u : S} {t : State} (ht : t.heap = H) (hw : rc_W E A s ws H locs) (isE : List Nat) (hE : isE.map (fun i => ws[i]?) = (w1 u).map some) (hn : va_nd isE = true) : rc_B E A w1 u t := ⟨by rw [ht]; exact rc_sub hw.1 isE hE, hw.2.1.sub isE hn hE⟩
theorem rc_iret (hx : p.tables.exec = Jvm.exec) (hb : c.code = cc) (hr : meth.sig.returnType = some .int) (hlocks : meth.locks = false) (hw : rc_W E A s ws H locs) {v : Int32} {S : Type} {post : Int32 → S → Prop} {w1 : S → va_W} (u : S) (hp : post v u) (isE : List Nat) (hE : isE.map (fun i => ws[i]?) = (w1 u).map some) (hn : va_nd isE = true) (hc : cells ≤ mc) (hs : slots ≤ ms) (d : decode cc pc = .ok (.ireturn, 1)) : W p l e R s m args below meth c H locs cells slots (MQ below (va_Qi post (rc_B E A w1) A) args s mc ms A) (F0 m pc ls [.int v]) := by
  refine W.widen (k := mc) (n := ms) hc hs ?_
  exact W.iret (v := v) hx hb hr (fun t ht hW => ⟨⟨v, u, rfl, hp, rc_end ht hw isE hE hn⟩, hw.2.2.F ht⟩) hw.2.2.2.2 d hlocks
theorem rc_lret (hx : p.tables.exec = Jvm.exec) (hb : c.code = cc) (hr : meth.sig.returnType = some .long) (hlocks : meth.locks = false) (hw : rc_W E A s ws H locs) {v : Int64} {S : Type} {post : Int64 → S → Prop} {w1 : S → va_W} (u : S) (hp : post v u) (isE : List Nat) (hE : isE.map (fun i => ws[i]?) = (w1 u).map some) (hn : va_nd isE = true) (hc : cells ≤ mc) (hs : slots ≤ ms) (d : decode cc pc = .ok (.lreturn, 1)) : W p l e R s m args below meth c H locs cells slots (MQ below (va_Ql post (rc_B E A w1) A) args s mc ms A) (F0 m pc ls [.long v]) := by
  refine W.widen (k := mc) (n := ms) hc hs ?_
  exact W.lret (v := v) hx hb hr (fun t ht hW => ⟨⟨v, u, rfl, hp, rc_end ht hw isE hE hn⟩, hw.2.2.F ht⟩) hw.2.2.2.2 d hlocks
theorem rc_dret (hx : p.tables.exec = Jvm.exec) (hb : c.code = cc) (hr : meth.sig.returnType = some .double) (hlocks : meth.locks = false) (hw : rc_W E A s ws H locs) {v : UInt64} {S : Type} {post : UInt64 → S → Prop} {w1 : S → va_W} (u : S) (hp : post v u) (isE : List Nat) (hE : isE.map (fun i => ws[i]?) = (w1 u).map some) (hn : va_nd isE = true) (hc : cells ≤ mc) (hs : slots ≤ ms) (d : decode cc pc = .ok (.dreturn, 1)) : W p l e R s m args below meth c H locs cells slots (MQ below (va_Qd post (rc_B E A w1) A) args s mc ms A) (F0 m pc ls [.double v]) := by
  refine W.widen (k := mc) (n := ms) hc hs ?_
  exact W.dret (v := v) hx hb hr (fun t ht hW => ⟨⟨v, u, rfl, hp, rc_end ht hw isE hE hn⟩, hw.2.2.F ht⟩) hw.2.2.2.2 d hlocks
theorem rc_vret (hx : p.tables.exec = Jvm.exec) (hb : c.code = cc) (hr : meth.sig.returnType = none) (hlocks : meth.locks = false) (hw : rc_W E A s ws H locs) {S : Type} {post : S → Prop} {w1 : S → va_W} (u : S) (hp : post u) (isE : List Nat) (hE : isE.map (fun i => ws[i]?) = (w1 u).map some) (hn : va_nd isE = true) (hc : cells ≤ mc) (hs : slots ≤ ms) (d : decode cc pc = .ok (.return_, 1)) : W p l e R s m args below meth c H locs cells slots (MQ below (va_Qv post (rc_B E A w1) A) args s mc ms A) (F0 m pc ls []) := by
  refine W.widen (k := mc) (n := ms) hc hs ?_
  exact W.vret hx hb hr (fun t ht hW => ⟨⟨u, rfl, hp, rc_end ht hw isE hE hn⟩, hw.2.2.F ht⟩) hw.2.2.2.2 d hlocks
theorem rc_aret (hx : p.tables.exec = Jvm.exec) (hb : c.code = cc) {rt : FieldType} (hr : meth.sig.returnType = some rt) (hrt : (∃ n, rt = .object n) ∨ ∃ t, rt = .array t) (hlocks : meth.locks = false) (hw : rc_W E A s ws H locs) {v : Nat} {S : Type} {pr : S → Nat → Prop} {w1 : S → va_W} (u : S) (hp : pr u v) (isE : List Nat) (hE : isE.map (fun i => ws[i]?) = (w1 u).map some) (hn : va_nd isE = true) (hc : cells ≤ mc) (hs : slots ≤ ms) (d : decode cc pc = .ok (.areturn, 1)) : W p l e R s m args below meth c H locs cells slots (MQ below (va_Qr (fun _ : S => True) (rc_Br E A pr w1) A) args s mc ms A) (F0 m pc ls [.ref v]) := by
  refine W.widen (k := mc) (n := ms) hc hs ?_
  exact W.aret (v := .ref v) hx hb hr hrt (Or.inr ⟨v, rfl⟩) (fun t ht hW => ⟨⟨u, v, rfl, trivial, hp, rc_end ht hw isE hE hn⟩, hw.2.2.F ht⟩) hw.2.2.2.2 d hlocks
theorem rc_zret (hx : p.tables.exec = Jvm.exec) (hb : c.code = cc) {rt : FieldType} (hr : meth.sig.returnType = some rt) (hlocks : meth.locks = false) (hw : rc_W E A s ws H locs) {v : Int32} (hz : narrow rt (.int v) = .int v) {S : Type} {post : Int32 → S → Prop} {w1 : S → va_W} (u : S) (hp : post v u) (isE : List Nat) (hE : isE.map (fun i => ws[i]?) = (w1 u).map some) (hn : va_nd isE = true) (hc : cells ≤ mc) (hs : slots ≤ ms) (d : decode cc pc = .ok (.ireturn, 1)) : W p l e R s m args below meth c H locs cells slots (MQ below (va_Qi post (rc_B E A w1) A) args s mc ms A) (F0 m pc ls [.int v]) := by
  refine W.widen (k := mc) (n := ms) hc hs ?_
  exact W.zret (v := v) hx hb hr hz (fun t ht hW => ⟨⟨v, u, rfl, hp, rc_end ht hw isE hE hn⟩, hw.2.2.F ht⟩) hw.2.2.2.2 d hlocks
theorem rc_preS {s : State} {H : Heap} {locs : List Loc} (hAm : rc_Amb E A s s.heap) (hA : ∀ q, s.heap.size ≤ q → A q) (hw : rc_W E A s ws H locs) {As : List Value} (isC : List Nat) (hC : isC.map (fun i => ws[i]?) = wc.map some) (hn : va_nd isC = true) : PreS s H (rc_Pc E As wc H.size) As := by
  refine ⟨rc_blind, fun U hU hW => ⟨rfl, by rw [hU], by rw [hU]; exact rc_sub hw.1 isC hC, (hw.2.1.sub isC hn hC).weaken (fun _ _ _ _ => trivial), ?_⟩⟩
  exact hAm.at hw.2.2 (va_free (wc := wc) hw.2.1 hw.2.2 hA isC hC) hU hW
theorem rc_preV {s : State} {H : Heap} {locs : List Loc} (hAm : rc_Amb E A s s.heap) (hA : ∀ q, s.heap.size ≤ q → A q) (hw : rc_W E A s ws H locs) {As : List Value} {b : Nat} (isC : List Nat) (hC : isC.map (fun i => ws[i]?) = wc.map some) (hn : va_nd isC = true) (kb : Nat) {ci : Nat} {fs : List Value} (hbk : ws[kb]? = some (b, .inr (ci, fs))) {q : vw_C} (hci : vwCl[ci]? = some q) : PreV s H q.1 b (rc_Pc E (.ref b :: As) wc H.size) As := by
  obtain ⟨h1, h2⟩ := rc_preS (As := .ref b :: As) hAm hA hw isC hC hn
  exact ⟨h1, va_recv hAm.K hw.1 hci hbk, h2⟩
theorem rc_calli {S : Type} {post : Int32 → S → Prop} {w1 : S → va_W} (hr : va_Run p l e R s m args below meth c H locs cells slots mc ms (F0 m pc ls st0) rest (va_Qi post (rc_B E (va_A wc H.size) w1) (va_A wc H.size) a) (va_A wc H.size)) (hA : ∀ q, s.heap.size ≤ q → A q) (hw : rc_W E A s ws H locs) (isC isR : List Nat) (hC : isC.map (fun i => ws[i]?) = wc.map some) (hR : isR.map (fun i => ws[i]?) = wr.map some) (hn : va_nd isR = true) (hdis : ∀ i ∈ isR, i ∉ isC)
    (kk : ∀ (r : Int32) (u : S) (H1 : Heap) (locs1 : List Loc), post r u → rc_W E A s (wr ++ w1 u) H1 locs1 → W p l e R s m args below meth c H1 locs1 (cells + mc) (slots + ms) Q (F0 m (pc + 3) ls (.int r :: rest))) : W p l e R s m args below meth c H locs cells slots Q (F0 m pc ls st0) := by
  have hFc := va_free (wc := wc) hw.2.1 hw.2.2 hA isC hC
  refine va_calli hr hw.2.2 (fun q _ h => hFc q h) hFc (fun r u t H1 locs1 ht hvm hp hB hz1 hk1 hS => ?_)
  obtain ⟨hP1, hD1⟩ := hB
  rw [ht] at hP1
  obtain ⟨hP, hD⟩ := va_join (wr := wr) (w1 := w1 u) hw.1 hw.2.1 isC isR hC hR hn hdis hk1 hFc hP1 hD1
  exact kk r u H1 locs1 hp ⟨hP, hD, hS⟩
theorem rc_calll {S : Type} {post : Int64 → S → Prop} {w1 : S → va_W} (hr : va_Run p l e R s m args below meth c H locs cells slots mc ms (F0 m pc ls st0) rest (va_Ql post (rc_B E (va_A wc H.size) w1) (va_A wc H.size) a) (va_A wc H.size)) (hA : ∀ q, s.heap.size ≤ q → A q) (hw : rc_W E A s ws H locs) (isC isR : List Nat) (hC : isC.map (fun i => ws[i]?) = wc.map some) (hR : isR.map (fun i => ws[i]?) = wr.map some) (hn : va_nd isR = true) (hdis : ∀ i ∈ isR, i ∉ isC)
    (kk : ∀ (r : Int64) (u : S) (H1 : Heap) (locs1 : List Loc), post r u → rc_W E A s (wr ++ w1 u) H1 locs1 → W p l e R s m args below meth c H1 locs1 (cells + mc) (slots + ms) Q (F0 m (pc + 3) ls (.long r :: rest))) : W p l e R s m args below meth c H locs cells slots Q (F0 m pc ls st0) := by
  have hFc := va_free (wc := wc) hw.2.1 hw.2.2 hA isC hC
  refine va_calll hr hw.2.2 (fun q _ h => hFc q h) hFc (fun r u t H1 locs1 ht hvm hp hB hz1 hk1 hS => ?_)
  obtain ⟨hP1, hD1⟩ := hB
  rw [ht] at hP1
  obtain ⟨hP, hD⟩ := va_join (wr := wr) (w1 := w1 u) hw.1 hw.2.1 isC isR hC hR hn hdis hk1 hFc hP1 hD1
  exact kk r u H1 locs1 hp ⟨hP, hD, hS⟩
theorem rc_calld {S : Type} {post : UInt64 → S → Prop} {w1 : S → va_W} (hr : va_Run p l e R s m args below meth c H locs cells slots mc ms (F0 m pc ls st0) rest (va_Qd post (rc_B E (va_A wc H.size) w1) (va_A wc H.size) a) (va_A wc H.size)) (hA : ∀ q, s.heap.size ≤ q → A q) (hw : rc_W E A s ws H locs) (isC isR : List Nat) (hC : isC.map (fun i => ws[i]?) = wc.map some) (hR : isR.map (fun i => ws[i]?) = wr.map some) (hn : va_nd isR = true) (hdis : ∀ i ∈ isR, i ∉ isC)
    (kk : ∀ (r : UInt64) (u : S) (H1 : Heap) (locs1 : List Loc), post r u → rc_W E A s (wr ++ w1 u) H1 locs1 → W p l e R s m args below meth c H1 locs1 (cells + mc) (slots + ms) Q (F0 m (pc + 3) ls (.double r :: rest))) : W p l e R s m args below meth c H locs cells slots Q (F0 m pc ls st0) := by
  have hFc := va_free (wc := wc) hw.2.1 hw.2.2 hA isC hC
  refine va_calld hr hw.2.2 (fun q _ h => hFc q h) hFc (fun r u t H1 locs1 ht hvm hp hB hz1 hk1 hS => ?_)
  obtain ⟨hP1, hD1⟩ := hB
  rw [ht] at hP1
  obtain ⟨hP, hD⟩ := va_join (wr := wr) (w1 := w1 u) hw.1 hw.2.1 isC isR hC hR hn hdis hk1 hFc hP1 hD1
  exact kk r u H1 locs1 hp ⟨hP, hD, hS⟩
theorem rc_callv {S : Type} {post : S → Prop} {w1 : S → va_W} (hr : va_Run p l e R s m args below meth c H locs cells slots mc ms (F0 m pc ls st0) rest (va_Qv post (rc_B E (va_A wc H.size) w1) (va_A wc H.size) a) (va_A wc H.size)) (hA : ∀ q, s.heap.size ≤ q → A q) (hw : rc_W E A s ws H locs) (isC isR : List Nat) (hC : isC.map (fun i => ws[i]?) = wc.map some) (hR : isR.map (fun i => ws[i]?) = wr.map some) (hn : va_nd isR = true) (hdis : ∀ i ∈ isR, i ∉ isC)
    (kk : ∀ (u : S) (H1 : Heap) (locs1 : List Loc), post u → rc_W E A s (wr ++ w1 u) H1 locs1 → W p l e R s m args below meth c H1 locs1 (cells + mc) (slots + ms) Q (F0 m (pc + 3) ls rest)) : W p l e R s m args below meth c H locs cells slots Q (F0 m pc ls st0) := by
  have hFc := va_free (wc := wc) hw.2.1 hw.2.2 hA isC hC
  refine va_callv hr hw.2.2 (fun q _ h => hFc q h) hFc (fun u t H1 locs1 ht hvm hp hB hz1 hk1 hS => ?_)
  obtain ⟨hP1, hD1⟩ := hB
  rw [ht] at hP1
  obtain ⟨hP, hD⟩ := va_join (wr := wr) (w1 := w1 u) hw.1 hw.2.1 isC isR hC hR hn hdis hk1 hFc hP1 hD1
  exact kk u H1 locs1 hp ⟨hP, hD, hS⟩
theorem rc_callr {S : Type} {pr : S → Nat → Prop} {w1 : S → va_W} (hr : va_Run p l e R s m args below meth c H locs cells slots mc ms (F0 m pc ls st0) rest (va_Qr (fun _ : S => True) (rc_Br E (va_A wc H.size) pr w1) (va_A wc H.size) a) (va_A wc H.size)) (hA : ∀ q, s.heap.size ≤ q → A q) (hw : rc_W E A s ws H locs) (isC isR : List Nat) (hC : isC.map (fun i => ws[i]?) = wc.map some) (hR : isR.map (fun i => ws[i]?) = wr.map some) (hn : va_nd isR = true) (hdis : ∀ i ∈ isR, i ∉ isC)
    (kk : ∀ (u : S) (ra : Nat) (H1 : Heap) (locs1 : List Loc), pr u ra → rc_W E A s (wr ++ w1 u) H1 locs1 → W p l e R s m args below meth c H1 locs1 (cells + mc) (slots + ms) Q (F0 m (pc + 3) ls (.ref ra :: rest))) : W p l e R s m args below meth c H locs cells slots Q (F0 m pc ls st0) := by
  have hFc := va_free (wc := wc) hw.2.1 hw.2.2 hA isC hC
  refine va_callr hr hw.2.2 (fun q _ h => hFc q h) hFc (fun u ra t H1 locs1 ht hvm hp hB hz1 hk1 hS => ?_)
  obtain ⟨hpr, hP1, hD1⟩ := hB
  rw [ht] at hP1
  obtain ⟨hP, hD⟩ := va_join (wr := wr) (w1 := w1 u) hw.1 hw.2.1 isC isR hC hR hn hdis hk1 hFc hP1 hD1
  exact kk u ra H1 locs1 hpr ⟨hP, hD, hS⟩
theorem rc_topi {x : Int32} (v : Int32) (h : x = v) (k : W p l e R s m args below meth c H locs cells slots Q (F0 m pc ls (.int v :: rest))) : W p l e R s m args below meth c H locs cells slots Q (F0 m pc ls (.int x :: rest)) := by subst h; exact k
theorem rc_topl {x : Int64} (v : Int64) (h : x = v) (k : W p l e R s m args below meth c H locs cells slots Q (F0 m pc ls (.long v :: rest))) : W p l e R s m args below meth c H locs cells slots Q (F0 m pc ls (.long x :: rest)) := by subst h; exact k
theorem rc_topd {x : UInt64} (v : UInt64) (h : x = v) (k : W p l e R s m args below meth c H locs cells slots Q (F0 m pc ls (.double v :: rest))) : W p l e R s m args below meth c H locs cells slots Q (F0 m pc ls (.double x :: rest)) := by subst h; exact k
theorem rc_topv {x : Value} (v : Value) (h : x = v) (k : W p l e R s m args below meth c H locs cells slots Q (F0 m pc ls (v :: rest))) : W p l e R s m args below meth c H locs cells slots Q (F0 m pc ls (x :: rest)) := by subst h; exact k
end RCB
def rc_Lay (C : String) (T : u_T) (N : Nat) : Prop := ∀ w : Cond, w ∈ u_ws C T N → w ∈ lw_tbl ∧ rc_st w = true ∧ w.onTables = true
theorem rc_Amb.lay {E : rc_E} {A : Nat → Prop} {U : State} {H : Heap} (h : rc_Amb E A U H) {C : String} {T : u_T} {N : Nat} (hl : rc_Lay C T N) {a : Array Value} : ∀ w ∈ u_ws C T N, w.before a U = true := fun w hw => h.wd (hl w hw).1 (hl w hw).2.1 (hl w hw).2.2
theorem rc_cyI {D : va_G} {cl : List vw_C} {t1 : List (ClassId × FieldType)} {cA cB : ClassId} {ty : FieldType} {s : State} (hK : va_K D cl (t1 ++ [(cA, ty)]) s) (k : Nat) (hk : t1[k]? = some (cB, ty)) : cA = cB := by
  have h1 := (hK.2 t1.length (cA, ty) (by simp)).2
  have h2 := (hK.2 k (cB, ty) (by rw [List.getElem?_append_left (List.getElem?_eq_some_iff.mp hk).1]; exact hk)).2
  cases ty with
  | object C => exact Option.some.inj ((va_nmO h1 rfl).symm.trans (va_nmO h2 rfl))
  | _ => exact Option.some.inj (h1.symm.trans h2)
section RCL
variable {p : Program} {l : Launch} {e : Env} {R : Room} {s : State} {m : MethodId} {args : Array Value} {below : List Frame} {meth : Method} {c : Code} {H : Heap} {locs : List Loc} {cells slots : Nat} {Q : State → Prop}
variable {cc : ByteArray} {pc : Nat} {ls : Array Slot} {rest st0 : List Value} {E : rc_E} {A : Nat → Prop} {ws wc wr : va_W} {mc ms : Nat} {own ref host C : String} {T : u_T} {N ci index a : Nat}
theorem rc_get (hx : p.tables.exec = Jvm.exec) (hb : c.code = cc) (hown : s.vm.findClass own = some m.cls) (hAm : rc_Amb E A s s.heap) (hw : rc_W E A s ws H locs) (hlay : rc_Lay C T N) (q0 : Nat) {fs : List Value} (he : ws[q0]? = some (a, .inr (ci, fs))) (hc : vwCl[ci]? = some (C, T, N)) (k : Nat) (hk : k < N) (hlink : Cond.fieldLink own index ref (T k).2.1 (T k).2.2.1 ∈ lw_tbl) (hsame : ∀ x, s.fieldFound? (T k).1 (T k).2.1 (T k).2.2.1 = some x → s.fieldFound? ref (T k).2.1 (T k).2.2.1 = some x) {v : Value} (hv : fs[k]? = some v) (hdg : decode cc pc = .ok (.getfield index, 3))
    (kk : W p l e R s m args below meth c H locs cells slots Q (F0 m (pc + 3) ls (v :: rest))) : W p l e R s m args below meth c H locs cells slots Q (F0 m pc ls (.ref a :: rest)) :=
  va_get hx hb (hAm.lay hlay) (fun _ h => h) hown hAm.K hw.1 q0 he hc k hk (hAm.wd hlink rfl rfl) hsame hv hdg kk
theorem rc_getN (hx : p.tables.exec = Jvm.exec) (hb : c.code = cc) (hown : s.vm.findClass own = some m.cls) (hAm : rc_Amb E A s s.heap) (hw : rc_W E A s ws H locs) (hlay : rc_Lay C T N) (q0 : Nat) {fs : List Value} (he : ws[q0]? = some (a, .inr (ci, fs))) (hc : vwCl[ci]? = some (C, T, N)) (k : Nat) (hk : k < N) (hlink : Cond.fieldLinkNest own index ref (T k).2.1 (T k).2.2.1 host ∈ lw_tbl) (hsame : ∀ x, s.fieldFound? (T k).1 (T k).2.1 (T k).2.2.1 = some x → s.fieldFound? ref (T k).2.1 (T k).2.2.1 = some x) {v : Value} (hv : fs[k]? = some v) (hdg : decode cc pc = .ok (.getfield index, 3))
    (kk : W p l e R s m args below meth c H locs cells slots Q (F0 m (pc + 3) ls (v :: rest))) : W p l e R s m args below meth c H locs cells slots Q (F0 m pc ls (.ref a :: rest)) :=
  va_getN hx hb (hAm.lay hlay) (fun _ h => h) hown hAm.K hw.1 q0 he hc k hk (hAm.wd hlink rfl rfl) hsame hv hdg kk
theorem rc_put (hx : p.tables.exec = Jvm.exec) (hb : c.code = cc) (hown : s.vm.findClass own = some m.cls) (hAm : rc_Amb E A s s.heap) (hw : rc_W E A s ws H locs) (hlay : rc_Lay C T N) (ty0 : Nat → FieldType) (hty : ∀ k, k < N → parseFieldDescriptor (T k).2.2.1 = some (ty0 k)) (hnm : ∀ a, a < N → ∀ b, b < N → a ≠ b → (T a).2.1 ≠ (T b).2.1) (q0 : Nat) {fs : List Value} (he : ws[q0]? = some (a, .inr (ci, fs))) (hc : vwCl[ci]? = some (C, T, N)) (k : Nat) (hk : k < N) (hlink : Cond.fieldLink own index ref (T k).2.1 (T k).2.2.1 ∈ lw_tbl) (hsame : ∀ x, s.fieldFound? (T k).1 (T k).2.1 (T k).2.2.1 = some x → s.fieldFound? ref (T k).2.1 (T k).2.2.1 = some x) (hfin : (T k).2.2.2 = false) {v : Value} (hn : narrow (ty0 k) v = v) (hfit : fits (ty0 k) v = true) (hl : k < fs.length) (ws2 : va_W) (h2 : ws.set q0 (a, .inr (ci, fs.set k v)) = ws2) (hdg : decode cc pc = .ok (.putfield index, 3))
    (kk : ∀ (H1 : Heap) (locs1 : List Loc), rc_W E A s ws2 H1 locs1 → W p l e R s m args below meth c H1 locs1 cells slots Q (F0 m (pc + 3) ls rest)) : W p l e R s m args below meth c H locs cells slots Q (F0 m pc ls (v :: .ref a :: rest)) := by
  subst h2
  exact va_put hx hb (hAm.lay hlay) (fun _ h => h) ty0 hty hnm hown hAm.K hw.1 hw.2.1 hw.2.2 q0 he hc k hk (hAm.wd hlink rfl rfl) hsame hfin (hty k hk) hn hfit hl hdg (fun H1 locs1 h3 h4 h5 => kk H1 locs1 ⟨h3, h4, h5⟩)
theorem rc_putN (hx : p.tables.exec = Jvm.exec) (hb : c.code = cc) (hown : s.vm.findClass own = some m.cls) (hAm : rc_Amb E A s s.heap) (hw : rc_W E A s ws H locs) (hlay : rc_Lay C T N) (ty0 : Nat → FieldType) (hty : ∀ k, k < N → parseFieldDescriptor (T k).2.2.1 = some (ty0 k)) (hnm : ∀ a, a < N → ∀ b, b < N → a ≠ b → (T a).2.1 ≠ (T b).2.1) (q0 : Nat) {fs : List Value} (he : ws[q0]? = some (a, .inr (ci, fs))) (hc : vwCl[ci]? = some (C, T, N)) (k : Nat) (hk : k < N) (hlink : Cond.fieldLinkNest own index ref (T k).2.1 (T k).2.2.1 host ∈ lw_tbl) (hsame : ∀ x, s.fieldFound? (T k).1 (T k).2.1 (T k).2.2.1 = some x → s.fieldFound? ref (T k).2.1 (T k).2.2.1 = some x) (hfin : (T k).2.2.2 = false) {v : Value} (hn : narrow (ty0 k) v = v) (hfit : fits (ty0 k) v = true) (hl : k < fs.length) (ws2 : va_W) (h2 : ws.set q0 (a, .inr (ci, fs.set k v)) = ws2) (hdg : decode cc pc = .ok (.putfield index, 3))
    (kk : ∀ (H1 : Heap) (locs1 : List Loc), rc_W E A s ws2 H1 locs1 → W p l e R s m args below meth c H1 locs1 cells slots Q (F0 m (pc + 3) ls rest)) : W p l e R s m args below meth c H locs cells slots Q (F0 m pc ls (v :: .ref a :: rest)) := by
  subst h2
  exact va_putN hx hb (hAm.lay hlay) (fun _ h => h) ty0 hty hnm hown hAm.K hw.1 hw.2.1 hw.2.2 q0 he hc k hk (hAm.wd hlink rfl rfl) hsame hfin (hty k hk) hn hfit hl hdg (fun H1 locs1 h3 h4 h5 => kk H1 locs1 ⟨h3, h4, h5⟩)
theorem rc_putF (hx : p.tables.exec = Jvm.exec) (hb : c.code = cc) (hown : s.vm.findClass own = some m.cls) (hAm : rc_Amb E A s s.heap) (hw : rc_W E A s ws H locs) (hlay : rc_Lay C T N) (ty0 : Nat → FieldType) (hty : ∀ k, k < N → parseFieldDescriptor (T k).2.2.1 = some (ty0 k)) (hnm : ∀ a, a < N → ∀ b, b < N → a ≠ b → (T a).2.1 ≠ (T b).2.1) (q0 : Nat) {fs : List Value} (he : ws[q0]? = some (a, .inr (ci, fs))) (hc : vwCl[ci]? = some (C, T, N)) (k : Nat) (hk : k < N) (hlink : Cond.fieldLink own index ref (T k).2.1 (T k).2.2.1 ∈ lw_tbl) (hsame : ∀ x, s.fieldFound? (T k).1 (T k).2.1 (T k).2.2.1 = some x → s.fieldFound? ref (T k).2.1 (T k).2.2.1 = some x) (hfin : (T k).2.2.2 = true) (hin2 : meth.name = "<init>") (hdecl : (T k).1 = own) {v : Value} (hn : narrow (ty0 k) v = v) (hfit : fits (ty0 k) v = true) (hl : k < fs.length) (ws2 : va_W) (h2 : ws.set q0 (a, .inr (ci, fs.set k v)) = ws2) (hdg : decode cc pc = .ok (.putfield index, 3))
    (kk : ∀ (H1 : Heap) (locs1 : List Loc), rc_W E A s ws2 H1 locs1 → W p l e R s m args below meth c H1 locs1 cells slots Q (F0 m (pc + 3) ls rest)) : W p l e R s m args below meth c H locs cells slots Q (F0 m pc ls (v :: .ref a :: rest)) := by
  subst h2
  exact va_putF hx hb (hAm.lay hlay) (fun _ h => h) ty0 hty hnm hown hAm.K hw.1 hw.2.1 hw.2.2 q0 he hc k hk (hAm.wd hlink rfl rfl) hsame hfin hin2 hdecl (hty k hk) hn hfit hl hdg (fun H1 locs1 h3 h4 h5 => kk H1 locs1 ⟨h3, h4, h5⟩)
theorem rc_iald (hx : p.tables.exec = Jvm.exec) (hb : c.code = cc) (hAm : rc_Amb E A s s.heap) (hw : rc_W E A s ws H locs) (q0 : Nat) {n : Nat} {f : Nat → Int32} (ha : ws[q0]? = some (a, .inl (E.2.1 0, n, .inl f))) {i : Int32} (hin : vp_in i n) (hdg : decode cc pc = .ok (.iaload, 1))
    (kk : W p l e R s m args below meth c H locs cells slots Q (F0 m (pc + 1) ls (.int (f i.toNatClampNeg) :: rest))) : W p l e R s m args below meth c H locs cells slots Q (F0 m pc ls (.int i :: .ref a :: rest)) :=
  va_iald hx hb hAm.K hw.1 q0 0 ha rfl hin hdg kk
theorem rc_iast (hx : p.tables.exec = Jvm.exec) (hb : c.code = cc) (hAm : rc_Amb E A s s.heap) (hw : rc_W E A s ws H locs) (q0 : Nat) {n : Nat} {f : Nat → Int32} (ha : ws[q0]? = some (a, .inl (E.2.1 0, n, .inl f))) {i : Int32} {x : Int32} (hin : vp_in i n) (ws2 : va_W) (h2 : ws.set q0 (a, .inl (E.2.1 0, n, .inl (upd f i.toNatClampNeg x))) = ws2) (hdg : decode cc pc = .ok (.iastore, 1))
    (kk : ∀ (H1 : Heap) (locs1 : List Loc), rc_W E A s ws2 H1 locs1 → W p l e R s m args below meth c H1 locs1 cells slots Q (F0 m (pc + 1) ls rest)) : W p l e R s m args below meth c H locs cells slots Q (F0 m pc ls (.int x :: .int i :: .ref a :: rest)) := by
  subst h2
  exact va_iast hx hb hAm.K hw.1 hw.2.1 hw.2.2 q0 0 ha rfl hin hdg (fun H1 locs1 h3 h4 h5 => kk H1 locs1 ⟨h3, h4, h5⟩)
theorem rc_inew (hx : p.tables.exec = Jvm.exec) (hb : c.code = cc) (hAm : rc_Amb E A s s.heap) (hA : ∀ q, s.heap.size ≤ q → A q) (hw : rc_W E A s ws H locs) (hy : Cond.arrayClass .int ∈ lw_tbl) {n : Int32} (N1 : Nat) (hn : ¬ n < 0) (hN : n.toNatClampNeg = N1) (hbytes : N1 * componentBytes .int ≤ 536870912) (hcells : cells + 1 ≤ R.cells) (hslots : slots + N1 ≤ R.slots) (hdg : decode cc pc = .ok (.newarray .int, 2))
    (kk : ∀ (q : Nat) (H1 : Heap), rc_W E A s (ws ++ [(q, .inl (E.2.1 0, N1, .inl (fun _ => 0)))]) H1 locs → W p l e R s m args below meth c H1 locs (cells + 1) (slots + N1) Q (F0 m (pc + 2) ls (.ref q :: rest))) : W p l e R s m args below meth c H locs cells slots Q (F0 m pc ls (.int n :: rest)) := by
  refine va_newa (atype := .int) (ty := .int) (a0 := (N1, .inl (fun _ => 0))) hx hb (word_at (State.WarmedH.refl s) (Or.inr ⟨_, rfl⟩) (hAm.nw hy rfl)) rfl hAm.K hw.1 hw.2.1 hw.2.2 hA (fun _ => rfl) hn hN hbytes hcells hslots hdg (fun q cA H1 hK hP hD hS => ?_)
  obtain rfl := rc_cyI hK 0 rfl
  exact kk q H1 ⟨hP, hD, hS⟩
theorem rc_qald (hx : p.tables.exec = Jvm.exec) (hb : c.code = cc) (hAm : rc_Amb E A s s.heap) (hw : rc_W E A s ws H locs) (q0 : Nat) {n : Nat} {f : Nat → Option Nat} (ha : ws[q0]? = some (a, .inl (E.2.1 2, n, .inr (.inr (.inr (.inr f)))))) {i : Int32} (hin : vp_in i n) (hdg : decode cc pc = .ok (.aaload, 1))
    (kk : W p l e R s m args below meth c H locs cells slots Q (F0 m (pc + 1) ls (va_rf (f i.toNatClampNeg) :: rest))) : W p l e R s m args below meth c H locs cells slots Q (F0 m pc ls (.int i :: .ref a :: rest)) :=
  va_aldq hx hb hAm.K hw.1 q0 2 ha rfl hin hdg kk
theorem rc_rald (hx : p.tables.exec = Jvm.exec) (hb : c.code = cc) (hAm : rc_Amb E A s s.heap) (hw : rc_W E A s ws H locs) (q0 : Nat) {n : Nat} {f : Nat → Option Nat} (ha : ws[q0]? = some (a, .inl (E.2.1 1, n, .inr (.inr (.inr (.inr f)))))) {i : Int32} (hin : vp_in i n) (hdg : decode cc pc = .ok (.aaload, 1))
    (kk : W p l e R s m args below meth c H locs cells slots Q (F0 m (pc + 1) ls (va_rf (f i.toNatClampNeg) :: rest))) : W p l e R s m args below meth c H locs cells slots Q (F0 m pc ls (.int i :: .ref a :: rest)) := by
  have hlt : i.toNatClampNeg < n := Nat.not_le.mp fun q => hin (Or.inr q)
  exact W.aald (v := va_rf (f i.toNatClampNeg)) (ty := .array .int) hx hb (hw.1 q0 _ ha) ((hAm.K.2 1 _ rfl).1 n (fun j => va_rf (f j))) rfl (fun q => by cases q) (by show ¬ (i < 0 ∨ (arrV _ _ _).slots.size ≤ _); rw [arrV_size]; exact hin) (by show (arrV _ _ _).slots[_]? = _; rw [arrV_read _ _ hlt]) rfl rfl hdg kk
theorem rc_qast (hx : p.tables.exec = Jvm.exec) (hb : c.code = cc) (hAm : rc_Amb E A s s.heap) (hw : rc_W E A s ws H locs) (q0 : Nat) {n v : Nat} {f : Nat → Option Nat} (ha : ws[q0]? = some (a, .inl (E.2.1 2, n, .inr (.inr (.inr (.inr f)))))) (qk : Nat) {vs : List Value} (hv : ws[qk]? = some (v, .inr (ci, vs))) (hc : vwCl[ci]? = some (C, T, N)) (hca : Cond.castable C "java/lang/Object" ∈ lw_tbl) {i : Int32} (hin : vp_in i n) (ws2 : va_W) (h2 : ws.set q0 (a, .inl (E.2.1 2, n, .inr (.inr (.inr (.inr (va_up f i.toNatClampNeg (some v))))))) = ws2) (hdg : decode cc pc = .ok (.aastore, 1))
    (kk : ∀ (H1 : Heap) (locs1 : List Loc), rc_W E A s ws2 H1 locs1 → W p l e R s m args below meth c H1 locs1 cells slots Q (F0 m (pc + 1) ls rest)) : W p l e R s m args below meth c H locs cells slots Q (F0 m pc ls (.ref v :: .int i :: .ref a :: rest)) := by
  subst h2
  exact vb_astq (E := "java/lang/Object") (C := C) hx hb hAm.K hw.1 hw.2.1 hw.2.2 q0 2 ha rfl (va_recv hAm.K hw.1 hc hv) (vb_asgC (hAm.nw hca rfl)) hin hdg (fun H1 locs1 h3 h4 h5 => kk H1 locs1 ⟨h3, h4, h5⟩)
theorem rc_alen (hx : p.tables.exec = Jvm.exec) (hb : c.code = cc) (hAm : rc_Amb E A s s.heap) (hw : rc_W E A s ws H locs) (q0 t0 : Nat) {cA : ClassId} {z : vp_A} (ha : ws[q0]? = some (a, .inl (cA, z))) {ty : FieldType} (ht : (rc_tys E)[t0]? = some (cA, ty)) (v : Int32) (hv : Int32.ofNat z.1 = v) (hdg : decode cc pc = .ok (.arraylength, 1))
    (kk : W p l e R s m args below meth c H locs cells slots Q (F0 m (pc + 1) ls (.int v :: rest))) : W p l e R s m args below meth c H locs cells slots Q (F0 m pc ls (.ref a :: rest)) :=
  va_alen hx hb hAm.K hw.1 q0 t0 ha ht hv hdg kk
theorem rc_new (hx : p.tables.exec = Jvm.exec) (hb : c.code = cc) (hown : s.vm.findClass own = some m.cls) (hAm : rc_Amb E A s s.heap) (hA : ∀ q, s.heap.size ≤ q → A q) (hw : rc_W E A s ws H locs) (hlay : rc_Lay C T N) (ty0 : Nat → FieldType) (hty : ∀ k, k < N → parseFieldDescriptor (T k).2.2.1 = some (ty0 k)) (hc : vwCl[ci]? = some (C, T, N)) (h1 : Cond.classLink own index C ∈ lw_tbl) (h2 : Cond.instantiable C N ∈ lw_tbl) (h3 : Cond.initialized C ∈ lw_tbl) (fs : List Value) (hfs : (List.range N).map (fun j => defaultValue (ty0 j)) = fs) (hcells : cells + 1 ≤ R.cells) (hslots : slots + N ≤ R.slots) (hdg : decode cc pc = .ok (.new index, 3))
    (kk : ∀ (q : Nat) (H1 : Heap), rc_W E A s (ws ++ [(q, .inr (ci, fs))]) H1 locs → W p l e R s m args below meth c H1 locs (cells + 1) (slots + N) Q (F0 m (pc + 3) ls (.ref q :: rest))) : W p l e R s m args below meth c H locs cells slots Q (F0 m pc ls rest) := by
  refine va_new (fs := fs) hx hb (hAm.lay hlay) (fun _ h => h) ty0 hty hown (hAm.wd h1 rfl rfl) (hAm.wd h2 rfl rfl) (hAm.wd h3 rfl rfl) hAm.K hw.1 hw.2.1 hw.2.2 hA hc (fun j hj => ?_) hcells hslots hdg (fun q H1 hP hD hS => kk q H1 ⟨hP, hD, hS⟩)
  rw [← hfs]
  simp [vp_V, hj]
theorem rc_qnew (hx : p.tables.exec = Jvm.exec) (hb : c.code = cc) (hown : s.vm.findClass own = some m.cls) (hAm : rc_Amb E A s s.heap) (hA : ∀ q, s.heap.size ≤ q → A q) (hw : rc_W E A s ws H locs) (h1 : Cond.classLink own index "java/lang/Object" ∈ lw_tbl) (h2 : Cond.arrayOver (.object "java/lang/Object") ∈ lw_tbl) {n : Int32} (N1 : Nat) (hn : ¬ n < 0) (hN : n.toNatClampNeg = N1) (hbytes : N1 * 4 ≤ 536870912) (hcells : cells + 1 ≤ R.cells) (hslots : slots + N1 ≤ R.slots) (hdg : decode cc pc = .ok (.anewarray index, 3))
    (kk : ∀ (q : Nat) (H1 : Heap), rc_W E A s (ws ++ [(q, .inl (E.2.1 2, N1, .inr (.inr (.inr (.inr (fun _ => none))))))]) H1 locs → W p l e R s m args below meth c H1 locs (cells + 1) (slots + N1) Q (F0 m (pc + 3) ls (.ref q :: rest))) : W p l e R s m args below meth c H locs cells slots Q (F0 m pc ls (.int n :: rest)) := by
  refine va_newq (C := "java/lang/Object") hx hb hown (hAm.wd h1 rfl rfl) (hAm.nw h2 rfl) hAm.K hw.1 hw.2.1 hw.2.2 hA hn hN hbytes hcells hslots hdg (fun q cA H1 hK hP hD hS => ?_)
  obtain rfl := rc_cyI hK 2 rfl
  exact kk q H1 ⟨hP, hD, hS⟩
/-- the constructor of java.lang.Object -/
theorem rc_obj (hx : p.tables.exec = Jvm.exec) (hb : c.code = cc) (hown : s.vm.findClass own = some m.cls) (hAm : rc_Amb E A s s.heap) (h1 : Cond.methodLink own index objectInit ∈ lw_tbl) (h2 : Cond.instanceMethod objectInit ∈ lw_tbl) (h3 : Cond.code objectInit ⟨#[0xb1]⟩ 1 none ∈ lw_tbl) (hsize : ls.size = c.maxLocals) (hframes : 1 ≤ R.frames) (hlocals : (rest.map fun v => v.category).sum + 12 ≤ R.locals) (hdg : decode cc pc = .ok (.invokespecial index, 3))
    (kk : W p l e R s m args below meth c H locs cells slots Q (F0 m (pc + 3) ls rest)) : W p l e R s m args below meth c H locs cells slots Q (F0 m pc ls (.ref a :: rest)) := by
  refine W.objInit hx hb hown (hAm.wd h1 rfl rfl) (hAm.wd h2 rfl rfl) (hAm.wd h3 rfl rfl) rfl hsize rfl hdg hframes (by show 2 * 0 + _ + 12 ≤ _; omega) ?_
  exact W.eq (g2 := F0 m (pc + 3) ls rest) rfl kk
/-- the words of a call, out of the tables -/
theorem rc_cwB {y : MethodName} {bytes : ByteArray} {maxL n : Nat} {ret : Option FieldType} {rm : Room} (hAm : rc_Amb E A s s.heap) (h1 : Cond.methodLink own index y ∈ lw_tbl) (h2 : Cond.initialized y.cls ∈ lw_tbl) (h3 : Cond.code y bytes maxL ret ∈ lw_tbl) (hrc : rm.cells = mc) (hrs : rm.slots = ms) (hd : y.cls ≠ "java/lang/invoke/MethodHandle" ∧ y.cls ≠ "java/lang/invoke/VarHandle" ∧ (parseMethodDescriptor y.desc).map (fun d => d.parameters.length) = some n) (hR : rm.frames + 1 ≤ R.frames ∧ 8 + (maxL + 11) + rm.locals ≤ R.locals) : CallB R s args own index y bytes maxL ret [Cond.code y bytes maxL ret] rm mc ms n := by
  refine ⟨hrc, hrs, hR.1, hR.2, fun w hw a2 U hW => ?_, List.mem_cons_self, hAm.wd h3 rfl rfl, hAm.wd h2 rfl rfl, ⟨hd.1, hd.2.1⟩, fun sig h => ?_, hAm.wd h1 rfl rfl⟩
  · obtain rfl := List.mem_singleton.mp hw
    exact va_Nw.use rfl (rc_st_warm hW rfl (hAm.nw h3 rfl))
  · have h9 := hd.2.2
    rw [h] at h9
    exact (Option.some.inj h9).symm
theorem rc_cwV {y : MethodName} {bytes : ByteArray} {maxL n : Nat} {ret : Option FieldType} {rm : Room} (hAm : rc_Amb E A s s.heap) (h1 : Cond.methodLink own index y ∈ lw_tbl) (h2 : Cond.initialized y.cls ∈ lw_tbl) (h3 : Cond.code y bytes maxL ret ∈ lw_tbl) (h4 : Cond.instanceMethod y ∈ lw_tbl) (h5 : Cond.selects y.cls y y ∈ lw_tbl) (hrc : rm.cells = mc) (hrs : rm.slots = ms) (hd : y.cls ≠ "java/lang/invoke/MethodHandle" ∧ y.cls ≠ "java/lang/invoke/VarHandle" ∧ (parseMethodDescriptor y.desc).map (fun d => d.parameters.length) = some n) (hR : rm.frames + 1 ≤ R.frames ∧ 8 + (maxL + 11) + rm.locals ≤ R.locals) : CallW R s args own y.cls index y bytes maxL ret [Cond.code y bytes maxL ret] rm mc ms n :=
  ⟨rc_cwB hAm h1 h2 h3 hrc hrs hd hR, hAm.wd h4 rfl rfl, hAm.wd h5 rfl rfl⟩
theorem rc_cwS {y : MethodName} {bytes : ByteArray} {maxL n : Nat} {ret : Option FieldType} {rm : Room} (hAm : rc_Amb E A s s.heap) (h1 : Cond.methodLink own index y ∈ lw_tbl) (h2 : Cond.initialized y.cls ∈ lw_tbl) (h3 : Cond.code y bytes maxL ret ∈ lw_tbl) (h4 : Cond.static y ∈ lw_tbl) (hrc : rm.cells = mc) (hrs : rm.slots = ms) (hd : y.cls ≠ "java/lang/invoke/MethodHandle" ∧ y.cls ≠ "java/lang/invoke/VarHandle" ∧ (parseMethodDescriptor y.desc).map (fun d => d.parameters.length) = some n) (hR : rm.frames + 1 ≤ R.frames ∧ 8 + (maxL + 11) + rm.locals ≤ R.locals) : CallB R s args own index y bytes maxL ret [Cond.code y bytes maxL ret] rm mc ms n ∧ (Cond.static y).before args s = true :=
  ⟨rc_cwB hAm h1 h2 h3 hrc hrs hd hR, hAm.wd h4 rfl rfl⟩
theorem rc_cwI {y : MethodName} {bytes : ByteArray} {maxL n : Nat} {rm : Room} (hAm : rc_Amb E A s s.heap) (h1 : Cond.methodLink own index y ∈ lw_tbl) (h2 : Cond.initialized y.cls ∈ lw_tbl) (h3 : Cond.code y bytes maxL none ∈ lw_tbl) (h4 : Cond.instanceMethod y ∈ lw_tbl) (h6 : y.name = "<init>") (hrc : rm.cells = mc) (hrs : rm.slots = ms) (hd : y.cls ≠ "java/lang/invoke/MethodHandle" ∧ y.cls ≠ "java/lang/invoke/VarHandle" ∧ (parseMethodDescriptor y.desc).map (fun d => d.parameters.length) = some n) (hR : rm.frames + 1 ≤ R.frames ∧ 8 + (maxL + 11) + rm.locals ≤ R.locals) : CallB R s args own index y bytes maxL none [Cond.code y bytes maxL none] rm mc ms n ∧ y.name = "<init>" ∧ (Cond.instanceMethod y).before args s = true :=
  ⟨rc_cwB hAm h1 h2 h3 hrc hrs hd hR, h6, hAm.wd h4 rfl rfl⟩
/-- .. of a private member of a nest mate -/
theorem rc_cnB {y : MethodName} {bytes : ByteArray} {maxL n : Nat} {ret : Option FieldType} {rm : Room} (hAm : rc_Amb E A s s.heap) (h1 : Cond.methodLinkNest own index y host ∈ lw_tbl) (h2 : Cond.initialized y.cls ∈ lw_tbl) (h3 : Cond.code y bytes maxL ret ∈ lw_tbl) (hrc : rm.cells = mc) (hrs : rm.slots = ms) (hd : y.cls ≠ "java/lang/invoke/MethodHandle" ∧ y.cls ≠ "java/lang/invoke/VarHandle" ∧ (parseMethodDescriptor y.desc).map (fun d => d.parameters.length) = some n) (hR : rm.frames + 1 ≤ R.frames ∧ 8 + (maxL + 11) + rm.locals ≤ R.locals) : va_CN R s args own index y host bytes maxL ret [Cond.code y bytes maxL ret] rm mc ms n := by
  refine ⟨⟨hrc, hrs, hR.1, hR.2, fun w hw a2 U hW => ?_, List.mem_cons_self⟩, hAm.wd h3 rfl rfl, hAm.wd h2 rfl rfl, ⟨hd.1, hd.2.1⟩, fun sig h => ?_, hAm.wd h1 rfl rfl⟩
  · obtain rfl := List.mem_singleton.mp hw
    exact va_Nw.use rfl (rc_st_warm hW rfl (hAm.nw h3 rfl))
  · have h9 := hd.2.2
    rw [h] at h9
    exact (Option.some.inj h9).symm
theorem rc_cnV {y : MethodName} {bytes : ByteArray} {maxL n : Nat} {ret : Option FieldType} {rm : Room} (hAm : rc_Amb E A s s.heap) (h1 : Cond.methodLinkNest own index y host ∈ lw_tbl) (h2 : Cond.initialized y.cls ∈ lw_tbl) (h3 : Cond.code y bytes maxL ret ∈ lw_tbl) (h4 : Cond.instanceMethod y ∈ lw_tbl) (h5 : Cond.selects y.cls y y ∈ lw_tbl) (hrc : rm.cells = mc) (hrs : rm.slots = ms) (hd : y.cls ≠ "java/lang/invoke/MethodHandle" ∧ y.cls ≠ "java/lang/invoke/VarHandle" ∧ (parseMethodDescriptor y.desc).map (fun d => d.parameters.length) = some n) (hR : rm.frames + 1 ≤ R.frames ∧ 8 + (maxL + 11) + rm.locals ≤ R.locals) : va_CN R s args own index y host bytes maxL ret [Cond.code y bytes maxL ret] rm mc ms n ∧ (Cond.instanceMethod y).before args s = true ∧ (Cond.selects y.cls y y).before args s = true :=
  ⟨rc_cnB hAm h1 h2 h3 hrc hrs hd hR, hAm.wd h4 rfl rfl, hAm.wd h5 rfl rfl⟩
theorem rc_cnS {y : MethodName} {bytes : ByteArray} {maxL n : Nat} {ret : Option FieldType} {rm : Room} (hAm : rc_Amb E A s s.heap) (h1 : Cond.methodLinkNest own index y host ∈ lw_tbl) (h2 : Cond.initialized y.cls ∈ lw_tbl) (h3 : Cond.code y bytes maxL ret ∈ lw_tbl) (h4 : Cond.static y ∈ lw_tbl) (hrc : rm.cells = mc) (hrs : rm.slots = ms) (hd : y.cls ≠ "java/lang/invoke/MethodHandle" ∧ y.cls ≠ "java/lang/invoke/VarHandle" ∧ (parseMethodDescriptor y.desc).map (fun d => d.parameters.length) = some n) (hR : rm.frames + 1 ≤ R.frames ∧ 8 + (maxL + 11) + rm.locals ≤ R.locals) : va_CN R s args own index y host bytes maxL ret [Cond.code y bytes maxL ret] rm mc ms n ∧ (Cond.static y).before args s = true ∧ True :=
  ⟨rc_cnB hAm h1 h2 h3 hrc hrs hd hR, hAm.wd h4 rfl rfl, trivial⟩
theorem rc_cnI {y : MethodName} {bytes : ByteArray} {maxL n : Nat} {rm : Room} (hAm : rc_Amb E A s s.heap) (h1 : Cond.methodLinkNest own index y host ∈ lw_tbl) (h2 : Cond.initialized y.cls ∈ lw_tbl) (h3 : Cond.code y bytes maxL none ∈ lw_tbl) (h4 : Cond.instanceMethod y ∈ lw_tbl) (h6 : y.name = "<init>") (hrc : rm.cells = mc) (hrs : rm.slots = ms) (hd : y.cls ≠ "java/lang/invoke/MethodHandle" ∧ y.cls ≠ "java/lang/invoke/VarHandle" ∧ (parseMethodDescriptor y.desc).map (fun d => d.parameters.length) = some n) (hR : rm.frames + 1 ≤ R.frames ∧ 8 + (maxL + 11) + rm.locals ≤ R.locals) : va_CN R s args own index y host bytes maxL none [Cond.code y bytes maxL none] rm mc ms n ∧ y.name = "<init>" ∧ (Cond.instanceMethod y).before args s = true :=
  ⟨rc_cnB hAm h1 h2 h3 hrc hrs hd hR, h6, hAm.wd h4 rfl rfl⟩
end RCL
theorem lyX0 : rc_Lay RX0 TX0 4 := by unfold rc_Lay; decide +kernel
theorem lyX1 : rc_Lay RX1 TX1 3 := by unfold rc_Lay; decide +kernel
theorem lyX2 : rc_Lay RX2 TX2 10 := by unfold rc_Lay; decide +kernel
theorem lyX3 : rc_Lay RX3 TX3 8 := by unfold rc_Lay; decide +kernel
theorem lyX4 : rc_Lay RX4 TX4 5 := by unfold rc_Lay; decide +kernel
theorem lyX5 : rc_Lay RX5 TX5 2 := by unfold rc_Lay; decide +kernel
theorem lyX6 : rc_Lay RX6 TX6 13 := by unfold rc_Lay; decide +kernel
theorem lyJx4a65c : rc_Lay RJx4a65c TJx4a65c 3 := by unfold rc_Lay; decide +kernel
