/-! worlds by tag: which cell stands under which number; all rows of the base once more over them -/
abbrev tg_G : Type := Nat → Option (Nat × va_E)
/-- the cells of G hold in H, each address under one tag alone, finitely many -/
def tg_H (E : rc_E) (G : tg_G) (H : Heap) : Prop := (∃ N : Nat, ∀ t, N ≤ t → G t = none) ∧ (∀ (t t' : Nat) (x x' : Nat × va_E), G t = some x → G t' = some x' → x.1 = x'.1 → t = t') ∧ ∀ (t : Nat) (x : Nat × va_E), G t = some x → va_at E.1 vwCl x H
def tg_A (G : tg_G) (sz : Nat) : Nat → Prop := fun q => (∃ (t : Nat) (e : va_E), G t = some (q, e)) ∨ sz ≤ q
def tg_W (E : rc_E) (A : Nat → Prop) (s : State) (G : tg_G) (H : Heap) (locs : List Loc) : Prop := tg_H E G H ∧ (∀ (t : Nat) (x : Nat × va_E), G t = some x → A x.1) ∧ va_S A s.heap H locs
def tg_up (G : tg_G) (t : Nat) (x : Nat × va_E) : tg_G := fun t' => if t' = t then some x else G t'
theorem tg_up_at {G : tg_G} {t : Nat} {x : Nat × va_E} : tg_up G t x t = some x := if_pos rfl
theorem tg_up_ne {G : tg_G} {t t' : Nat} {x : Nat × va_E} (h : t' ≠ t) : tg_up G t x t' = G t' := if_neg h
theorem tg_up_of {G : tg_G} {t t' : Nat} {x x' : Nat × va_E} (h : t' ≠ t) (k : G t' = some x') : tg_up G t x t' = some x' := (if_neg h).trans k
theorem tg_mk {G : tg_G} (hi : ∀ (t t' : Nat) (x x' : Nat × va_E), G t = some x → G t' = some x' → x.1 = x'.1 → t = t') (N : Nat) : ∃ ws : va_W, (∀ (i j : Nat) (p q : Nat × va_E), ws[i]? = some p → ws[j]? = some q → p.1 = q.1 → i = j) ∧ (∀ (t : Nat) (x : Nat × va_E), t < N → G t = some x → ∃ q : Nat, ws[q]? = some x) ∧ ∀ (q : Nat) (x : Nat × va_E), ws[q]? = some x → ∃ t, t < N ∧ G t = some x := by
  induction N with
  | zero => exact ⟨[], fun i j p q h => by simp at h, fun t x h => absurd h (Nat.not_lt_zero t), fun q x h => by simp at h⟩
  | succ N ih =>
    obtain ⟨ws, h1, h2, h3⟩ := ih
    cases hg : G N with
    | none =>
      refine ⟨ws, h1, fun t x ht hx => ?_, fun q x hq => ?_⟩
      · rcases Nat.lt_succ_iff_lt_or_eq.mp ht with h | h
        · exact h2 t x h hx
        · subst h; rw [hg] at hx; cases hx
      · obtain ⟨t, a, b⟩ := h3 q x hq
        exact ⟨t, by omega, b⟩
    | some y =>
      have hl : ∀ (q : Nat) (x : Nat × va_E), (ws ++ [y])[q]? = some x → (q < ws.length ∧ ws[q]? = some x) ∨ (q = ws.length ∧ x = y) := by
        intro q x hq
        rcases Nat.lt_trichotomy q ws.length with h | h | h
        · rw [List.getElem?_append_left h] at hq; exact Or.inl ⟨h, hq⟩
        · subst h; simp at hq; exact Or.inr ⟨rfl, hq.symm⟩
        · rw [List.getElem?_eq_none (by simp; omega)] at hq; cases hq
      refine ⟨ws ++ [y], fun i j p q hp hq hpq => ?_, fun t x ht hx => ?_, fun q x hq => ?_⟩
      · rcases hl i p hp with ⟨i1, i2⟩ | ⟨i1, i2⟩ <;> rcases hl j q hq with ⟨j1, j2⟩ | ⟨j1, j2⟩
        · exact h1 i j p q i2 j2 hpq
        · obtain ⟨t, a, b⟩ := h3 i p i2
          subst j2
          have := hi t N p q b hg hpq
          omega
        · obtain ⟨t, a, b⟩ := h3 j q j2
          subst i2
          have := hi N t p q hg b hpq
          omega
        · omega
      · rcases Nat.lt_succ_iff_lt_or_eq.mp ht with h | h
        · obtain ⟨q, hq⟩ := h2 t x h hx
          exact ⟨q, by rw [List.getElem?_append_left (List.getElem?_eq_some_iff.mp hq).1]; exact hq⟩
        · subst h
          rw [hg] at hx
          cases hx
          exact ⟨ws.length, by simp⟩
      · rcases hl q x hq with ⟨-, a⟩ | ⟨-, a⟩
        · obtain ⟨t, b, d⟩ := h3 q x a
          exact ⟨t, by omega, d⟩
        · subst a
          exact ⟨N, by omega, hg⟩
/-- the world as a list -/
theorem tg_list {E : rc_E} {A : Nat → Prop} {s : State} {G : tg_G} {H : Heap} {locs : List Loc} (h : tg_W E A s G H locs) : ∃ ws : va_W, rc_W E A s ws H locs ∧ (∀ (t : Nat) (x : Nat × va_E), G t = some x → ∃ q : Nat, ws[q]? = some x) ∧ ∀ (q : Nat) (x : Nat × va_E), ws[q]? = some x → ∃ t, G t = some x := by
  obtain ⟨⟨⟨N, hN⟩, hi, hP⟩, hA, hS⟩ := h
  obtain ⟨ws, h1, h2, h3⟩ := tg_mk hi N
  refine ⟨ws, ⟨fun k q hk => ?_, ⟨h1, fun k q hk => ?_⟩, hS⟩, fun t x hx => ?_, fun q x hq => ?_⟩
  · obtain ⟨t, -, b⟩ := h3 k q hk
    exact hP t q b
  · obtain ⟨t, -, b⟩ := h3 k q hk
    exact hA t q b
  · refine h2 t x ?_ hx
    rcases Nat.lt_or_ge t N with h | h
    · exact h
    · rw [hN t h] at hx; cases hx
  · obtain ⟨t, -, b⟩ := h3 q x hq
    exact ⟨t, b⟩
/-- a cell of the world, and what a write to it makes of the world -/
theorem tg_use {E : rc_E} {A : Nat → Prop} {s : State} {G : tg_G} {H : Heap} {locs : List Loc} (h : tg_W E A s G H locs) {t : Nat} {a : Nat} {e : va_E} (ht : G t = some (a, e)) : ∃ (ws : va_W) (q0 : Nat), rc_W E A s ws H locs ∧ ws[q0]? = some (a, e) ∧ (∀ (e' : va_E) (H1 : Heap) (locs1 : List Loc), rc_W E A s (ws.set q0 (a, e')) H1 locs1 → tg_W E A s (tg_up G t (a, e')) H1 locs1) ∧ ∀ (t : Nat) (x : Nat × va_E), G t = some x → ∃ q : Nat, ws[q]? = some x := by
  obtain ⟨ws, h1, h2, h3⟩ := tg_list h
  obtain ⟨q0, hq⟩ := h2 t _ ht
  obtain ⟨⟨⟨N, hN⟩, hi, hP⟩, hA, hS⟩ := h
  have hlt : q0 < ws.length := (List.getElem?_eq_some_iff.mp hq).1
  refine ⟨ws, q0, h1, hq, fun e' H1 locs1 hw => ?_, h2⟩
  obtain ⟨gP, gD, gS⟩ := hw
  have hself : (ws.set q0 (a, e'))[q0]? = some (a, e') := by rw [List.getElem?_set_self hlt]
  have hoth : ∀ (t' : Nat) (x' : Nat × va_E), t' ≠ t → G t' = some x' → ∃ q : Nat, (ws.set q0 (a, e'))[q]? = some x' := by
    intro t' x' hn hx
    obtain ⟨q, hq'⟩ := h2 t' x' hx
    have hne : q ≠ q0 := by
      intro hqq
      subst hqq
      rw [hq] at hq'
      cases hq'
      exact hn (hi t' t _ _ hx ht rfl)
    exact ⟨q, by rw [List.getElem?_set_ne (Ne.symm hne)]; exact hq'⟩
  have hall : ∀ (t' : Nat) (x' : Nat × va_E), tg_up G t (a, e') t' = some x' → ∃ q : Nat, (ws.set q0 (a, e'))[q]? = some x' := by
    intro t' x' hx
    by_cases hn : t' = t
    · subst hn
      rw [tg_up_at] at hx
      cases hx
      exact ⟨q0, hself⟩
    · rw [tg_up_ne hn] at hx
      exact hoth t' x' hn hx
  refine ⟨⟨⟨max N (t + 1), fun t' ht' => ?_⟩, fun t1 t2 x1 x2 g1 g2 hx => ?_, fun t' x' hx => ?_⟩, fun t' x' hx => ?_, gS⟩
  · rw [tg_up_ne (by omega)]
    exact hN t' (by omega)
  · have key : ∀ (t' : Nat) (x' : Nat × va_E), tg_up G t (a, e') t' = some x' → ∃ y : Nat × va_E, G t' = some y ∧ y.1 = x'.1 := by
      intro t' x' hx
      by_cases hn : t' = t
      · subst hn
        rw [tg_up_at] at hx
        cases hx
        exact ⟨_, ht, rfl⟩
      · rw [tg_up_ne hn] at hx
        exact ⟨_, hx, rfl⟩
    obtain ⟨y1, b1, d1⟩ := key t1 x1 g1
    obtain ⟨y2, b2, d2⟩ := key t2 x2 g2
    exact hi t1 t2 y1 y2 b1 b2 (d1.trans (hx.trans d2.symm))
  · obtain ⟨q, hq'⟩ := hall t' x' hx
    exact gP q x' hq'
  · obtain ⟨q, hq'⟩ := hall t' x' hx
    exact gD.2 q x' hq'
/-- a new cell under any tag -/
theorem tg_add {E : rc_E} {A : Nat → Prop} {s : State} {G : tg_G} {H : Heap} {locs : List Loc} (h : tg_W E A s G H locs) : ∃ ws : va_W, rc_W E A s ws H locs ∧ (∀ (t : Nat) (x : Nat × va_E), G t = some x → ∃ q : Nat, ws[q]? = some x) ∧ ∀ (t q : Nat) (e' : va_E) (H1 : Heap) (locs1 : List Loc), rc_W E A s (ws ++ [(q, e')]) H1 locs1 → tg_W E A s (tg_up G t (q, e')) H1 locs1 := by
  obtain ⟨ws, h1, h2, h3⟩ := tg_list h
  obtain ⟨⟨⟨N, hN⟩, hi, hP⟩, hA, hS⟩ := h
  refine ⟨ws, h1, h2, fun t q e' H1 locs1 hw => ?_⟩
  obtain ⟨gP, gD, gS⟩ := hw
  have hold : ∀ (t' : Nat) (x' : Nat × va_E), G t' = some x' → ∃ k : Nat, k < ws.length ∧ (ws ++ [(q, e')])[k]? = some x' := by
    intro t' x' hx
    obtain ⟨k, hk⟩ := h2 t' x' hx
    have hl := (List.getElem?_eq_some_iff.mp hk).1
    exact ⟨k, hl, by rw [List.getElem?_append_left hl]; exact hk⟩
  have hnew : (ws ++ [(q, e')])[ws.length]? = some (q, e') := by simp
  have hall : ∀ (t' : Nat) (x' : Nat × va_E), tg_up G t (q, e') t' = some x' → ∃ k : Nat, (ws ++ [(q, e')])[k]? = some x' := by
    intro t' x' hx
    by_cases hn : t' = t
    · subst hn
      rw [tg_up_at] at hx
      cases hx
      exact ⟨_, hnew⟩
    · rw [tg_up_ne hn] at hx
      obtain ⟨k, -, hk⟩ := hold t' x' hx
      exact ⟨k, hk⟩
  refine ⟨⟨⟨max N (t + 1), fun t' ht' => ?_⟩, fun t1 t2 x1 x2 g1 g2 hx => ?_, fun t' x' hx => ?_⟩, fun t' x' hx => ?_, gS⟩
  · rw [tg_up_ne (by omega)]
    exact hN t' (by omega)
  · by_cases n1 : t1 = t <;> by_cases n2 : t2 = t
    · omega
    · subst n1
      rw [tg_up_at] at g1
      cases g1
      rw [tg_up_ne n2] at g2
      obtain ⟨k, hl, hk⟩ := hold t2 x2 g2
      have := gD.1 _ _ _ _ hnew hk hx
      omega
    · subst n2
      rw [tg_up_at] at g2
      cases g2
      rw [tg_up_ne n1] at g1
      obtain ⟨k, hl, hk⟩ := hold t1 x1 g1
      have := gD.1 _ _ _ _ hk hnew hx
      omega
    · rw [tg_up_ne n1] at g1
      rw [tg_up_ne n2] at g2
      exact hi t1 t2 x1 x2 g1 g2 hx
  · obtain ⟨k, hk⟩ := hall t' x' hx
    exact gP k x' hk
  · obtain ⟨k, hk⟩ := hall t' x' hx
    exact gD.2 k x' hk
/-- two tags of one cell are one -/
theorem tg_W.inj {E : rc_E} {A : Nat → Prop} {s : State} {G : tg_G} {H : Heap} {locs : List Loc} (h : tg_W E A s G H locs) {t t' a : Nat} {e e' : va_E} (h1 : G t = some (a, e)) (h2 : G t' = some (a, e')) : t = t' := h.1.2.1 t t' _ _ h1 h2 rfl
/-- what stands under t2 is put under t1 -/
def tg_mv (G : tg_G) (t1 t2 : Nat) : tg_G := fun t => if t = t1 then G t2 else if t = t2 then none else G t
theorem tg_move {E : rc_E} {A : Nat → Prop} {s : State} {G : tg_G} {H : Heap} {locs : List Loc} (h : tg_W E A s G H locs) {t1 t2 : Nat} {x : Nat × va_E} (hne : t1 ≠ t2) (hx : G t2 = some x) : ∃ G1 : tg_G, tg_W E A s G1 H locs ∧ G1 t1 = some x ∧ ∀ t9, t9 ≠ t1 → t9 ≠ t2 → G1 t9 = G t9 := by
  obtain ⟨⟨⟨N, hN⟩, hi, hP⟩, hA, hS⟩ := h
  have key : ∀ (t : Nat) (y : Nat × va_E), tg_mv G t1 t2 t = some y → (t = t1 ∧ G t2 = some y) ∨ (t ≠ t1 ∧ t ≠ t2 ∧ G t = some y) := by
    intro t y hy
    unfold tg_mv at hy
    by_cases e1 : t = t1
    · rw [if_pos e1] at hy; exact Or.inl ⟨e1, hy⟩
    · rw [if_neg e1] at hy
      by_cases e2 : t = t2
      · rw [if_pos e2] at hy; cases hy
      · rw [if_neg e2] at hy; exact Or.inr ⟨e1, e2, hy⟩
  refine ⟨tg_mv G t1 t2, ⟨⟨⟨max N (t1 + 1), fun t ht => ?_⟩, fun t t' y y' g g' hyy => ?_, fun t y g => ?_⟩, fun t y g => ?_, hS⟩, ?_, fun t9 h8 h9 => ?_⟩
  · unfold tg_mv
    rw [if_neg (by omega)]
    by_cases e2 : t = t2
    · rw [if_pos e2]
    · rw [if_neg e2]; exact hN t (by omega)
  · rcases key t y g with ⟨a, b⟩ | ⟨a1, a2, b⟩ <;> rcases key t' y' g' with ⟨a', b'⟩ | ⟨a1', a2', b'⟩
    · omega
    · exact absurd (hi t2 t' y y' b b' hyy).symm a2'
    · exact absurd (hi t t2 y y' b b' hyy) a2
    · exact hi t t' y y' b b' hyy
  · rcases key t y g with ⟨a, b⟩ | ⟨a1, a2, b⟩
    · exact hP t2 y b
    · exact hP t y b
  · rcases key t y g with ⟨a, b⟩ | ⟨a1, a2, b⟩
    · exact hA t2 y b
    · exact hA t y b
  · unfold tg_mv; rw [if_pos rfl]; exact hx
  · unfold tg_mv; rw [if_neg h8, if_neg h9]
/-- ===== contracts ===== -/
def tg_Pc (E : rc_E) (av : List Value) (G : tg_G) (sz : Nat) : Array Value → State → Prop := va_Pc av (fun U => U.heap.size = sz ∧ tg_H E G U.heap ∧ rc_Amb E (tg_A G sz) U U.heap)
def tg_B (E : rc_E) (A : Nat → Prop) : tg_G → State → Prop := fun u t => tg_H E u t.heap ∧ ∀ (k : Nat) (x : Nat × va_E), u k = some x → A x.1
def tg_Br (E : rc_E) (A : Nat → Prop) (pr : tg_G → Nat → Prop) : tg_G → Nat → State → Prop := fun u a t => pr u a ∧ tg_B E A u t
abbrev tg_Qi (E : rc_E) (post : Int32 → tg_G → Prop) (A : Nat → Prop) : Array Value → State → Outcome → State → Prop := va_Qi post (tg_B E A) A
abbrev tg_Ql (E : rc_E) (post : Int64 → tg_G → Prop) (A : Nat → Prop) : Array Value → State → Outcome → State → Prop := va_Ql post (tg_B E A) A
abbrev tg_Qd (E : rc_E) (post : UInt64 → tg_G → Prop) (A : Nat → Prop) : Array Value → State → Outcome → State → Prop := va_Qd post (tg_B E A) A
abbrev tg_Qv (E : rc_E) (post : tg_G → Prop) (A : Nat → Prop) : Array Value → State → Outcome → State → Prop := va_Qv post (tg_B E A) A
abbrev tg_Qr (E : rc_E) (pr : tg_G → Nat → Prop) (A : Nat → Prop) : Array Value → State → Outcome → State → Prop := va_Qr (fun _ : tg_G => True) (tg_Br E A pr) A
/-- thrown: which, and the world as it was -/
abbrev tg_X (E : rc_E) (G : tg_G) (pe : String → Prop) (A : Nat → Prop) : String → State → State → Prop := vx_X (S := Unit) (fun _ => True) (fun x _ t => pe x ∧ tg_B E A G t) A
abbrev tg_M (l : Launch) (y : MethodName) (ws : List Cond) (rm : Room) (E : rc_E) (av : List Value) (G : tg_G) (sz : Nat) (Qa : (Nat → Prop) → Array Value → State → Outcome → State → Prop) (mc ms : Nat) : Prop := Met l y ws rm (tg_Pc E av G sz) (Qa (tg_A G sz)) mc ms (tg_A G sz)
abbrev tg_Mx (l : Launch) (y : MethodName) (ws : List Cond) (rm : Room) (E : rc_E) (av : List Value) (G : tg_G) (sz : Nat) (Qa : (Nat → Prop) → Array Value → State → Outcome → State → Prop) (pe : String → Prop) (mc ms : Nat) : Prop := vx_Met l y ws rm (tg_Pc E av G sz) (Qa (tg_A G sz)) (tg_X E G pe (tg_A G sz)) mc ms (tg_A G sz)
theorem tg_blind {E : rc_E} {av : List Value} {G : tg_G} {sz : Nat} : FrameBlind (tg_Pc E av G sz) := by
  intro a U g mk h
  obtain ⟨h1, h2, h3, h5⟩ := h
  exact ⟨h1, h2, h3, h5.at (U := U.calling g mk a) va_S.rf (fun _ h => h) rfl (State.WarmedH.refl U)⟩
theorem tg_free {E : rc_E} {A : Nat → Prop} {s : State} {G : tg_G} {H : Heap} {locs : List Loc} (hA : ∀ q, s.heap.size ≤ q → A q) (hw : tg_W E A s G H locs) : ∀ q, tg_A G H.size q → A q := by
  intro q h
  rcases h with ⟨t, e, h⟩ | h
  · exact hw.2.1 t _ h
  · exact hA q (Nat.le_trans hw.2.2.1 h)
theorem tg_in {l : Launch} {y : MethodName} {ws ws2 : List Cond} {rm : Room} {E : rc_E} {av : List Value} {G : tg_G} {sz : Nat} {mc ms : Nat} {cc : ByteArray} {maxL : Nat} {ret : Option FieldType} (Qa : (Nat → Prop) → Array Value → State → Outcome → State → Prop) (hy : plainName y.cls = true) (hw : ws = Cond.code y cc maxL ret :: ws2) (hav : (lg_sl av).length ≤ maxL) (body : ∀ (p : Program) (e : Env) (s : State) (m : MethodId) (args : Array Value) (below : List Frame) (meth : Method) (c : Code) (ls : Array Slot) (A : Nat → Prop), p.tables.exec = Jvm.exec → c.code = cc → meth.sig.returnType = ret → c.maxLocals = maxL → s.vm.findClass y.cls = some m.cls → meth.locks = false → meth.name = y.name → (∀ q, s.heap.size ≤ q → A q) → rc_Amb E A s s.heap → tg_W E A s G s.heap [] → lv_has ls maxL (lv_args 0 av) → W p l e rm s m args below meth c s.heap [] 0 0 (MQ below (Qa A) args s mc ms A) (F0 m 0 ls [])) : tg_M l y ws rm E av G sz Qa mc ms := by
  refine Met.ofW (cc := cc) (maxL := maxL) (ret := ret) hy hw ?_
  intro p e s m args below meth c s₁ B hml hv
  obtain ⟨rfl, hsz, hH, hAm⟩ := hv
  have hl := lv_entry av (n := maxL) hav
  rw [lg_entry_eq]
  generalize (lg_sl av ++ List.replicate (maxL - (lg_sl av).length) Slot.unset).toArray = ls at hl ⊢
  subst hsz
  exact body p e s m _ below meth c ls _ B.exec B.bytes B.returns hml (findClass_of_methodNamed B.named) B.notSynchronized (name_of_methodNamed B.named B.method).1 (fun _ h => Or.inr h) hAm ⟨hH, fun t x h => Or.inl ⟨t, x.2, h⟩, va_S.rf⟩ hl
theorem tg_xin {l : Launch} {y : MethodName} {ws ws2 : List Cond} {rm : Room} {E : rc_E} {av : List Value} {G : tg_G} {sz : Nat} {mc ms : Nat} {cc : ByteArray} {maxL : Nat} {ret : Option FieldType} (Qa : (Nat → Prop) → Array Value → State → Outcome → State → Prop) {pe : String → Prop} (hy : plainName y.cls = true) (hw : ws = Cond.code y cc maxL ret :: ws2) (hav : (lg_sl av).length ≤ maxL) (body : ∀ (p : Program) (e : Env) (s : State) (m : MethodId) (args : Array Value) (below : List Frame) (meth : Method) (c : Code) (ls : Array Slot) (A : Nat → Prop), (∀ x ∈ c.exceptionTable.toList, False) → p.tables.exec = Jvm.exec → c.code = cc → meth.sig.returnType = ret → c.maxLocals = maxL → s.vm.findClass y.cls = some m.cls → meth.locks = false → meth.name = y.name → (∀ q, s.heap.size ≤ q → A q) → rc_Amb E A s s.heap → tg_W E A s G s.heap [] → lv_has ls maxL (lv_args 0 av) → W p l e rm s m args below meth c s.heap [] 0 0 (vx_MQ below (Qa A) (tg_X E G pe A) args s mc ms A) (F0 m 0 ls [])) : tg_Mx l y ws rm E av G sz Qa pe mc ms := by
  refine vx_ofW (cc := cc) (maxL := maxL) (ret := ret) hy hw ?_
  intro p e s m args below meth c s₁ B hml htab hv
  obtain ⟨rfl, hsz, hH, hAm⟩ := hv
  have hl := lv_entry av (n := maxL) hav
  rw [lg_entry_eq]
  generalize (lg_sl av ++ List.replicate (maxL - (lg_sl av).length) Slot.unset).toArray = ls at hl ⊢
  subst hsz
  exact body p e s m _ below meth c ls _ htab B.exec B.bytes B.returns hml (findClass_of_methodNamed B.named) B.notSynchronized (name_of_methodNamed B.named B.method).1 (fun _ h => Or.inr h) hAm ⟨hH, fun t x h => Or.inl ⟨t, x.2, h⟩, va_S.rf⟩ hl
theorem tg_inW {l : Launch} {y : MethodName} {ws ws2 : List Cond} {rm : Room} {E : rc_E} {av : List Value} {G : tg_G} {sz : Nat} {mc ms : Nat} {cc : ByteArray} {maxL : Nat} {ret : Option FieldType} {hh : List (Nat × Nat × Nat × Nat)} (Qa : (Nat → Prop) → Array Value → State → Outcome → State → Prop) (hy : plainName y.cls = true) (hw : ws = Cond.codeWith y cc maxL ret hh :: ws2) (hav : (lg_sl av).length ≤ maxL) (body : ∀ (p : Program) (e : Env) (s : State) (m : MethodId) (args : Array Value) (below : List Frame) (meth : Method) (c : Code) (ls : Array Slot) (A : Nat → Prop), c.exceptionTable.toList = tableOf hh → p.tables.exec = Jvm.exec → c.code = cc → meth.sig.returnType = ret → c.maxLocals = maxL → s.vm.findClass y.cls = some m.cls → meth.locks = false → meth.name = y.name → (∀ q, s.heap.size ≤ q → A q) → rc_Amb E A s s.heap → tg_W E A s G s.heap [] → lv_has ls maxL (lv_args 0 av) → W p l e rm s m args below meth c s.heap [] 0 0 (MQ below (Qa A) args s mc ms A) (F0 m 0 ls [])) : tg_M l y ws rm E av G sz Qa mc ms := by
  refine va_MetW (cc := cc) (maxL := maxL) (ret := ret) (hh := hh) hy hw ?_
  intro p e s m args below meth c s₁ B hml hv
  obtain ⟨rfl, hsz, hH, hAm⟩ := hv
  have hts := atoms_spec (ws := ws) B.pre
  have htb := vx_table (x := y) B (hts _ (by rw [hw]; exact List.mem_cons_self))
  have hl := lv_entry av (n := maxL) hav
  rw [lg_entry_eq]
  generalize (lg_sl av ++ List.replicate (maxL - (lg_sl av).length) Slot.unset).toArray = ls at hl ⊢
  subst hsz
  exact body p e s m _ below meth c ls _ htb B.exec B.bytes B.returns hml (findClass_of_methodNamed B.named) B.notSynchronized (name_of_methodNamed B.named B.method).1 (fun _ h => Or.inr h) hAm ⟨hH, fun t x h => Or.inl ⟨t, x.2, h⟩, va_S.rf⟩ hl
section TGR
variable {p : Program} {l : Launch} {e : Env} {R : Room} {s : State} {m : MethodId} {args : Array Value} {below : List Frame} {meth : Method} {c : Code} {H : Heap} {locs : List Loc} {cells slots : Nat} {Q : State → Prop}
variable {cc : ByteArray} {pc : Nat} {ls : Array Slot} {rest st0 : List Value} {E : rc_E} {A : Nat → Prop} {G : tg_G} {mc ms : Nat} {a : Nat} {own ref host C : String} {T : u_T} {N ci index t : Nat}
theorem tg_iret (hx : p.tables.exec = Jvm.exec) (hb : c.code = cc) (hr : meth.sig.returnType = some .int) (hlocks : meth.locks = false) {u : tg_G} (hw : tg_W E A s u H locs) {v : Int32} {post : Int32 → tg_G → Prop} (hp : post v u) (hc : cells ≤ mc) (hs : slots ≤ ms) (d : decode cc pc = .ok (.ireturn, 1)) : W p l e R s m args below meth c H locs cells slots (MQ below (tg_Qi E post A) args s mc ms A) (F0 m pc ls [.int v]) := by
  refine W.widen (k := mc) (n := ms) hc hs ?_
  exact W.iret (v := v) hx hb hr (fun t ht hW => ⟨⟨v, u, rfl, hp, by rw [ht]; exact hw.1, hw.2.1⟩, hw.2.2.F ht⟩) hw.2.2.2.2 d hlocks
theorem tg_lret (hx : p.tables.exec = Jvm.exec) (hb : c.code = cc) (hr : meth.sig.returnType = some .long) (hlocks : meth.locks = false) {u : tg_G} (hw : tg_W E A s u H locs) {v : Int64} {post : Int64 → tg_G → Prop} (hp : post v u) (hc : cells ≤ mc) (hs : slots ≤ ms) (d : decode cc pc = .ok (.lreturn, 1)) : W p l e R s m args below meth c H locs cells slots (MQ below (tg_Ql E post A) args s mc ms A) (F0 m pc ls [.long v]) := by
  refine W.widen (k := mc) (n := ms) hc hs ?_
  exact W.lret (v := v) hx hb hr (fun t ht hW => ⟨⟨v, u, rfl, hp, by rw [ht]; exact hw.1, hw.2.1⟩, hw.2.2.F ht⟩) hw.2.2.2.2 d hlocks
theorem tg_dret (hx : p.tables.exec = Jvm.exec) (hb : c.code = cc) (hr : meth.sig.returnType = some .double) (hlocks : meth.locks = false) {u : tg_G} (hw : tg_W E A s u H locs) {v : UInt64} {post : UInt64 → tg_G → Prop} (hp : post v u) (hc : cells ≤ mc) (hs : slots ≤ ms) (d : decode cc pc = .ok (.dreturn, 1)) : W p l e R s m args below meth c H locs cells slots (MQ below (tg_Qd E post A) args s mc ms A) (F0 m pc ls [.double v]) := by
  refine W.widen (k := mc) (n := ms) hc hs ?_
  exact W.dret (v := v) hx hb hr (fun t ht hW => ⟨⟨v, u, rfl, hp, by rw [ht]; exact hw.1, hw.2.1⟩, hw.2.2.F ht⟩) hw.2.2.2.2 d hlocks
theorem tg_zret (hx : p.tables.exec = Jvm.exec) (hb : c.code = cc) {rt : FieldType} (hr : meth.sig.returnType = some rt) (hlocks : meth.locks = false) {u : tg_G} (hw : tg_W E A s u H locs) {v : Int32} (hz : narrow rt (.int v) = .int v) {post : Int32 → tg_G → Prop} (hp : post v u) (hc : cells ≤ mc) (hs : slots ≤ ms) (d : decode cc pc = .ok (.ireturn, 1)) : W p l e R s m args below meth c H locs cells slots (MQ below (tg_Qi E post A) args s mc ms A) (F0 m pc ls [.int v]) := by
  refine W.widen (k := mc) (n := ms) hc hs ?_
  exact W.zret (v := v) hx hb hr hz (fun t ht hW => ⟨⟨v, u, rfl, hp, by rw [ht]; exact hw.1, hw.2.1⟩, hw.2.2.F ht⟩) hw.2.2.2.2 d hlocks
theorem tg_vret (hx : p.tables.exec = Jvm.exec) (hb : c.code = cc) (hr : meth.sig.returnType = none) (hlocks : meth.locks = false) {u : tg_G} (hw : tg_W E A s u H locs) {post : tg_G → Prop} (hp : post u) (hc : cells ≤ mc) (hs : slots ≤ ms) (d : decode cc pc = .ok (.return_, 1)) : W p l e R s m args below meth c H locs cells slots (MQ below (tg_Qv E post A) args s mc ms A) (F0 m pc ls []) := by
  refine W.widen (k := mc) (n := ms) hc hs ?_
  exact W.vret hx hb hr (fun t ht hW => ⟨⟨u, rfl, hp, by rw [ht]; exact hw.1, hw.2.1⟩, hw.2.2.F ht⟩) hw.2.2.2.2 d hlocks
theorem tg_aret (hx : p.tables.exec = Jvm.exec) (hb : c.code = cc) {rt : FieldType} (hr : meth.sig.returnType = some rt) (hrt : (∃ n, rt = .object n) ∨ ∃ t, rt = .array t) (hlocks : meth.locks = false) {u : tg_G} (hw : tg_W E A s u H locs) {v : Nat} {pr : tg_G → Nat → Prop} (hp : pr u v) (hc : cells ≤ mc) (hs : slots ≤ ms) (d : decode cc pc = .ok (.areturn, 1)) : W p l e R s m args below meth c H locs cells slots (MQ below (tg_Qr E pr A) args s mc ms A) (F0 m pc ls [.ref v]) := by
  refine W.widen (k := mc) (n := ms) hc hs ?_
  exact W.aret (v := .ref v) hx hb hr hrt (Or.inr ⟨v, rfl⟩) (fun t ht hW => ⟨⟨u, v, rfl, trivial, hp, by rw [ht]; exact hw.1, hw.2.1⟩, hw.2.2.F ht⟩) hw.2.2.2.2 d hlocks
theorem tg_preS {s : State} {H : Heap} {locs : List Loc} (hAm : rc_Amb E A s s.heap) (hA : ∀ q, s.heap.size ≤ q → A q) (hw : tg_W E A s G H locs) {As : List Value} : PreS s H (tg_Pc E As G H.size) As := by
  refine ⟨tg_blind, fun U hU hW => ⟨rfl, by rw [hU], by rw [hU]; exact hw.1, ?_⟩⟩
  exact hAm.at hw.2.2 (tg_free hA hw) hU hW
theorem tg_recv {s : State} {H : Heap} {locs : List Loc} (hAm : rc_Amb E A s s.heap) (hw : tg_W E A s G H locs) {t b ci : Nat} {fs : List Value} (hbk : G t = some (b, .inr (ci, fs))) {q : vw_C} (hci : vwCl[ci]? = some q) : ∃ cellV : Cell, H[b]? = some cellV ∧ cellV.vm.isStatics = false ∧ s.vm.findClass q.1 = some cellV.cls := by
  obtain ⟨ws, q0, h1, h2, -⟩ := tg_use hw hbk
  exact va_recv hAm.K h1.1 hci h2
theorem tg_preV {s : State} {H : Heap} {locs : List Loc} (hAm : rc_Amb E A s s.heap) (hA : ∀ q, s.heap.size ≤ q → A q) (hw : tg_W E A s G H locs) {As : List Value} {t b : Nat} {ci : Nat} {fs : List Value} (hbk : G t = some (b, .inr (ci, fs))) {q : vw_C} (hci : vwCl[ci]? = some q) : PreV s H q.1 b (tg_Pc E (.ref b :: As) G H.size) As := by
  obtain ⟨h1, h2⟩ := tg_preS (As := .ref b :: As) hAm hA hw
  exact ⟨h1, tg_recv hAm hw hbk hci, h2⟩
theorem tg_calli {av : Array Value} {post : Int32 → tg_G → Prop} (hr : va_Run p l e R s m args below meth c H locs cells slots mc ms (F0 m pc ls st0) rest (tg_Qi E post (tg_A G H.size) av) (tg_A G H.size)) (hA : ∀ q, s.heap.size ≤ q → A q) (hw : tg_W E A s G H locs)
    (kk : ∀ (r : Int32) (u : tg_G) (H1 : Heap) (locs1 : List Loc), post r u → tg_W E A s u H1 locs1 → W p l e R s m args below meth c H1 locs1 (cells + mc) (slots + ms) Q (F0 m (pc + 3) ls (.int r :: rest))) : W p l e R s m args below meth c H locs cells slots Q (F0 m pc ls st0) := by
  have hF := tg_free hA hw
  refine va_calli hr hw.2.2 (fun q _ h => hF q h) hF (fun r u t H1 locs1 ht hvm hp hB hz1 hk1 hS => ?_)
  obtain ⟨b1, b2⟩ := hB
  rw [ht] at b1
  exact kk r u H1 locs1 hp ⟨b1, fun k x h => hF _ (b2 k x h), hS⟩
theorem tg_callxi {av : Array Value} {post : Int32 → tg_G → Prop} {pe : String → Prop} (hr : vx_Run p l e R s m args below meth c H locs cells slots mc ms (F0 m pc ls st0) rest (tg_Qi E post (tg_A G H.size) av) (tg_X E G pe (tg_A G H.size)) (tg_A G H.size)) (hA : ∀ q, s.heap.size ≤ q → A q) (hw : tg_W E A s G H locs)
    (kx : ∀ (x9 : String) (ce9 : Cell) (q9 : Addr) (H1 : Heap) (locs1 : List Loc), pe x9 → tg_W E A s G H1 locs1 → H1[q9]? = some ce9 → ce9.vm = .none → s.vm.findClass x9 = some ce9.cls → vx_W p l e R s m args below meth c H1 locs1 (cells + mc) (slots + ms) Q (F0 m pc ls rest) q9)
    (kk : ∀ (r : Int32) (u : tg_G) (H1 : Heap) (locs1 : List Loc), post r u → tg_W E A s u H1 locs1 → W p l e R s m args below meth c H1 locs1 (cells + mc) (slots + ms) Q (F0 m (pc + 3) ls (.int r :: rest))) : W p l e R s m args below meth c H locs cells slots Q (F0 m pc ls st0) := by
  have hF := tg_free hA hw
  refine vx_calli hr hw.2.2 (fun q _ h => hF q h) hF (fun q _ h => hF q h) (fun x9 ce9 q9 u t H1 locs1 ht hvm hp hB hz1 hk1 hS h1 h2 h3 => ?_) (fun r u t H1 locs1 ht hvm hp hB hz1 hk1 hS => ?_)
  · obtain ⟨hpe, b1, b2⟩ := hB
    rw [ht] at b1
    exact kx x9 ce9 q9 H1 locs1 hpe ⟨b1, fun k x h => hF _ (b2 k x h), hS⟩ h1 h2 h3
  · obtain ⟨b1, b2⟩ := hB
    rw [ht] at b1
    exact kk r u H1 locs1 hp ⟨b1, fun k x h => hF _ (b2 k x h), hS⟩
theorem tg_calll {av : Array Value} {post : Int64 → tg_G → Prop} (hr : va_Run p l e R s m args below meth c H locs cells slots mc ms (F0 m pc ls st0) rest (tg_Ql E post (tg_A G H.size) av) (tg_A G H.size)) (hA : ∀ q, s.heap.size ≤ q → A q) (hw : tg_W E A s G H locs)
    (kk : ∀ (r : Int64) (u : tg_G) (H1 : Heap) (locs1 : List Loc), post r u → tg_W E A s u H1 locs1 → W p l e R s m args below meth c H1 locs1 (cells + mc) (slots + ms) Q (F0 m (pc + 3) ls (.long r :: rest))) : W p l e R s m args below meth c H locs cells slots Q (F0 m pc ls st0) := by
  have hF := tg_free hA hw
  refine va_calll hr hw.2.2 (fun q _ h => hF q h) hF (fun r u t H1 locs1 ht hvm hp hB hz1 hk1 hS => ?_)
  obtain ⟨b1, b2⟩ := hB
  rw [ht] at b1
  exact kk r u H1 locs1 hp ⟨b1, fun k x h => hF _ (b2 k x h), hS⟩
theorem tg_callxl {av : Array Value} {post : Int64 → tg_G → Prop} {pe : String → Prop} (hr : vx_Run p l e R s m args below meth c H locs cells slots mc ms (F0 m pc ls st0) rest (tg_Ql E post (tg_A G H.size) av) (tg_X E G pe (tg_A G H.size)) (tg_A G H.size)) (hA : ∀ q, s.heap.size ≤ q → A q) (hw : tg_W E A s G H locs)
    (kx : ∀ (x9 : String) (ce9 : Cell) (q9 : Addr) (H1 : Heap) (locs1 : List Loc), pe x9 → tg_W E A s G H1 locs1 → H1[q9]? = some ce9 → ce9.vm = .none → s.vm.findClass x9 = some ce9.cls → vx_W p l e R s m args below meth c H1 locs1 (cells + mc) (slots + ms) Q (F0 m pc ls rest) q9)
    (kk : ∀ (r : Int64) (u : tg_G) (H1 : Heap) (locs1 : List Loc), post r u → tg_W E A s u H1 locs1 → W p l e R s m args below meth c H1 locs1 (cells + mc) (slots + ms) Q (F0 m (pc + 3) ls (.long r :: rest))) : W p l e R s m args below meth c H locs cells slots Q (F0 m pc ls st0) := by
  have hF := tg_free hA hw
  refine vx_calll hr hw.2.2 (fun q _ h => hF q h) hF (fun q _ h => hF q h) (fun x9 ce9 q9 u t H1 locs1 ht hvm hp hB hz1 hk1 hS h1 h2 h3 => ?_) (fun r u t H1 locs1 ht hvm hp hB hz1 hk1 hS => ?_)
  · obtain ⟨hpe, b1, b2⟩ := hB
    rw [ht] at b1
    exact kx x9 ce9 q9 H1 locs1 hpe ⟨b1, fun k x h => hF _ (b2 k x h), hS⟩ h1 h2 h3
  · obtain ⟨b1, b2⟩ := hB
    rw [ht] at b1
    exact kk r u H1 locs1 hp ⟨b1, fun k x h => hF _ (b2 k x h), hS⟩
theorem tg_calld {av : Array Value} {post : UInt64 → tg_G → Prop} (hr : va_Run p l e R s m args below meth c H locs cells slots mc ms (F0 m pc ls st0) rest (tg_Qd E post (tg_A G H.size) av) (tg_A G H.size)) (hA : ∀ q, s.heap.size ≤ q → A q) (hw : tg_W E A s G H locs)
    (kk : ∀ (r : UInt64) (u : tg_G) (H1 : Heap) (locs1 : List Loc), post r u → tg_W E A s u H1 locs1 → W p l e R s m args below meth c H1 locs1 (cells + mc) (slots + ms) Q (F0 m (pc + 3) ls (.double r :: rest))) : W p l e R s m args below meth c H locs cells slots Q (F0 m pc ls st0) := by
  have hF := tg_free hA hw
  refine va_calld hr hw.2.2 (fun q _ h => hF q h) hF (fun r u t H1 locs1 ht hvm hp hB hz1 hk1 hS => ?_)
  obtain ⟨b1, b2⟩ := hB
  rw [ht] at b1
  exact kk r u H1 locs1 hp ⟨b1, fun k x h => hF _ (b2 k x h), hS⟩
theorem tg_callxd {av : Array Value} {post : UInt64 → tg_G → Prop} {pe : String → Prop} (hr : vx_Run p l e R s m args below meth c H locs cells slots mc ms (F0 m pc ls st0) rest (tg_Qd E post (tg_A G H.size) av) (tg_X E G pe (tg_A G H.size)) (tg_A G H.size)) (hA : ∀ q, s.heap.size ≤ q → A q) (hw : tg_W E A s G H locs)
    (kx : ∀ (x9 : String) (ce9 : Cell) (q9 : Addr) (H1 : Heap) (locs1 : List Loc), pe x9 → tg_W E A s G H1 locs1 → H1[q9]? = some ce9 → ce9.vm = .none → s.vm.findClass x9 = some ce9.cls → vx_W p l e R s m args below meth c H1 locs1 (cells + mc) (slots + ms) Q (F0 m pc ls rest) q9)
    (kk : ∀ (r : UInt64) (u : tg_G) (H1 : Heap) (locs1 : List Loc), post r u → tg_W E A s u H1 locs1 → W p l e R s m args below meth c H1 locs1 (cells + mc) (slots + ms) Q (F0 m (pc + 3) ls (.double r :: rest))) : W p l e R s m args below meth c H locs cells slots Q (F0 m pc ls st0) := by
  have hF := tg_free hA hw
  refine vx_calld hr hw.2.2 (fun q _ h => hF q h) hF (fun q _ h => hF q h) (fun x9 ce9 q9 u t H1 locs1 ht hvm hp hB hz1 hk1 hS h1 h2 h3 => ?_) (fun r u t H1 locs1 ht hvm hp hB hz1 hk1 hS => ?_)
  · obtain ⟨hpe, b1, b2⟩ := hB
    rw [ht] at b1
    exact kx x9 ce9 q9 H1 locs1 hpe ⟨b1, fun k x h => hF _ (b2 k x h), hS⟩ h1 h2 h3
  · obtain ⟨b1, b2⟩ := hB
    rw [ht] at b1
    exact kk r u H1 locs1 hp ⟨b1, fun k x h => hF _ (b2 k x h), hS⟩
theorem tg_callv {av : Array Value} {post : tg_G → Prop} (hr : va_Run p l e R s m args below meth c H locs cells slots mc ms (F0 m pc ls st0) rest (tg_Qv E post (tg_A G H.size) av) (tg_A G H.size)) (hA : ∀ q, s.heap.size ≤ q → A q) (hw : tg_W E A s G H locs)
    (kk : ∀ (u : tg_G) (H1 : Heap) (locs1 : List Loc), post u → tg_W E A s u H1 locs1 → W p l e R s m args below meth c H1 locs1 (cells + mc) (slots + ms) Q (F0 m (pc + 3) ls rest)) : W p l e R s m args below meth c H locs cells slots Q (F0 m pc ls st0) := by
  have hF := tg_free hA hw
  refine va_callv hr hw.2.2 (fun q _ h => hF q h) hF (fun u t H1 locs1 ht hvm hp hB hz1 hk1 hS => ?_)
  obtain ⟨b1, b2⟩ := hB
  rw [ht] at b1
  exact kk u H1 locs1 hp ⟨b1, fun k x h => hF _ (b2 k x h), hS⟩
theorem tg_callxv {av : Array Value} {post : tg_G → Prop} {pe : String → Prop} (hr : vx_Run p l e R s m args below meth c H locs cells slots mc ms (F0 m pc ls st0) rest (tg_Qv E post (tg_A G H.size) av) (tg_X E G pe (tg_A G H.size)) (tg_A G H.size)) (hA : ∀ q, s.heap.size ≤ q → A q) (hw : tg_W E A s G H locs)
    (kx : ∀ (x9 : String) (ce9 : Cell) (q9 : Addr) (H1 : Heap) (locs1 : List Loc), pe x9 → tg_W E A s G H1 locs1 → H1[q9]? = some ce9 → ce9.vm = .none → s.vm.findClass x9 = some ce9.cls → vx_W p l e R s m args below meth c H1 locs1 (cells + mc) (slots + ms) Q (F0 m pc ls rest) q9)
    (kk : ∀ (u : tg_G) (H1 : Heap) (locs1 : List Loc), post u → tg_W E A s u H1 locs1 → W p l e R s m args below meth c H1 locs1 (cells + mc) (slots + ms) Q (F0 m (pc + 3) ls rest)) : W p l e R s m args below meth c H locs cells slots Q (F0 m pc ls st0) := by
  have hF := tg_free hA hw
  refine vx_callv hr hw.2.2 (fun q _ h => hF q h) hF (fun q _ h => hF q h) (fun x9 ce9 q9 u t H1 locs1 ht hvm hp hB hz1 hk1 hS h1 h2 h3 => ?_) (fun u t H1 locs1 ht hvm hp hB hz1 hk1 hS => ?_)
  · obtain ⟨hpe, b1, b2⟩ := hB
    rw [ht] at b1
    exact kx x9 ce9 q9 H1 locs1 hpe ⟨b1, fun k x h => hF _ (b2 k x h), hS⟩ h1 h2 h3
  · obtain ⟨b1, b2⟩ := hB
    rw [ht] at b1
    exact kk u H1 locs1 hp ⟨b1, fun k x h => hF _ (b2 k x h), hS⟩
theorem tg_callr {av : Array Value} {pr : tg_G → Nat → Prop} (hr : va_Run p l e R s m args below meth c H locs cells slots mc ms (F0 m pc ls st0) rest (tg_Qr E pr (tg_A G H.size) av) (tg_A G H.size)) (hA : ∀ q, s.heap.size ≤ q → A q) (hw : tg_W E A s G H locs)
    (kk : ∀ (u : tg_G) (ra : Nat) (H1 : Heap) (locs1 : List Loc), pr u ra → tg_W E A s u H1 locs1 → W p l e R s m args below meth c H1 locs1 (cells + mc) (slots + ms) Q (F0 m (pc + 3) ls (.ref ra :: rest))) : W p l e R s m args below meth c H locs cells slots Q (F0 m pc ls st0) := by
  have hF := tg_free hA hw
  refine va_callr hr hw.2.2 (fun q _ h => hF q h) hF (fun u ra t H1 locs1 ht hvm hp hB hz1 hk1 hS => ?_)
  obtain ⟨hpr, b1, b2⟩ := hB
  rw [ht] at b1
  exact kk u ra H1 locs1 hpr ⟨b1, fun k x h => hF _ (b2 k x h), hS⟩
theorem tg_get (hx : p.tables.exec = Jvm.exec) (hb : c.code = cc) (hown : s.vm.findClass own = some m.cls) (hAm : rc_Amb E A s s.heap) (hw : tg_W E A s G H locs) (hlay : rc_Lay C T N) {fs : List Value} (he : G t = some (a, .inr (ci, fs))) (hc : vwCl[ci]? = some (C, T, N)) (k : Nat) (hk : k < N) (hlink : Cond.fieldLink own index ref (T k).2.1 (T k).2.2.1 ∈ lw_tbl) (hsame : ∀ x, s.fieldFound? (T k).1 (T k).2.1 (T k).2.2.1 = some x → s.fieldFound? ref (T k).2.1 (T k).2.2.1 = some x) {v : Value} (hv : fs[k]? = some v) (hdg : decode cc pc = .ok (.getfield index, 3)) (kk : W p l e R s m args below meth c H locs cells slots Q (F0 m (pc + 3) ls (v :: rest))) : W p l e R s m args below meth c H locs cells slots Q (F0 m pc ls (.ref a :: rest)) := by
  obtain ⟨ws, q0, y1, y3, -, y6⟩ := tg_use hw he
  exact rc_get hx hb hown hAm y1 hlay q0 y3 hc k hk hlink hsame hv hdg kk
theorem tg_getN (hx : p.tables.exec = Jvm.exec) (hb : c.code = cc) (hown : s.vm.findClass own = some m.cls) (hAm : rc_Amb E A s s.heap) (hw : tg_W E A s G H locs) (hlay : rc_Lay C T N) {fs : List Value} (he : G t = some (a, .inr (ci, fs))) (hc : vwCl[ci]? = some (C, T, N)) (k : Nat) (hk : k < N) (hlink : Cond.fieldLinkNest own index ref (T k).2.1 (T k).2.2.1 host ∈ lw_tbl) (hsame : ∀ x, s.fieldFound? (T k).1 (T k).2.1 (T k).2.2.1 = some x → s.fieldFound? ref (T k).2.1 (T k).2.2.1 = some x) {v : Value} (hv : fs[k]? = some v) (hdg : decode cc pc = .ok (.getfield index, 3)) (kk : W p l e R s m args below meth c H locs cells slots Q (F0 m (pc + 3) ls (v :: rest))) : W p l e R s m args below meth c H locs cells slots Q (F0 m pc ls (.ref a :: rest)) := by
  obtain ⟨ws, q0, y1, y3, -, y6⟩ := tg_use hw he
  exact rc_getN hx hb hown hAm y1 hlay q0 y3 hc k hk hlink hsame hv hdg kk
theorem tg_put (hx : p.tables.exec = Jvm.exec) (hb : c.code = cc) (hown : s.vm.findClass own = some m.cls) (hAm : rc_Amb E A s s.heap) (hw : tg_W E A s G H locs) (hlay : rc_Lay C T N) (ty0 : Nat → FieldType) (hty : ∀ k, k < N → parseFieldDescriptor (T k).2.2.1 = some (ty0 k)) (hnm : ∀ a, a < N → ∀ b, b < N → a ≠ b → (T a).2.1 ≠ (T b).2.1) {fs : List Value} (he : G t = some (a, .inr (ci, fs))) (hc : vwCl[ci]? = some (C, T, N)) (k : Nat) (hk : k < N) (hlink : Cond.fieldLink own index ref (T k).2.1 (T k).2.2.1 ∈ lw_tbl) (hsame : ∀ x, s.fieldFound? (T k).1 (T k).2.1 (T k).2.2.1 = some x → s.fieldFound? ref (T k).2.1 (T k).2.2.1 = some x) (hfin : (T k).2.2.2 = false) {v : Value} (hn : narrow (ty0 k) v = v) (hfit : fits (ty0 k) v = true) (hl : k < fs.length) (hdg : decode cc pc = .ok (.putfield index, 3)) (kk : ∀ (G1 : tg_G) (H1 : Heap) (locs1 : List Loc), G1 t = some (a, .inr (ci, fs.set k v)) → (∀ t9 : Nat, t9 ≠ t → G1 t9 = G t9) → tg_W E A s G1 H1 locs1 → W p l e R s m args below meth c H1 locs1 cells slots Q (F0 m (pc + 3) ls rest)) : W p l e R s m args below meth c H locs cells slots Q (F0 m pc ls (v :: .ref a :: rest)) := by
  obtain ⟨ws, q0, y1, y3, y4, y6⟩ := tg_use hw he
  exact rc_put hx hb hown hAm y1 hlay ty0 hty hnm q0 y3 hc k hk hlink hsame hfin hn hfit hl _ rfl hdg (fun H1 locs1 g => kk _ H1 locs1 tg_up_at (fun t9 g9 => tg_up_ne g9) (y4 _ _ _ g))
theorem tg_putN (hx : p.tables.exec = Jvm.exec) (hb : c.code = cc) (hown : s.vm.findClass own = some m.cls) (hAm : rc_Amb E A s s.heap) (hw : tg_W E A s G H locs) (hlay : rc_Lay C T N) (ty0 : Nat → FieldType) (hty : ∀ k, k < N → parseFieldDescriptor (T k).2.2.1 = some (ty0 k)) (hnm : ∀ a, a < N → ∀ b, b < N → a ≠ b → (T a).2.1 ≠ (T b).2.1) {fs : List Value} (he : G t = some (a, .inr (ci, fs))) (hc : vwCl[ci]? = some (C, T, N)) (k : Nat) (hk : k < N) (hlink : Cond.fieldLinkNest own index ref (T k).2.1 (T k).2.2.1 host ∈ lw_tbl) (hsame : ∀ x, s.fieldFound? (T k).1 (T k).2.1 (T k).2.2.1 = some x → s.fieldFound? ref (T k).2.1 (T k).2.2.1 = some x) (hfin : (T k).2.2.2 = false) {v : Value} (hn : narrow (ty0 k) v = v) (hfit : fits (ty0 k) v = true) (hl : k < fs.length) (hdg : decode cc pc = .ok (.putfield index, 3)) (kk : ∀ (G1 : tg_G) (H1 : Heap) (locs1 : List Loc), G1 t = some (a, .inr (ci, fs.set k v)) → (∀ t9 : Nat, t9 ≠ t → G1 t9 = G t9) → tg_W E A s G1 H1 locs1 → W p l e R s m args below meth c H1 locs1 cells slots Q (F0 m (pc + 3) ls rest)) : W p l e R s m args below meth c H locs cells slots Q (F0 m pc ls (v :: .ref a :: rest)) := by
  obtain ⟨ws, q0, y1, y3, y4, y6⟩ := tg_use hw he
  exact rc_putN hx hb hown hAm y1 hlay ty0 hty hnm q0 y3 hc k hk hlink hsame hfin hn hfit hl _ rfl hdg (fun H1 locs1 g => kk _ H1 locs1 tg_up_at (fun t9 g9 => tg_up_ne g9) (y4 _ _ _ g))
theorem tg_putF (hx : p.tables.exec = Jvm.exec) (hb : c.code = cc) (hown : s.vm.findClass own = some m.cls) (hAm : rc_Amb E A s s.heap) (hw : tg_W E A s G H locs) (hlay : rc_Lay C T N) (ty0 : Nat → FieldType) (hty : ∀ k, k < N → parseFieldDescriptor (T k).2.2.1 = some (ty0 k)) (hnm : ∀ a, a < N → ∀ b, b < N → a ≠ b → (T a).2.1 ≠ (T b).2.1) {fs : List Value} (he : G t = some (a, .inr (ci, fs))) (hc : vwCl[ci]? = some (C, T, N)) (k : Nat) (hk : k < N) (hlink : Cond.fieldLink own index ref (T k).2.1 (T k).2.2.1 ∈ lw_tbl) (hsame : ∀ x, s.fieldFound? (T k).1 (T k).2.1 (T k).2.2.1 = some x → s.fieldFound? ref (T k).2.1 (T k).2.2.1 = some x) (hfin : (T k).2.2.2 = true) (hin2 : meth.name = "<init>") (hdecl : (T k).1 = own) {v : Value} (hn : narrow (ty0 k) v = v) (hfit : fits (ty0 k) v = true) (hl : k < fs.length) (hdg : decode cc pc = .ok (.putfield index, 3)) (kk : ∀ (G1 : tg_G) (H1 : Heap) (locs1 : List Loc), G1 t = some (a, .inr (ci, fs.set k v)) → (∀ t9 : Nat, t9 ≠ t → G1 t9 = G t9) → tg_W E A s G1 H1 locs1 → W p l e R s m args below meth c H1 locs1 cells slots Q (F0 m (pc + 3) ls rest)) : W p l e R s m args below meth c H locs cells slots Q (F0 m pc ls (v :: .ref a :: rest)) := by
  obtain ⟨ws, q0, y1, y3, y4, y6⟩ := tg_use hw he
  exact rc_putF hx hb hown hAm y1 hlay ty0 hty hnm q0 y3 hc k hk hlink hsame hfin hin2 hdecl hn hfit hl _ rfl hdg (fun H1 locs1 g => kk _ H1 locs1 tg_up_at (fun t9 g9 => tg_up_ne g9) (y4 _ _ _ g))
theorem tg_iald (hx : p.tables.exec = Jvm.exec) (hb : c.code = cc) (hAm : rc_Amb E A s s.heap) (hw : tg_W E A s G H locs) {n : Nat} {f : Nat → Int32} (ha : G t = some (a, .inl (E.2.1 0, n, .inl f))) {i : Int32} (hin : vp_in i n) (hdg : decode cc pc = .ok (.iaload, 1)) (kk : W p l e R s m args below meth c H locs cells slots Q (F0 m (pc + 1) ls (.int (f i.toNatClampNeg) :: rest))) : W p l e R s m args below meth c H locs cells slots Q (F0 m pc ls (.int i :: .ref a :: rest)) := by
  obtain ⟨ws, q0, y1, y3, -, y6⟩ := tg_use hw ha
  exact rc_iald hx hb hAm y1 q0 y3 hin hdg kk
theorem tg_iast (hx : p.tables.exec = Jvm.exec) (hb : c.code = cc) (hAm : rc_Amb E A s s.heap) (hw : tg_W E A s G H locs) {n : Nat} {f : Nat → Int32} (ha : G t = some (a, .inl (E.2.1 0, n, .inl f))) {i : Int32} {x : Int32} (hin : vp_in i n) (hdg : decode cc pc = .ok (.iastore, 1)) (kk : ∀ (G1 : tg_G) (H1 : Heap) (locs1 : List Loc), G1 t = some (a, .inl (E.2.1 0, n, .inl (upd f i.toNatClampNeg x))) → (∀ t9 : Nat, t9 ≠ t → G1 t9 = G t9) → tg_W E A s G1 H1 locs1 → W p l e R s m args below meth c H1 locs1 cells slots Q (F0 m (pc + 1) ls rest)) : W p l e R s m args below meth c H locs cells slots Q (F0 m pc ls (.int x :: .int i :: .ref a :: rest)) := by
  obtain ⟨ws, q0, y1, y3, y4, y6⟩ := tg_use hw ha
  exact rc_iast hx hb hAm y1 q0 y3 hin _ rfl hdg (fun H1 locs1 g => kk _ H1 locs1 tg_up_at (fun t9 g9 => tg_up_ne g9) (y4 _ _ _ g))
theorem tg_qald (hx : p.tables.exec = Jvm.exec) (hb : c.code = cc) (hAm : rc_Amb E A s s.heap) (hw : tg_W E A s G H locs) {n : Nat} {f : Nat → Option Nat} (ha : G t = some (a, .inl (E.2.1 2, n, .inr (.inr (.inr (.inr f)))))) {i : Int32} (hin : vp_in i n) (hdg : decode cc pc = .ok (.aaload, 1)) (kk : W p l e R s m args below meth c H locs cells slots Q (F0 m (pc + 1) ls (va_rf (f i.toNatClampNeg) :: rest))) : W p l e R s m args below meth c H locs cells slots Q (F0 m pc ls (.int i :: .ref a :: rest)) := by
  obtain ⟨ws, q0, y1, y3, -, y6⟩ := tg_use hw ha
  exact rc_qald hx hb hAm y1 q0 y3 hin hdg kk
theorem tg_rald (hx : p.tables.exec = Jvm.exec) (hb : c.code = cc) (hAm : rc_Amb E A s s.heap) (hw : tg_W E A s G H locs) {n : Nat} {f : Nat → Option Nat} (ha : G t = some (a, .inl (E.2.1 1, n, .inr (.inr (.inr (.inr f)))))) {i : Int32} (hin : vp_in i n) (hdg : decode cc pc = .ok (.aaload, 1)) (kk : W p l e R s m args below meth c H locs cells slots Q (F0 m (pc + 1) ls (va_rf (f i.toNatClampNeg) :: rest))) : W p l e R s m args below meth c H locs cells slots Q (F0 m pc ls (.int i :: .ref a :: rest)) := by
  obtain ⟨ws, q0, y1, y3, -, y6⟩ := tg_use hw ha
  exact rc_rald hx hb hAm y1 q0 y3 hin hdg kk
theorem tg_qast (hx : p.tables.exec = Jvm.exec) (hb : c.code = cc) (hAm : rc_Amb E A s s.heap) (hw : tg_W E A s G H locs) {n v : Nat} {f : Nat → Option Nat} (ha : G t = some (a, .inl (E.2.1 2, n, .inr (.inr (.inr (.inr f)))))) {vs : List Value} {tv : Nat} (hv : G tv = some (v, .inr (ci, vs))) (hc : vwCl[ci]? = some (C, T, N)) (hca : Cond.castable C "java/lang/Object" ∈ lw_tbl) {i : Int32} (hin : vp_in i n) (hdg : decode cc pc = .ok (.aastore, 1)) (kk : ∀ (G1 : tg_G) (H1 : Heap) (locs1 : List Loc), G1 t = some (a, .inl (E.2.1 2, n, .inr (.inr (.inr (.inr (va_up f i.toNatClampNeg (some v))))))) → (∀ t9 : Nat, t9 ≠ t → G1 t9 = G t9) → tg_W E A s G1 H1 locs1 → W p l e R s m args below meth c H1 locs1 cells slots Q (F0 m (pc + 1) ls rest)) : W p l e R s m args below meth c H locs cells slots Q (F0 m pc ls (.ref v :: .int i :: .ref a :: rest)) := by
  obtain ⟨ws, q0, y1, y3, y4, y6⟩ := tg_use hw ha
  obtain ⟨qk, y5⟩ := y6 _ _ hv
  exact rc_qast hx hb hAm y1 q0 y3 qk y5 hc hca hin _ rfl hdg (fun H1 locs1 g => kk _ H1 locs1 tg_up_at (fun t9 g9 => tg_up_ne g9) (y4 _ _ _ g))
theorem tg_alen (hx : p.tables.exec = Jvm.exec) (hb : c.code = cc) (hAm : rc_Amb E A s s.heap) (hw : tg_W E A s G H locs) (t0 : Nat) {cA : ClassId} {z : vp_A} (ha : G t = some (a, .inl (cA, z))) {ty : FieldType} (ht : (rc_tys E)[t0]? = some (cA, ty)) (v : Int32) (hv : Int32.ofNat z.1 = v) (hdg : decode cc pc = .ok (.arraylength, 1)) (kk : W p l e R s m args below meth c H locs cells slots Q (F0 m (pc + 1) ls (.int v :: rest))) : W p l e R s m args below meth c H locs cells slots Q (F0 m pc ls (.ref a :: rest)) := by
  obtain ⟨ws, q0, y1, y3, -, y6⟩ := tg_use hw ha
  exact rc_alen hx hb hAm y1 q0 t0 y3 ht v hv hdg kk
theorem tg_new (tn : Nat) (hx : p.tables.exec = Jvm.exec) (hb : c.code = cc) (hown : s.vm.findClass own = some m.cls) (hAm : rc_Amb E A s s.heap) (hA : ∀ q, s.heap.size ≤ q → A q) (hw : tg_W E A s G H locs) (hlay : rc_Lay C T N) (ty0 : Nat → FieldType) (hty : ∀ k, k < N → parseFieldDescriptor (T k).2.2.1 = some (ty0 k)) (hc : vwCl[ci]? = some (C, T, N)) (h1 : Cond.classLink own index C ∈ lw_tbl) (h2 : Cond.instantiable C N ∈ lw_tbl) (h3 : Cond.initialized C ∈ lw_tbl) (fs : List Value) (hfs : (List.range N).map (fun j => defaultValue (ty0 j)) = fs) (hcells : cells + 1 ≤ R.cells) (hslots : slots + N ≤ R.slots) (hdg : decode cc pc = .ok (.new index, 3)) (kk : ∀ (q : Nat) (G1 : tg_G) (H1 : Heap), G1 tn = some (q, .inr (ci, fs)) → (∀ t9 : Nat, t9 ≠ tn → G1 t9 = G t9) → tg_W E A s G1 H1 locs → W p l e R s m args below meth c H1 locs (cells + 1) (slots + N) Q (F0 m (pc + 3) ls (.ref q :: rest))) : W p l e R s m args below meth c H locs cells slots Q (F0 m pc ls rest) := by
  obtain ⟨ws, y1, y6, y4⟩ := tg_add hw
  exact rc_new hx hb hown hAm hA y1 hlay ty0 hty hc h1 h2 h3 fs hfs hcells hslots hdg (fun q H1 g => kk q _ H1 tg_up_at (fun t9 g9 => tg_up_ne g9) (y4 tn _ _ _ _ g))
theorem tg_qnew (tn : Nat) (hx : p.tables.exec = Jvm.exec) (hb : c.code = cc) (hown : s.vm.findClass own = some m.cls) (hAm : rc_Amb E A s s.heap) (hA : ∀ q, s.heap.size ≤ q → A q) (hw : tg_W E A s G H locs) (h1 : Cond.classLink own index "java/lang/Object" ∈ lw_tbl) (h2 : Cond.arrayOver (.object "java/lang/Object") ∈ lw_tbl) {n : Int32} (N1 : Nat) (hn : ¬ n < 0) (hN : n.toNatClampNeg = N1) (hbytes : N1 * 4 ≤ 536870912) (hcells : cells + 1 ≤ R.cells) (hslots : slots + N1 ≤ R.slots) (hdg : decode cc pc = .ok (.anewarray index, 3)) (kk : ∀ (q : Nat) (G1 : tg_G) (H1 : Heap), G1 tn = some (q, .inl (E.2.1 2, N1, .inr (.inr (.inr (.inr (fun _ => none)))))) → (∀ t9 : Nat, t9 ≠ tn → G1 t9 = G t9) → tg_W E A s G1 H1 locs → W p l e R s m args below meth c H1 locs (cells + 1) (slots + N1) Q (F0 m (pc + 3) ls (.ref q :: rest))) : W p l e R s m args below meth c H locs cells slots Q (F0 m pc ls (.int n :: rest)) := by
  obtain ⟨ws, y1, y6, y4⟩ := tg_add hw
  exact rc_qnew hx hb hown hAm hA y1 h1 h2 N1 hn hN hbytes hcells hslots hdg (fun q H1 g => kk q _ H1 tg_up_at (fun t9 g9 => tg_up_ne g9) (y4 tn _ _ _ _ g))
theorem tg_inew (tn : Nat) (hx : p.tables.exec = Jvm.exec) (hb : c.code = cc) (hAm : rc_Amb E A s s.heap) (hA : ∀ q, s.heap.size ≤ q → A q) (hw : tg_W E A s G H locs) (hy : Cond.arrayClass .int ∈ lw_tbl) {n : Int32} (N1 : Nat) (hn : ¬ n < 0) (hN : n.toNatClampNeg = N1) (hbytes : N1 * componentBytes .int ≤ 536870912) (hcells : cells + 1 ≤ R.cells) (hslots : slots + N1 ≤ R.slots) (hdg : decode cc pc = .ok (.newarray .int, 2)) (kk : ∀ (q : Nat) (G1 : tg_G) (H1 : Heap), G1 tn = some (q, .inl (E.2.1 0, N1, .inl (fun _ => 0))) → (∀ t9 : Nat, t9 ≠ tn → G1 t9 = G t9) → tg_W E A s G1 H1 locs → W p l e R s m args below meth c H1 locs (cells + 1) (slots + N1) Q (F0 m (pc + 2) ls (.ref q :: rest))) : W p l e R s m args below meth c H locs cells slots Q (F0 m pc ls (.int n :: rest)) := by
  obtain ⟨ws, y1, y6, y4⟩ := tg_add hw
  exact rc_inew hx hb hAm hA y1 hy N1 hn hN hbytes hcells hslots hdg (fun q H1 g => kk q _ H1 tg_up_at (fun t9 g9 => tg_up_ne g9) (y4 tn _ _ _ _ g))
theorem tg_getC (hx : p.tables.exec = Jvm.exec) (hb : c.code = cc) (hml : c.maxLocals = ls.size) (hown : s.vm.findClass own = some m.cls) (hAm : rc_Amb E A s s.heap) (hw : tg_W E A s G H locs) (h1 : Cond.methodLink own index ⟨"java/lang/Object", "getClass", "()Ljava/lang/Class;"⟩ ∈ lw_tbl) (h2 : Cond.declares ⟨"java/lang/Object", "getClass", "()Ljava/lang/Class;"⟩ ∈ lw_tbl) (h3 : Cond.selects "[Ljava/lang/Object;" ⟨"java/lang/Object", "getClass", "()Ljava/lang/Class;"⟩ ⟨"java/lang/Object", "getClass", "()Ljava/lang/Class;"⟩ ∈ lw_tbl) (h4 : Cond.instanceMethod ⟨"java/lang/Object", "getClass", "()Ljava/lang/Class;"⟩ ∈ lw_tbl) (h5 : Cond.native ⟨"java/lang/Object", "getClass", "()Ljava/lang/Class;"⟩ ∈ lw_tbl) {aa n : Nat} {f : Nat → Option Nat} (ha : G t = some (aa, .inl (E.2.1 2, n, .inr (.inr (.inr (.inr f)))))) (hframes : 1 ≤ R.frames) (hlocals : (rest.map fun v => v.category).sum + 14 ≤ R.locals) (hdg : decode cc pc = .ok (.invokevirtual index, 3)) (k : W p l e R s m args below meth c H locs cells slots Q (F0 m (pc + 3) ls (.ref (E.2.2 300) :: rest))) : W p l e R s m args below meth c H locs cells slots Q (F0 m pc ls (.ref aa :: rest)) := by
  obtain ⟨ws, q0, y1, y3, -, y6⟩ := tg_use hw ha
  exact rc_getC hx hb hml hown hAm y1 h1 h2 h3 h4 h5 q0 y3 hframes hlocals hdg k
/-- the cells of a row of objects, by their class -/
def tg_els (G : tg_G) (ci n : Nat) (f : Nat → Option Nat) : Prop := ∀ i : Nat, i < n → ∀ y : Nat, f i = some y → ∃ (t : Nat) (vs : List Value), G t = some (y, .inr (ci, vs))
theorem tg_copy (hx : p.tables.exec = Jvm.exec) (hb : c.code = cc) (hml : c.maxLocals = ls.size) (hown : s.vm.findClass own = some m.cls) (hAm : rc_Amb E A s s.heap) (hw : tg_W E A s G H locs) (h1 : Cond.methodLink own index arraycopyName ∈ lw_tbl) (h2 : Cond.native arraycopyName ∈ lw_tbl) (h3 : Cond.static arraycopyName ∈ lw_tbl) (h4 : Cond.initialized "java/lang/System" ∈ lw_tbl) {t0 : Nat} {a0 a1 n0 n1 : Nat} {f g : Nat → Option Nat} (ha0 : G t0 = some (a0, .inl (E.2.1 2, n0, .inr (.inr (.inr (.inr f)))))) (ha1 : G t = some (a1, .inl (E.2.1 2, n1, .inr (.inr (.inr (.inr g)))))) {n : Int32} (hn : ¬ n < 0) (h5 : n.toNatClampNeg ≤ n0) (h6 : n.toNatClampNeg ≤ n1) {C : String} (hci : vwCl[ci]? = some (C, T, N)) (hel : tg_els G ci n.toNatClampNeg f) (hca : Cond.castable C "java/lang/Object" ∈ lw_tbl)
    (hframes : 1 ≤ R.frames) (hlocals : (rest.map fun v => v.category).sum + (nativeFrameWords "java/lang/System" "arraycopy" 5 + 11) ≤ R.locals) (hdg : decode cc pc = .ok (.invokestatic index, 3))
    (kk : ∀ (G1 : tg_G) (H1 : Heap) (locs1 : List Loc), G1 t = some (a1, .inl (E.2.1 2, n1, .inr (.inr (.inr (.inr (va_cpy f g 0 0 n.toNatClampNeg)))))) → (∀ t9 : Nat, t9 ≠ t → G1 t9 = G t9) → tg_W E A s G1 H1 locs1 → W p l e R s m args below meth c H1 locs1 cells slots Q (F0 m (pc + 3) ls rest)) : W p l e R s m args below meth c H locs cells slots Q (F0 m pc ls (.int n :: .int 0 :: .ref a1 :: .int 0 :: .ref a0 :: rest)) := by
  have e0 : (0 : Int32).toNatClampNeg = 0 := rfl
  obtain ⟨ws, q1, g1, g3, g4, g6⟩ := tg_use hw ha1
  obtain ⟨q0, g5⟩ := g6 _ _ ha0
  refine va_copyq (E0 := "java/lang/Object") (E1 := "java/lang/Object") (C := C) (sp := 0) (dp := 0) hx hb hml hown (hAm.wd h1 rfl rfl) (hAm.wd h2 rfl rfl) (hAm.wd h3 rfl rfl) (hAm.wd h4 rfl rfl) hAm.K g1.1 g1.2.1 g1.2.2 q0 q1 2 2 g5 g3 rfl rfl (by decide) (by decide) hn (by rw [e0]; omega) (by rw [e0]; omega) (fun i hi y hy => ?_) (vb_asgC (hAm.nw hca rfl)) hframes hlocals hdg (fun H1 locs1 hP hD hS => kk _ H1 locs1 tg_up_at (fun t9 g9 => tg_up_ne g9) (g4 _ _ _ ⟨hP, hD, hS⟩))
  rw [e0, Nat.zero_add] at hy
  obtain ⟨tv, vs, hv⟩ := hel i hi y hy
  obtain ⟨qv, hq⟩ := g6 _ _ hv
  exact va_recv hAm.K g1.1 hci hq
/-- a cast to the cell's own class -/
theorem tg_castS (hx : p.tables.exec = Jvm.exec) (hb : c.code = cc) (hown : s.vm.findClass own = some m.cls) (hAm : rc_Amb E A s s.heap) (hw : tg_W E A s G H locs) (h1 : Cond.classLink own index C ∈ lw_tbl) {vs : List Value} (hv : G t = some (a, .inr (ci, vs))) (hc : vwCl[ci]? = some (C, T, N)) (hdg : decode cc pc = .ok (.checkcast index, 3))
    (kk : W p l e R s m args below meth c H locs cells slots Q (F0 m (pc + 3) ls (.ref a :: rest))) : W p l e R s m args below meth c H locs cells slots Q (F0 m pc ls (.ref a :: rest)) :=
  va_castS hx hb hown (hAm.wd h1 rfl rfl) ((hAm.K.1 ci _ hc).2) (tg_recv hAm hw hv hc) hdg kk
theorem tg_castY (hx : p.tables.exec = Jvm.exec) (hb : c.code = cc) {D9 : String} (hown : s.vm.findClass own = some m.cls) (hAm : rc_Amb E A s s.heap) (hw : tg_W E A s G H locs) (h1 : Cond.classLink own index D9 ∈ lw_tbl) (h2 : Cond.castable C D9 ∈ lw_tbl) {vs : List Value} (hv : G t = some (a, .inr (ci, vs))) (hc : vwCl[ci]? = some (C, T, N)) (hdg : decode cc pc = .ok (.checkcast index, 3))
    (kk : W p l e R s m args below meth c H locs cells slots Q (F0 m (pc + 3) ls (.ref a :: rest))) : W p l e R s m args below meth c H locs cells slots Q (F0 m pc ls (.ref a :: rest)) :=
  va_castY hx hb hown (hAm.wd h1 rfl rfl) (hAm.nw h2 rfl) (tg_recv hAm hw hv hc) hdg kk
theorem tg_thr {cls tx : String} {is ik ic : Nat} {pe : String → Prop} {Qc : Array Value → State → Outcome → State → Prop} (hx : p.tables.exec = Jvm.exec) (hb : c.code = cc) (hst : l.stackTraces = false) (hown : s.vm.findClass RX6 = some m.cls) (hAm : rc_Amb E A s s.heap) {u : tg_G} (hw : tg_W E A s u H locs) {G0 : tg_G} (h0 : ∀ t x, G0 t = some x → u t = some x) (hstr : ((RX6, is, tx) : String × Nat × String) ∈ rc_strs) (htab : ∀ x ∈ c.exceptionTable.toList, False) (hsz : ls.size = c.maxLocals) (hcls : Bundle.fit cls = true) (hk : Cond.classLink RX6 ik cls ∈ lw_tbl) (hini : Cond.initialized cls ∈ lw_tbl) (hat : ∀ w : Cond, w ∈ vx_atS RX6 ic cls ["java/lang/RuntimeException", "java/lang/Exception"] → w ∈ lw_tbl ∧ rc_st w = true ∧ w.onTables = true) (hgood : ∀ w : Cond, w ∈ Cond.classLink RX6 ik cls :: Cond.initialized cls :: vx_atS RX6 ic cls ["java/lang/RuntimeException", "java/lang/Exception"] → vx_ot w = true) (d0 : decode cc pc = .ok (.new ik, 3)) (d3 : decode cc (pc + 3) = .ok (.dup, 1)) (d4 : decode cc (pc + 4) = .ok (.ldc is, 2)) (d6 : decode cc (pc + 6) = .ok (.invokespecial ic, 3)) (d9 : decode cc (pc + 9) = .ok (.athrow, 1)) (hF : 5 < R.frames) (hL : (rest.map fun v => v.category).sum + 82 ≤ R.locals) (hC : cells + 1 ≤ R.cells) (hSl : slots + 6 ≤ R.slots) (hlocks : meth.locks = false) (hpe : pe cls) (hc : cells + 1 ≤ mc) (hs : slots + 6 ≤ ms) : W p l e R s m args below meth c H locs cells slots (vx_MQ below Qc (tg_X E G0 pe A) args s mc ms A) (F0 m pc ls rest) := by
  obtain ⟨sa, hsa⟩ := hAm.1.2.2.1 _ hstr
  obtain ⟨⟨⟨N, hN⟩, hi, hP⟩, hA, hS⟩ := hw
  refine vx_throwS (names := ["java/lang/RuntimeException", "java/lang/Exception"]) (A := A) hx hb hst hown hcls (by decide +kernel) (hAm.wd hk rfl rfl) (hAm.wd hini rfl rfl) hsa (fun w h => hAm.wd (hat w h).1 (hat w h).2.1 (hat w h).2.2) hgood hAm.2.1.1 hAm.2.1.2 hS hsz d0 d3 d4 d6 d9 (fun x h => (htab x h).elim) hF (by show _ + (13 * (2 + 1) + 43) ≤ _; omega) hC hSl hlocks (fun t h1 h2 h3 => ?_) hS.2.2 hc hs
  refine ⟨(), trivial, ⟨hpe, ⟨⟨N, fun k hk => ?_⟩, fun k k' x x' g g' => hi k k' x x' (h0 k x g) (h0 k' x' g'), fun k x g => ?_⟩, fun k x g => hA k x (h0 k x g)⟩, Nat.le_trans hS.1 h2, fun q h4 h5 => (h3 q (Nat.lt_of_lt_of_le h4 hS.1)).trans (hS.2.1 q h4 h5)⟩
  · cases g : G0 k with
    | none => rfl
    | some x =>
      have h9 := h0 k x g
      rw [hN k hk] at h9
      cases h9
  · have hl := hP k x (h0 k x g)
    exact hl.kept (h3 x.1 hl.lt)
theorem tg_throwA {tx : String} {is : Nat} {pe : String → Prop} {Qc : Array Value → State → Outcome → State → Prop} (hx : p.tables.exec = Jvm.exec) (hb : c.code = cc) (hst : l.stackTraces = false) (hown : s.vm.findClass RX6 = some m.cls) (hAm : rc_Amb E A s s.heap) {u : tg_G} (hw : tg_W E A s u H locs) {G0 : tg_G} (h0 : ∀ t x, G0 t = some x → u t = some x) (hstr : ((RX6, is, tx) : String × Nat × String) ∈ rc_strs) (htab : ∀ x ∈ c.exceptionTable.toList, False) (hsz : ls.size = c.maxLocals) (d0 : decode cc pc = .ok (.new 81, 3)) (d3 : decode cc (pc + 3) = .ok (.dup, 1)) (d4 : decode cc (pc + 4) = .ok (.ldc is, 2)) (d6 : decode cc (pc + 6) = .ok (.invokespecial 85, 3)) (d9 : decode cc (pc + 9) = .ok (.athrow, 1)) (hF : 5 < R.frames) (hL : (rest.map fun v => v.category).sum + 82 ≤ R.locals) (hC : cells + 1 ≤ R.cells) (hSl : slots + 6 ≤ R.slots) (hlocks : meth.locks = false) (hpe : pe "java/lang/IllegalArgumentException") (hc : cells + 1 ≤ mc) (hs : slots + 6 ≤ ms) : W p l e R s m args below meth c H locs cells slots (vx_MQ below Qc (tg_X E G0 pe A) args s mc ms A) (F0 m pc ls rest) :=
  tg_thr hx hb hst hown hAm hw h0 hstr htab hsz (by decide +kernel) (List.mem_of_getElem? (i := 325) (by decide +kernel)) (List.mem_of_getElem? (i := 66) (by decide +kernel)) rc_atA rc_gdA d0 d3 d4 d6 d9 hF hL hC hSl hlocks hpe hc hs
theorem tg_throwS {tx : String} {is : Nat} {pe : String → Prop} {Qc : Array Value → State → Outcome → State → Prop} (hx : p.tables.exec = Jvm.exec) (hb : c.code = cc) (hst : l.stackTraces = false) (hown : s.vm.findClass RX6 = some m.cls) (hAm : rc_Amb E A s s.heap) {u : tg_G} (hw : tg_W E A s u H locs) {G0 : tg_G} (h0 : ∀ t x, G0 t = some x → u t = some x) (hstr : ((RX6, is, tx) : String × Nat × String) ∈ rc_strs) (htab : ∀ x ∈ c.exceptionTable.toList, False) (hsz : ls.size = c.maxLocals) (d0 : decode cc pc = .ok (.new 92, 3)) (d3 : decode cc (pc + 3) = .ok (.dup, 1)) (d4 : decode cc (pc + 4) = .ok (.ldc is, 2)) (d6 : decode cc (pc + 6) = .ok (.invokespecial 96, 3)) (d9 : decode cc (pc + 9) = .ok (.athrow, 1)) (hF : 5 < R.frames) (hL : (rest.map fun v => v.category).sum + 82 ≤ R.locals) (hC : cells + 1 ≤ R.cells) (hSl : slots + 6 ≤ R.slots) (hlocks : meth.locks = false) (hpe : pe "java/lang/IllegalStateException") (hc : cells + 1 ≤ mc) (hs : slots + 6 ≤ ms) : W p l e R s m args below meth c H locs cells slots (vx_MQ below Qc (tg_X E G0 pe A) args s mc ms A) (F0 m pc ls rest) :=
  tg_thr hx hb hst hown hAm hw h0 hstr htab hsz (by decide +kernel) (List.mem_of_getElem? (i := 397) (by decide +kernel)) (List.mem_of_getElem? (i := 67) (by decide +kernel)) rc_atS rc_gdS d0 d3 d4 d6 d9 hF hL hC hSl hlocks hpe hc hs
theorem tg_throwO {tx : String} {is : Nat} {pe : String → Prop} {Qc : Array Value → State → Outcome → State → Prop} (hx : p.tables.exec = Jvm.exec) (hb : c.code = cc) (hst : l.stackTraces = false) (hown : s.vm.findClass RX6 = some m.cls) (hAm : rc_Amb E A s s.heap) {u : tg_G} (hw : tg_W E A s u H locs) {G0 : tg_G} (h0 : ∀ t x, G0 t = some x → u t = some x) (hstr : ((RX6, is, tx) : String × Nat × String) ∈ rc_strs) (htab : ∀ x ∈ c.exceptionTable.toList, False) (hsz : ls.size = c.maxLocals) (d0 : decode cc pc = .ok (.new 102, 3)) (d3 : decode cc (pc + 3) = .ok (.dup, 1)) (d4 : decode cc (pc + 4) = .ok (.ldc is, 2)) (d6 : decode cc (pc + 6) = .ok (.invokespecial 106, 3)) (d9 : decode cc (pc + 9) = .ok (.athrow, 1)) (hF : 5 < R.frames) (hL : (rest.map fun v => v.category).sum + 82 ≤ R.locals) (hC : cells + 1 ≤ R.cells) (hSl : slots + 6 ≤ R.slots) (hlocks : meth.locks = false) (hpe : pe "java/lang/IndexOutOfBoundsException") (hc : cells + 1 ≤ mc) (hs : slots + 6 ≤ ms) : W p l e R s m args below meth c H locs cells slots (vx_MQ below Qc (tg_X E G0 pe A) args s mc ms A) (F0 m pc ls rest) :=
  tg_thr hx hb hst hown hAm hw h0 hstr htab hsz (by decide +kernel) (List.mem_of_getElem? (i := 686) (by decide +kernel)) (List.mem_of_getElem? (i := 71) (by decide +kernel)) rc_atO rc_gdO d0 d3 d4 d6 d9 hF hL hC hSl hlocks hpe hc hs
end TGR
