/-! small rows for the walks over tag worlds -/
theorem nb_sub1 (x : Int32) : x - 1 = x + (-1) := by
  apply Int32.toBitVec_inj.mp
  simp [BitVec.sub_eq_add_neg]
theorem nb_min {a b : Nat} (ha : a < 2 ^ 31) (hb : b < 2 ^ 31) : (if nI b < nI a then nI b else nI a) = nI (min a b) := by
  by_cases h : b < a
  · rw [if_pos ((nI_ltI hb ha).mpr h), Nat.min_eq_right (Nat.le_of_lt h)]
  · rw [if_neg (fun z => h ((nI_ltI hb ha).mp z)), Nat.min_eq_left (Nat.not_lt.mp h)]
theorem nb_max {a b : Nat} (ha : a < 2 ^ 31) (hb : b < 2 ^ 31) : (if nI a < nI b then nI b else nI a) = nI (max a b) := by
  by_cases h : a < b
  · rw [if_pos ((nI_ltI ha hb).mpr h), Nat.max_eq_right (Nat.le_of_lt h)]
  · rw [if_neg (fun z => h ((nI_ltI ha hb).mp z)), Nat.max_eq_left (Nat.not_lt.mp h)]
/-- whether a run counts: not struck, its machine not aside -/
def cN (st as : Int32) : Nat := if st = 0 ∧ as = 0 then 1 else 0
theorem cN_1 {st as : Int32} (h1 : st = 0) (h2 : as = 0) : cN st as = 1 := if_pos ⟨h1, h2⟩
theorem cN_s {st as : Int32} (h1 : ¬ st = 0) : cN st as = 0 := if_neg (fun z => h1 z.1)
theorem cN_a {st as : Int32} (h1 : ¬ as = 0) : cN st as = 0 := if_neg (fun z => h1 z.2)
theorem cN_le (st as : Int32) : cN st as ≤ 1 := by unfold cN; split <;> omega
theorem nI_bit {n : Nat} (h : n ≤ 1) : nI n = 0 ∨ nI n = 1 := by
  rcases (show n = 0 ∨ n = 1 by omega) with rfl | rfl
  · exact Or.inl rfl
  · exact Or.inr rfl
theorem nI_bool {n : Nat} (h : n ≤ 1) : narrow .boolean (.int (nI n)) = .int (nI n) := by
  rcases (show n = 0 ∨ n = 1 by omega) with rfl | rfl <;> rfl
/-- where a worth goes into a sorted row: behind the last that isn't above it -/
def insP (L : List Nat) (w : Nat) : Nat → Nat
  | 0 => 0
  | k + 1 => if w < L.getD k 0 then insP L w k else k + 1
def insW (L : List Nat) (w : Nat) : List Nat := L.take (insP L w L.length) ++ w :: L.drop (insP L w L.length)
theorem insP_le (L : List Nat) (w : Nat) : ∀ k, insP L w k ≤ k
  | 0 => Nat.le_refl _
  | k + 1 => by
    unfold insP
    split
    · exact Nat.le_trans (insP_le L w k) (Nat.le_succ k)
    · exact Nat.le_refl _
theorem insW_len (L : List Nat) (w : Nat) : (insW L w).length = L.length + 1 := by
  have := insP_le L w L.length
  simp [insW]
  omega
theorem insW_at (L : List Nat) (w i : Nat) (hi : i < L.length + 1) : (insW L w).getD i 0 = if i < insP L w L.length then L.getD i 0 else if i = insP L w L.length then w else L.getD (i - 1) 0 := by
  have hp := insP_le L w L.length
  unfold insW
  generalize insP L w L.length = p at hp
  rw [List.getD_eq_getElem?_getD, List.getD_eq_getElem?_getD, List.getD_eq_getElem?_getD]
  by_cases h1 : i < p
  · rw [if_pos h1, List.getElem?_append_left (by simp; omega), List.getElem?_take_of_lt h1]
  · rw [if_neg h1, List.getElem?_append_right (by simp; omega)]
    have hl : (List.take p L).length = p := by simp; omega
    rw [hl]
    by_cases h2 : i = p
    · rw [if_pos h2, h2, Nat.sub_self]; rfl
    · rw [if_neg h2]
      obtain ⟨j, rfl⟩ : ∃ j, i = p + (j + 1) := ⟨i - p - 1, by omega⟩
      have e1 : p + (j + 1) - p = j + 1 := by omega
      rw [e1, List.getElem?_cons_succ, List.getElem?_drop]
      have e2 : p + (j + 1) - 1 = p + j := by omega
      rw [e2]
section TGC
variable {p : Program} {l : Launch} {e : Env} {R : Room} {s : State} {m : MethodId} {args : Array Value} {below : List Frame} {meth : Method} {c : Code} {H : Heap} {locs : List Loc} {cells slots : Nat} {Q : State → Prop}
variable {cc : ByteArray} {pc : Nat} {ls : Array Slot} {rest st0 : List Value} {E : rc_E} {A : Nat → Prop} {G : tg_G} {mc ms : Nat}
/-- a call that only reads -/
theorem tg_callRi {av : Array Value} {X : Int32} (hr : va_Run p l e R s m args below meth c H locs cells slots mc ms (F0 m pc ls st0) rest (tg_Qi E (fun r u => r = X ∧ u = G) (tg_A G H.size) av) (tg_A G H.size)) (hA : ∀ q, s.heap.size ≤ q → A q) (hw : tg_W E A s G H locs)
    (kk : ∀ (H1 : Heap) (locs1 : List Loc), tg_W E A s G H1 locs1 → W p l e R s m args below meth c H1 locs1 (cells + mc) (slots + ms) Q (F0 m (pc + 3) ls (.int X :: rest))) : W p l e R s m args below meth c H locs cells slots Q (F0 m pc ls st0) := by
  refine tg_calli hr hA hw (fun r u H1 locs1 hp hw1 => ?_)
  obtain ⟨e1, e2⟩ := hp
  rw [e1]
  rw [e2] at hw1
  exact kk H1 locs1 hw1
/-- a call that only reads -/
theorem tg_callRl {av : Array Value} {X : Int64} (hr : va_Run p l e R s m args below meth c H locs cells slots mc ms (F0 m pc ls st0) rest (tg_Ql E (fun r u => r = X ∧ u = G) (tg_A G H.size) av) (tg_A G H.size)) (hA : ∀ q, s.heap.size ≤ q → A q) (hw : tg_W E A s G H locs)
    (kk : ∀ (H1 : Heap) (locs1 : List Loc), tg_W E A s G H1 locs1 → W p l e R s m args below meth c H1 locs1 (cells + mc) (slots + ms) Q (F0 m (pc + 3) ls (.long X :: rest))) : W p l e R s m args below meth c H locs cells slots Q (F0 m pc ls st0) := by
  refine tg_calll hr hA hw (fun r u H1 locs1 hp hw1 => ?_)
  obtain ⟨e1, e2⟩ := hp
  rw [e1]
  rw [e2] at hw1
  exact kk H1 locs1 hw1
/-- a call that only reads -/
theorem tg_callRd {av : Array Value} {X : UInt64} (hr : va_Run p l e R s m args below meth c H locs cells slots mc ms (F0 m pc ls st0) rest (tg_Qd E (fun r u => r = X ∧ u = G) (tg_A G H.size) av) (tg_A G H.size)) (hA : ∀ q, s.heap.size ≤ q → A q) (hw : tg_W E A s G H locs)
    (kk : ∀ (H1 : Heap) (locs1 : List Loc), tg_W E A s G H1 locs1 → W p l e R s m args below meth c H1 locs1 (cells + mc) (slots + ms) Q (F0 m (pc + 3) ls (.double X :: rest))) : W p l e R s m args below meth c H locs cells slots Q (F0 m pc ls st0) := by
  refine tg_calld hr hA hw (fun r u H1 locs1 hp hw1 => ?_)
  obtain ⟨e1, e2⟩ := hp
  rw [e1]
  rw [e2] at hw1
  exact kk H1 locs1 hw1
theorem tg_callRr {av : Array Value} {X : Nat} (hr : va_Run p l e R s m args below meth c H locs cells slots mc ms (F0 m pc ls st0) rest (tg_Qr E (fun u r => r = X ∧ u = G) (tg_A G H.size) av) (tg_A G H.size)) (hA : ∀ q, s.heap.size ≤ q → A q) (hw : tg_W E A s G H locs)
    (kk : ∀ (H1 : Heap) (locs1 : List Loc), tg_W E A s G H1 locs1 → W p l e R s m args below meth c H1 locs1 (cells + mc) (slots + ms) Q (F0 m (pc + 3) ls (.ref X :: rest))) : W p l e R s m args below meth c H locs cells slots Q (F0 m pc ls st0) := by
  refine tg_callr hr hA hw (fun u r H1 locs1 hp hw1 => ?_)
  obtain ⟨e1, e2⟩ := hp
  rw [e1]
  rw [e2] at hw1
  exact kk H1 locs1 hw1
end TGC
