/-! small rows for the walks over tag worlds -/
theorem nb_sub1 (x : Int32) : x - 1 = x + (-1) := by
  apply Int32.toBitVec_inj.mp
  simp [BitVec.sub_eq_add_neg]
theorem nb_min {a b : Nat} (ha : a < 2 ^ 31) (hb : b < 2 ^ 31) : (if nI b < nI a then nI b else nI a) = nI (min a b) := by
  by_cases h : b < a
  · rw [if_pos ((nI_ltI hb ha).mpr h), Nat.min_eq_right (Nat.le_of_lt h)]
  · rw [if_neg (fun z => h ((nI_ltI hb ha).mp z)), Nat.min_eq_left (Nat.not_lt.mp h)]
theorem nb_max {a b : Nat} (ha : a < 2 ^ 31) (hb : b < 2 ^ 31) : (if nI a < nI b then nI b else nI a) = nI (max a b) := by
  by_cases h : a < b
  · rw [if_pos ((nI_ltI ha hb).mpr h), Nat.max_eq_right (Nat.le_of_lt h)]
  · rw [if_neg (fun z => h ((nI_ltI ha hb).mp z)), Nat.max_eq_left (Nat.not_lt.mp h)]
/-- whether a run counts: not struck, its machine not aside -/
def cN (st as : Int32) : Nat := if st = 0 ∧ as = 0 then 1 else 0
theorem cN_1 {st as : Int32} (h1 : st = 0) (h2 : as = 0) : cN st as = 1 := if_pos ⟨h1, h2⟩
theorem cN_s {st as : Int32} (h1 : ¬ st = 0) : cN st as = 0 := if_neg (fun z => h1 z.1)
theorem cN_a {st as : Int32} (h1 : ¬ as = 0) : cN st as = 0 := if_neg (fun z => h1 z.2)
theorem cN_le (st as : Int32) : cN st as ≤ 1 := by unfold cN; split <;> omega
theorem nI_bit {n : Nat} (h : n ≤ 1) : nI n = 0 ∨ nI n = 1 := by
  rcases (show n = 0 ∨ n = 1 by omega) with rfl | rfl
  · exact Or.inl rfl
  · exact Or.inr rfl
theorem nI_bool {n : Nat} (h : n ≤ 1) : narrow .boolean (.int (nI n)) = .int (nI n) := by
  rcases (show n = 0 ∨ n = 1 by omega) with rfl | rfl <;> rfl
/-- where a worth goes into a sorted row: behind the last that isn't above it -/
def insP (L : List Nat) (w : Nat) : Nat → Nat
  | 0 => 0
  | k + 1 => if w < L.getD k 0 then insP L w k else k + 1
def insW (L : List Nat) (w : Nat) : List Nat := L.take (insP L w L.length) ++ w :: L.drop (insP L w L.length)
theorem insP_gt {L : List Nat} {w k : Nat} (h : w < L.getD k 0) : insP L w (k + 1) = insP L w k := if_pos h
theorem insP_ng {L : List Nat} {w k : Nat} (h : ¬ w < L.getD k 0) : insP L w (k + 1) = k + 1 := if_neg h
theorem insP_le (L : List Nat) (w : Nat) : ∀ k, insP L w k ≤ k
  | 0 => Nat.le_refl _
  | k + 1 => by
    unfold insP
    split
    · exact Nat.le_trans (insP_le L w k) (Nat.le_succ k)
    · exact Nat.le_refl _
theorem insW_len (L : List Nat) (w : Nat) : (insW L w).length = L.length + 1 := by
  have := insP_le L w L.length
  simp [insW]
  omega
theorem insW_at (L : List Nat) (w i : Nat) (hi : i < L.length + 1) : (insW L w).getD i 0 = if i < insP L w L.length then L.getD i 0 else if i = insP L w L.length then w else L.getD (i - 1) 0 := by
  have hp := insP_le L w L.length
  unfold insW
  generalize insP L w L.length = p at hp
  rw [List.getD_eq_getElem?_getD, List.getD_eq_getElem?_getD, List.getD_eq_getElem?_getD]
  by_cases h1 : i < p
  · rw [if_pos h1, List.getElem?_append_left (by simp; omega), List.getElem?_take_of_lt h1]
  · rw [if_neg h1, List.getElem?_append_right (by simp; omega)]
    have hl : (List.take p L).length = p := by simp; omega
    rw [hl]
    by_cases h2 : i = p
    · rw [if_pos h2, h2, Nat.sub_self]; rfl
    · rw [if_neg h2]
      obtain ⟨j, rfl⟩ : ∃ j, i = p + (j + 1) := ⟨i - p - 1, by omega⟩
      have e1 : p + (j + 1) - p = j + 1 := by omega
      rw [e1, List.getElem?_cons_succ, List.getElem?_drop]
      have e2 : p + (j + 1) - 1 = p + j := by omega
      rw [e2]
/-- the worth at a place of a sample, -1 outside -/
def wAt (L : List Nat) (k : Nat) : Int32 := if k < L.length then nI (L.getD k 0) else -1
/-- what a worth scores against another, and the lead of the i-th among the first j, and among all -/
def sc2 (x y : Nat) : Nat := if x < y then 2 else if x = y then 1 else 0
def ldR (P : List Nat) (i : Nat) : Nat → Nat
  | 0 => 0
  | j + 1 => ldR P i j + (if j = i then 0 else sc2 (P.getD i 0) (P.getD j 0))
def ldN (P : List Nat) (i : Nat) : Nat := ldR P i P.length
theorem sc2_le (x y : Nat) : sc2 x y ≤ 2 := by unfold sc2; repeat' (first | split | omega)
theorem ldR_le (P : List Nat) (i : Nat) : ∀ j, ldR P i j ≤ 2 * j
  | 0 => Nat.le_refl _
  | j + 1 => by
    have h1 := ldR_le P i j
    have h2 := sc2_le (P.getD i 0) (P.getD j 0)
    show ldR P i j + _ ≤ _
    split <;> omega
/-- the sum of the first k -/
def smR (g : Nat → Nat) : Nat → Nat
  | 0 => 0
  | k + 1 => smR g k + g k
/-- the verdict: 0 open, 1 slower, 2 faster, 3 same, 4 unsure -/
def outF (nA nB hi lo al en lv : Nat) : Nat := if nA < en ∨ nB < en then 0 else if hi * 1000 ≤ lv * al then 1 else if lo * 1000 ≤ lv * al then 2 else if nA = 6 ∧ nB = 6 then 3 else 4
theorem ldN_le (P : List Nat) (i : Nat) : ldN P i ≤ 2 * P.length := ldR_le P i P.length
/-- how many ways there are to choose c of the first i with the sum s of their leads -/
def wy (le : Nat → Nat) : Nat → Nat → Nat → Nat
  | 0, c, s => if c = 0 ∧ s = 0 then 1 else 0
  | i + 1, 0, s => wy le i 0 s
  | i + 1, c + 1, s => wy le i (c + 1) s + if le i ≤ s then wy le i c (s - le i) else 0
theorem wy_zero (le : Nat → Nat) : ∀ (i c s : Nat), i < c → wy le i c s = 0
  | 0, c, s, h => if_neg (fun z => by omega)
  | i + 1, 0, s, h => by omega
  | i + 1, c + 1, s, h => by
    have h1 := wy_zero le i (c + 1) s (by omega)
    have h2 := wy_zero le i c (s - le i) (by omega)
    show wy le i (c + 1) s + (if le i ≤ s then wy le i c (s - le i) else 0) = 0
    rw [h1, h2]
    split <;> rfl
/-- the least of a place and a size less one, as steps down to nothing -/
theorem nb_mn {i n : Nat} (hi : i < 2 ^ 30) (hn : n < 2 ^ 30) : (if nI n - 1 < nI i then nI n - 1 else nI i) = nI (min (i + 1) n) + (-1) := by
  cases n with
  | zero =>
    have h1 : (nI 0 - 1 : Int32) < nI i := by
      rw [Int32.lt_iff_toInt_lt, nI_toInt (by omega)]
      have h2 : (nI 0 - 1 : Int32).toInt = -1 := by decide
      rw [h2]; omega
    rw [if_pos h1, Nat.min_eq_right (Nat.zero_le _)]
    rfl
  | succ n =>
    rw [nI_pred]
    by_cases h : n < i
    · rw [if_pos ((nI_ltI (by omega) (by omega)).mpr h), Nat.min_eq_right (by omega), pk_m1]
    · rw [if_neg (fun z => h ((nI_ltI (by omega) (by omega)).mp z)), Nat.min_eq_left (by omega), pk_m1]
/-- the leads of the first i together -/
def ldS (P : List Nat) : Nat → Nat
  | 0 => 0
  | i + 1 => ldS P i + ldN P i
theorem ldS_le (P : List Nat) : ∀ i, ldS P i ≤ 2 * P.length * i
  | 0 => Nat.le_refl _
  | i + 1 => by
    have h1 := ldS_le P i
    have h2 := ldN_le P i
    rw [Nat.mul_succ]
    exact Nat.add_le_add h1 h2
theorem nb_sq (n : Nat) : nI n * (nI n - 1) = nI (n * (n - 1)) := by
  cases n with
  | zero => rfl
  | succ n => rw [nI_pred, Nat.add_sub_cancel]; exact pk_mul _ _
/-- what a duel of two samples comes to -/
def wyN (A B : List Nat) (s : Nat) : Nat := wy (ldN (A ++ B)) (A ++ B).length A.length s
def scI (A B : List Nat) : Int32 := nI (ldS (A ++ B) A.length) - nI (A.length * (A.length - 1))
def hiN (A B : List Nat) : Nat := smR (fun i9 => if ldS (A ++ B) A.length ≤ i9 then wyN A B i9 else 0) ((A ++ B).length * ((A ++ B).length - 1) + 1)
def loN (A B : List Nat) : Nat := smR (fun i9 => if i9 ≤ ldS (A ++ B) A.length then wyN A B i9 else 0) ((A ++ B).length * ((A ++ B).length - 1) + 1)
def alN (A B : List Nat) : Nat := smR (fun i9 => wyN A B i9) ((A ++ B).length * ((A ++ B).length - 1) + 1)
section TGC
variable {p : Program} {l : Launch} {e : Env} {R : Room} {s : State} {m : MethodId} {args : Array Value} {below : List Frame} {meth : Method} {c : Code} {H : Heap} {locs : List Loc} {cells slots : Nat} {Q : State → Prop}
variable {cc : ByteArray} {pc : Nat} {ls : Array Slot} {rest st0 : List Value} {E : rc_E} {A : Nat → Prop} {G : tg_G} {mc ms : Nat}
/-- a call that only reads -/
theorem tg_callRi {av : Array Value} {X : Int32} (hr : va_Run p l e R s m args below meth c H locs cells slots mc ms (F0 m pc ls st0) rest (tg_Qi E (fun r u => r = X ∧ u = G) (tg_A G H.size) av) (tg_A G H.size)) (hA : ∀ q, s.heap.size ≤ q → A q) (hw : tg_W E A s G H locs)
    (kk : ∀ (H1 : Heap) (locs1 : List Loc), tg_W E A s G H1 locs1 → W p l e R s m args below meth c H1 locs1 (cells + mc) (slots + ms) Q (F0 m (pc + 3) ls (.int X :: rest))) : W p l e R s m args below meth c H locs cells slots Q (F0 m pc ls st0) := by
  refine tg_calli hr hA hw (fun r u H1 locs1 hp hw1 => ?_)
  obtain ⟨e1, e2⟩ := hp
  rw [e1]
  rw [e2] at hw1
  exact kk H1 locs1 hw1
/-- a call that only reads -/
theorem tg_callRl {av : Array Value} {X : Int64} (hr : va_Run p l e R s m args below meth c H locs cells slots mc ms (F0 m pc ls st0) rest (tg_Ql E (fun r u => r = X ∧ u = G) (tg_A G H.size) av) (tg_A G H.size)) (hA : ∀ q, s.heap.size ≤ q → A q) (hw : tg_W E A s G H locs)
    (kk : ∀ (H1 : Heap) (locs1 : List Loc), tg_W E A s G H1 locs1 → W p l e R s m args below meth c H1 locs1 (cells + mc) (slots + ms) Q (F0 m (pc + 3) ls (.long X :: rest))) : W p l e R s m args below meth c H locs cells slots Q (F0 m pc ls st0) := by
  refine tg_calll hr hA hw (fun r u H1 locs1 hp hw1 => ?_)
  obtain ⟨e1, e2⟩ := hp
  rw [e1]
  rw [e2] at hw1
  exact kk H1 locs1 hw1
/-- a call that only reads -/
theorem tg_callRd {av : Array Value} {X : UInt64} (hr : va_Run p l e R s m args below meth c H locs cells slots mc ms (F0 m pc ls st0) rest (tg_Qd E (fun r u => r = X ∧ u = G) (tg_A G H.size) av) (tg_A G H.size)) (hA : ∀ q, s.heap.size ≤ q → A q) (hw : tg_W E A s G H locs)
    (kk : ∀ (H1 : Heap) (locs1 : List Loc), tg_W E A s G H1 locs1 → W p l e R s m args below meth c H1 locs1 (cells + mc) (slots + ms) Q (F0 m (pc + 3) ls (.double X :: rest))) : W p l e R s m args below meth c H locs cells slots Q (F0 m pc ls st0) := by
  refine tg_calld hr hA hw (fun r u H1 locs1 hp hw1 => ?_)
  obtain ⟨e1, e2⟩ := hp
  rw [e1]
  rw [e2] at hw1
  exact kk H1 locs1 hw1
theorem tg_callRr {av : Array Value} {X : Nat} (hr : va_Run p l e R s m args below meth c H locs cells slots mc ms (F0 m pc ls st0) rest (tg_Qr E (fun u r => r = X ∧ u = G) (tg_A G H.size) av) (tg_A G H.size)) (hA : ∀ q, s.heap.size ≤ q → A q) (hw : tg_W E A s G H locs)
    (kk : ∀ (H1 : Heap) (locs1 : List Loc), tg_W E A s G H1 locs1 → W p l e R s m args below meth c H1 locs1 (cells + mc) (slots + ms) Q (F0 m (pc + 3) ls (.ref X :: rest))) : W p l e R s m args below meth c H locs cells slots Q (F0 m pc ls st0) := by
  refine tg_callr hr hA hw (fun u r H1 locs1 hp hw1 => ?_)
  obtain ⟨e1, e2⟩ := hp
  rw [e1]
  rw [e2] at hw1
  exact kk H1 locs1 hw1
end TGC
