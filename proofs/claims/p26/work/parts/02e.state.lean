/-! the court's state: numbers, and how the cells hold them -/
/-- numbers (enough, level, minutes, credit, baseline); ints (lastNamed, isOn, good, bad, waitsFor); of a machine: numbers (1 price, 2 scale, 6 runs), ints (3, 4 measures before, 5 measures, 7 aside); of a change: named, excused; how many runs; of a run: change, machine, worth; time, struck -/
abbrev av_V : Type := (Nat → Nat) × (Nat → Int32) × (Nat → Nat → Nat) × (Nat → Nat → Int32) × (Nat → Int32 × Int32) × Nat × (Nat → Nat × Nat × Nat) × (Nat → Int32 × Int32)
abbrev vN (v : av_V) : Nat → Nat := v.1
abbrev vI (v : av_V) : Nat → Int32 := v.2.1
abbrev vMN (v : av_V) : Nat → Nat → Nat := v.2.2.1
abbrev vMI (v : av_V) : Nat → Nat → Int32 := v.2.2.2.1
abbrev vC (v : av_V) : Nat → Int32 × Int32 := v.2.2.2.2.1
abbrev vn (v : av_V) : Nat := v.2.2.2.2.2.1
abbrev vR (v : av_V) : Nat → Nat × Nat × Nat := v.2.2.2.2.2.2.1
abbrev vT (v : av_V) : Nat → Int32 × Int32 := v.2.2.2.2.2.2.2
/-- the runs of a change, by their numbers, in order -/
def ixs (v : av_V) (c : Nat) : List Nat := (List.range (vn v)).filter (fun k => (vR v k).1 == c)
/-- whether a run counts -/
def cK (v : av_V) (k : Nat) : Nat := cN (vT v k).2 (vMI v (vR v k).2.1 7)
theorem cK_le (v : av_V) (k : Nat) : cK v k ≤ 1 := cN_le _ _
/-- a list of n cells, held in a row of its own or in none yet -/
def ltH (E : rc_E) (G : tg_G) (t a n : Nat) (el : Nat → Nat) : Prop := ∃ (mc : Int32) (aa : Nat), G t = some (a, .inr (0, [.int mc, .ref aa, .int (nI n)])) ∧ ((n = 0 ∧ aa = E.2.2 0) ∨ ∃ (cap : Nat) (f : Nat → Option Nat), G (t + 1) = some (aa, .inl (E.2.1 2, cap, .inr (.inr (.inr (.inr f))))) ∧ (n ≤ cap ∧ 0 < cap) ∧ cap ≤ 200 ∧ ∀ i, i < n → f i = some (el i))
/-- a sample that holds the worths L -/
def smH (E : rc_E) (G : tg_G) (t a a9 : Nat) (L : List Nat) : Prop := G t = some (a, .inr (6, [.ref a9, .int (nI L.length)])) ∧ (∃ f : Nat → Int32, G (t + 1) = some (a9, .inl (E.2.1 0, 6, .inl f)) ∧ ∀ i9, i9 < L.length → f i9 = nI (L.getD i9 0)) ∧ L.length ≤ 6 ∧ ∀ i9, L.getD i9 0 < 2 ^ 31
/-- the duel's cells, whatever the last duel was -/
def duH (E : rc_E) (ad : Nat → Nat) (G : tg_G) : Prop := (∃ u4 u5 u6 u7 u8 u9 : Int32, G 17 = some (ad 17, .inr (3, [.ref (ad 18), .ref (ad 20), .ref (ad 22), .ref (ad 23), .int u4, .int u5, .int u6, .int u7, .int u8, .int u9]))) ∧ (∃ g : Nat → Int32, G 22 = some (ad 22, .inl (E.2.1 0, 12, .inl g))) ∧ (∃ rw9 : Nat → Option Nat, G 23 = some (ad 23, .inl (E.2.1 1, 7, .inr (.inr (.inr (.inr rw9))))) ∧ ∀ c9, c9 < 7 → rw9 c9 = some (ad (24 + c9))) ∧ ∀ c9, c9 < 7 → ∃ f : Nat → Int32, G (24 + c9) = some (ad (24 + c9), .inl (E.2.1 0, 133, .inl f))
def scH (E : rc_E) (ad : Nat → Nat) (G : tg_G) : Prop := (∃ L, smH E G 15 (ad 15) (ad 16) L) ∧ (∃ L, smH E G 18 (ad 18) (ad 19) L) ∧ (∃ L, smH E G 20 (ad 20) (ad 21) L) ∧ duH E ad G
def chH (E : rc_E) (ad : Nat → Nat) (v : av_V) (G : tg_G) (c : Nat) : Prop := G (40 + 3 * c) = some (ad (40 + 3 * c), .inr (2, [.ref (ad (41 + 3 * c)), .int (vC v c).1, .int (vC v c).2])) ∧ ltH E G (41 + 3 * c) (ad (41 + 3 * c)) (ixs v c).length (fun i => ad (64 + (ixs v c).getD i 0))
def maH (ad : Nat → Nat) (v : av_V) (G : tg_G) (j : Nat) : Prop := G (32 + j) = some (ad (32 + j), .inr (4, [.int (nI j), .int (nI (vMN v j 1)), .int (nI (vMN v j 2)), .int (vMI v j 3), .int (vMI v j 4), .int (vMI v j 5), .int (nI (vMN v j 6)), .int (vMI v j 7)]))
def ruH (ad : Nat → Nat) (v : av_V) (G : tg_G) (k : Nat) : Prop := G (64 + k) = some (ad (64 + k), .inr (5, [.int (nI (vR v k).1), .ref (ad (32 + (vR v k).2.1)), .int (vT v k).1, .int (nI (vR v k).2.2), .int (vT v k).2]))
/-- what the numbers keep -/
def okV (v : av_V) : Prop := vn v ≤ 60 ∧ (∀ k, k < vn v → (vR v k).1 < 6 ∧ (vR v k).2.1 < 2 ∧ (vR v k).2.2 < 2000000) ∧ (∀ j, j < 2 → vMN v j 1 < 100 ∧ 0 < vMN v j 1 ∧ 0 < vMN v j 2 ∧ vMN v j 2 ≤ 200 ∧ vMN v j 6 ≤ 60 ∧ (vMI v j 7 = 0 ∨ vMI v j 7 = 1)) ∧ (∀ k, k < vn v → (vT v k).2 = 0 ∨ (vT v k).2 = 1) ∧ (∀ c, c < 6 → ((vC v c).1 = 0 ∨ (vC v c).1 = 1) ∧ ((vC v c).2 = 0 ∨ (vC v c).2 = 1)) ∧ vN v 0 < 7 ∧ vN v 1 ≤ 200 ∧ vN v 2 ≤ 5000 ∧ vN v 3 ≤ 100 + 10 * vN v 4 ∧ vN v 4 < 6
/-- the court with the state v stands in the world: all but the scratch -/
def ssH (E : rc_E) (ad : Nat → Nat) (v : av_V) (G : tg_G) : Prop := okV v ∧ G 8 = some (ad 8, .inr (7, [.ref (ad 9), .ref (ad 11), .ref (ad 13), .ref (ad 40), .ref (ad 15), .ref (ad 17), .ref (ad 31), .int (nI (vN v 0)), .int (nI (vN v 1)), .int (nI (vN v 2)), .int (nI (vN v 3)), .int (nI (vN v 4)), .int (vI v 0)])) ∧ (ltH E G 9 (ad 9) 2 (fun j => ad (32 + j)) ∧ ltH E G 11 (ad 11) 6 (fun c => ad (40 + 3 * c)) ∧ ltH E G 13 (ad 13) (vn v) (fun k => ad (64 + k))) ∧ G 31 = some (ad 31, .inr (1, [.int (vI v 1), .int (vI v 2), .int (vI v 3), .int (vI v 4)])) ∧ (∀ j, j < 2 → maH ad v G j) ∧ (∀ c, c < 6 → chH E ad v G c) ∧ ∀ k, k < vn v → ruH ad v G k
def stH (E : rc_E) (ad : Nat → Nat) (v : av_V) (G : tg_G) : Prop := ssH E ad v G ∧ scH E ad G
theorem ixs_mem {v : av_V} {c i : Nat} (h : i < (ixs v c).length) : (ixs v c).getD i 0 < vn v ∧ (vR v ((ixs v c).getD i 0)).1 = c := by
  have h1 : (ixs v c)[i] ∈ ixs v c := List.getElem_mem h
  have h2 : (ixs v c).getD i 0 = (ixs v c)[i] := by rw [List.getD_eq_getElem?_getD, List.getElem?_eq_getElem h]; rfl
  rw [h2]
  generalize (ixs v c)[i] = k at h1
  unfold ixs at h1
  obtain ⟨a, b⟩ := List.mem_filter.mp h1
  exact ⟨List.mem_range.mp a, by simpa using b⟩
theorem ixs_len (v : av_V) (c : Nat) : (ixs v c).length ≤ vn v := by
  unfold ixs
  exact Nat.le_trans (List.length_filter_le _ _) (by rw [List.length_range]; exact Nat.le_refl _)
/-- a list in a world that is the same there -/
theorem ltH.of {E : rc_E} {G u : tg_G} {t a n : Nat} {el : Nat → Nat} (h : ltH E G t a n el) (h1 : u t = G t) (h2 : u (t + 1) = G (t + 1)) : ltH E u t a n el := by
  obtain ⟨mc, aa, g1, g2⟩ := h
  refine ⟨mc, aa, h1.trans g1, ?_⟩
  rcases g2 with g2 | ⟨cap, f, g3, g4⟩
  · exact Or.inl g2
  · exact Or.inr ⟨cap, f, h2.trans g3, g4⟩
/-- the state stands when the scratch alone has changed -/
theorem ssH.scr {E : rc_E} {ad : Nat → Nat} {v : av_V} {G u : tg_G} (h : ssH E ad v G) (ho : ∀ t9, t9 < 15 ∨ 31 ≤ t9 → u t9 = G t9) : ssH E ad v u := by
  obtain ⟨h0, h1, ⟨h2, h3, h4⟩, h6, h7, h8, h9⟩ := h
  refine ⟨h0, (ho _ (by omega)).trans h1, ⟨h2.of (ho _ (by omega)) (ho _ (by omega)), h3.of (ho _ (by omega)) (ho _ (by omega)), h4.of (ho _ (by omega)) (ho _ (by omega))⟩, (ho _ (by omega)).trans h6, fun j hj => (ho _ (by omega)).trans (h7 j hj), fun c hc => ⟨(ho _ (by omega)).trans (h8 c hc).1, (h8 c hc).2.of (ho _ (by omega)) (ho _ (by omega))⟩, fun k hk => (ho _ (by omega)).trans (h9 k hk)⟩
theorem stH.scr {E : rc_E} {ad : Nat → Nat} {v : av_V} {G u : tg_G} (h : stH E ad v G) (hs : scH E ad u) (ho : ∀ t9, t9 < 15 ∨ 31 ≤ t9 → u t9 = G t9) : stH E ad v u := ⟨h.1.scr ho, hs⟩
/-- the part of a state that the runs of a change need: read by the change's own methods -/
def csH (E : rc_E) (ad : Nat → Nat) (v : av_V) (G : tg_G) (c : Nat) : Prop := okV v ∧ c < 6 ∧ chH E ad v G c ∧ (∀ j, j < 2 → maH ad v G j) ∧ ∀ k, k < vn v → ruH ad v G k
theorem ssH.cs {E : rc_E} {ad : Nat → Nat} {v : av_V} {G : tg_G} (h : ssH E ad v G) {c : Nat} (hc : c < 6) : csH E ad v G c := ⟨h.1, hc, h.2.2.2.2.2.1 c hc, h.2.2.2.2.1, h.2.2.2.2.2.2⟩
theorem csH.of {E : rc_E} {ad : Nat → Nat} {v : av_V} {G u : tg_G} {c : Nat} (h : csH E ad v G c) (ho : ∀ t9, 32 ≤ t9 → u t9 = G t9) : csH E ad v u c := by
  obtain ⟨h0, h1, h2, h3, h4⟩ := h
  exact ⟨h0, h1, ⟨(ho _ (by omega)).trans h2.1, h2.2.of (ho _ (by omega)) (ho _ (by omega))⟩, fun j hj => (ho _ (by omega)).trans (h3 j hj), fun k hk => (ho _ (by omega)).trans (h4 k hk)⟩
/-- a run of a change, at its place: its cell, its machine's, its bounds -/
theorem csH.run {E : rc_E} {ad : Nat → Nat} {v : av_V} {G : tg_G} {c i : Nat} (h : csH E ad v G c) (hi : i < (ixs v c).length) : ruH ad v G ((ixs v c).getD i 0) ∧ maH ad v G (vR v ((ixs v c).getD i 0)).2.1 ∧ (ixs v c).getD i 0 < vn v ∧ (vR v ((ixs v c).getD i 0)).2.1 < 2 ∧ (vR v ((ixs v c).getD i 0)).2.2 < 2000000 := by
  obtain ⟨h0, h1, h2, h3, h4⟩ := h
  obtain ⟨a, -⟩ := ixs_mem hi
  obtain ⟨b1, b2, b3⟩ := h0.2.1 _ a
  exact ⟨h4 _ a, h3 _ b2, a, b2, b3⟩
/-- how many count among the last m of a row, without a machine; whether a run is in the sample; the sample itself -/
def isR (v : av_V) (L : List Nat) (k : Nat) : Nat → Nat → Nat
  | 0, _ => 0
  | m + 1, n => if n < 6 then (if L.getD m 0 = k then cK v k else isR v L k m (n + cK v (L.getD m 0))) else 0
def adR (v : av_V) (L : List Nat) : Nat → List Nat → List Nat
  | 0, S => S
  | m + 1, S => if S.length < 6 then (if cK v (L.getD m 0) = 0 then adR v L m S else adR v L m (insW S (vR v (L.getD m 0)).2.2)) else S
/-- the sample of a change -/
def samp (v : av_V) (c : Nat) : List Nat := adR v (ixs v c) (ixs v c).length []
def szN (v : av_V) (c : Nat) : Nat := min 6 (smR (fun i => cK v ((ixs v c).getD i 0)) (ixs v c).length)
def wK (v : av_V) (j k : Nat) : Nat := if (vR v k).2.1 = j then 0 else cK v k
def swN (v : av_V) (c j : Nat) : Nat := min 6 (smR (fun i => wK v j ((ixs v c).getD i 0)) (ixs v c).length)
theorem smR_le {g : Nat → Nat} (h : ∀ i, g i ≤ 1) : ∀ k, smR g k ≤ k
  | 0 => Nat.le_refl _
  | k + 1 => by
    have h1 := smR_le h k
    have h2 := h k
    show smR g k + g k ≤ k + 1
    omega
theorem insW_lt {L : List Nat} {w N : Nat} (h : ∀ i, L.getD i 0 < N) (hw : w < N) : ∀ i, (insW L w).getD i 0 < N := by
  intro i
  by_cases hi : i < L.length + 1
  · rw [insW_at L w i hi]
    split
    · exact h i
    · split
      · exact hw
      · exact h _
  · rw [List.getD_eq_getElem?_getD, List.getElem?_eq_none (by rw [insW_len]; omega)]
    exact Nat.lt_of_le_of_lt (Nat.zero_le _) hw
theorem wK_le (v : av_V) (j k : Nat) : wK v j k ≤ 1 := by
  unfold wK
  split
  · omega
  · exact cK_le v k
theorem tg_addr {E : rc_E} {A : Nat → Prop} {s : State} {G : tg_G} {H : Heap} {locs : List Loc} (h : tg_W E A s G H locs) {t t' a a' : Nat} {e e' : va_E} (h1 : G t = some (a, e)) (h2 : G t' = some (a', e')) (ha : a = a') : t = t' := h.1.2.1 t t' _ _ h1 h2 ha
theorem ltH.pos {E : rc_E} {G : tg_G} {t a n : Nat} {el : Nat → Nat} (h : ltH E G t a n el) (hn : 0 < n) : ∃ (mc : Int32) (aa cap : Nat) (f : Nat → Option Nat), G t = some (a, .inr (0, [.int mc, .ref aa, .int (nI n)])) ∧ G (t + 1) = some (aa, .inl (E.2.1 2, cap, .inr (.inr (.inr (.inr f))))) ∧ n ≤ cap ∧ cap ≤ 200 ∧ ∀ i, i < n → f i = some (el i) := by
  obtain ⟨mc, aa, h1, h2⟩ := h
  rcases h2 with ⟨h2, -⟩ | ⟨cap, f, h2, h3, h4, h5⟩
  · exact absurd h2 (by omega)
  · exact ⟨mc, aa, cap, f, h1, h2, h3.1, h4, h5⟩
theorem isR_le (v : av_V) (L : List Nat) (k : Nat) : ∀ m n, isR v L k m n ≤ 1
  | 0, _ => Nat.zero_le _
  | m + 1, n => by
    unfold isR
    split
    · split
      · exact cK_le v k
      · exact isR_le v L k m _
    · exact Nat.zero_le _
/-- a bit as a number -/
def bN (x : Int32) : Nat := if x = 0 then 0 else 1
theorem bN_of {x : Int32} (h : x = 0 ∨ x = 1) : x = nI (bN x) := by rcases h with rfl | rfl <;> rfl
theorem bN_le (x : Int32) : bN x ≤ 1 := by unfold bN; split <;> omega
theorem szN_le (v : av_V) (c : Nat) : szN v c ≤ 6 := Nat.min_le_left _ _
theorem swN_le (v : av_V) (c j : Nat) : swN v c j ≤ 6 := Nat.min_le_left _ _
/-- whether a change's sample would be less without a machine -/
def hW (v : av_V) (j c : Nat) : Nat := if swN v c j < szN v c then 1 else 0
theorem hW_le (v : av_V) (j c : Nat) : hW v j c ≤ 1 := by unfold hW; split <;> omega
/-- the duel of two samples, weighed -/
def duM (E : rc_E) (ad : Nat → Nat) (A B : List Nat) (u : tg_G) : Prop := smH E u 18 (ad 18) (ad 19) A ∧ smH E u 20 (ad 20) (ad 21) B ∧ u 17 = some (ad 17, .inr (3, [.ref (ad 18), .ref (ad 20), .ref (ad 22), .ref (ad 23), .int (nI (A ++ B).length), .int (nI ((A ++ B).length * ((A ++ B).length - 1))), .int (scI A B), .int (nI (hiN A B)), .int (nI (loN A B)), .int (nI (alN A B))])) ∧ (∃ g : Nat → Int32, u 22 = some (ad 22, .inl (E.2.1 0, 12, .inl g))) ∧ (∃ rw9 : Nat → Option Nat, u 23 = some (ad 23, .inl (E.2.1 1, 7, .inr (.inr (.inr (.inr rw9))))) ∧ ∀ c9, c9 < 7 → rw9 c9 = some (ad (24 + c9))) ∧ ∀ c9, c9 < 7 → ∃ f : Nat → Int32, u (24 + c9) = some (ad (24 + c9), .inl (E.2.1 0, 133, .inl f))
theorem duM.du {E : rc_E} {ad : Nat → Nat} {A B : List Nat} {u : tg_G} (h : duM E ad A B u) : duH E ad u := ⟨⟨_, _, _, _, _, _, h.2.2.1⟩, h.2.2.2⟩
theorem smH.of {E : rc_E} {G u : tg_G} {t a a9 : Nat} {L : List Nat} (h : smH E G t a a9 L) (h1 : u t = G t) (h2 : u (t + 1) = G (t + 1)) : smH E u t a a9 L := by
  obtain ⟨g1, ⟨f, g2, g3⟩, g4⟩ := h
  exact ⟨h1.trans g1, ⟨f, h2.trans g2, g3⟩, g4⟩
theorem app_lt {A B : List Nat} {N : Nat} (hN : 0 < N) (hA : ∀ i, A.getD i 0 < N) (hB : ∀ i, B.getD i 0 < N) : ∀ i, (A ++ B).getD i 0 < N := by
  intro i
  rw [List.getD_eq_getElem?_getD]
  by_cases h : i < A.length
  · rw [List.getElem?_append_left h, ← List.getD_eq_getElem?_getD]; exact hA i
  · rw [List.getElem?_append_right (by omega), ← List.getD_eq_getElem?_getD]; exact hB _
/-- the least price of the machines that are not aside, -1 if there is none -/
def lpS (x as : Int32) (p : Int32) : Int32 := if as = 0 then (if x = -1 ∨ p < x then p else x) else x
theorem lpS_a {x as p : Int32} (h : ¬ as = 0) : lpS x as p = x := if_neg h
theorem lpS_n {x as p : Int32} (h : as = 0) (h2 : x = -1) : lpS x as p = p := (if_pos h).trans (if_pos (Or.inl h2))
theorem lpS_l {x as p : Int32} (h : as = 0) (h2 : p < x) : lpS x as p = p := (if_pos h).trans (if_pos (Or.inr h2))
theorem lpS_g {x as p : Int32} (h : as = 0) (h2 : ¬ x = -1) (h3 : ¬ p < x) : lpS x as p = x := (if_pos h).trans (if_neg (fun z => z.elim h2 h3))
def lpR (v : av_V) : Nat → Int32
  | 0 => -1
  | j + 1 => lpS (lpR v j) (vMI v j 7) (nI (vMN v j 1))
/-- the minutes that fill a change's sample -/
def mtF (v : av_V) (c : Nat) : Int32 := if szN v c = 6 then 0 else if lpR v 2 = -1 then -1 else nI (6 - szN v c) * lpR v 2
/-- the verdict of two samples by the court's rule -/
def outD (v : av_V) (A B : List Nat) : Nat := outF A.length B.length (hiN A B) (loN A B) (alN A B) (vN v 0) (vN v 1)
/-- what is told of a change's guilt -/
def chE (v : av_V) (c : Nat) : Int32 := if (vC v c).2 = 0 then (if (vC v c).1 = 0 then 0 else 2) else 1
theorem nb_half {n : Nat} (h : n < 2 ^ 31) : (nI n - 1) / 2 = nI ((n - 1) / 2) := by
  cases n with
  | zero => decide
  | succ n =>
    rw [nI_pred, Nat.add_sub_cancel]
    exact pk_div (a := n) (d := 2) (by omega) (by omega) (by omega)
theorem duH.of {E : rc_E} {ad : Nat → Nat} {G u : tg_G} (h : duH E ad G) (ho : ∀ t9, 17 ≤ t9 → u t9 = G t9) : duH E ad u := by
  obtain ⟨⟨u4, u5, u6, u7, u8, u9, h1⟩, ⟨g, h2⟩, ⟨rw9, h3, h4⟩, h5⟩ := h
  exact ⟨⟨u4, u5, u6, u7, u8, u9, (ho _ (by omega)).trans h1⟩, ⟨g, (ho _ (by omega)).trans h2⟩, ⟨rw9, (ho _ (by omega)).trans h3, h4⟩, fun c9 h9 => (h5 c9 h9).imp (fun f e1 => (ho _ (by omega)).trans e1)⟩
theorem scH_meet {E : rc_E} {ad : Nat → Nat} {G u : tg_G} {A B : List Nat} (h : scH E ad G) (hD : duM E ad A B u) (ho : ∀ t9, t9 < 17 ∨ 31 ≤ t9 → u t9 = G t9) : scH E ad u := by
  obtain ⟨⟨L, h1⟩, -, -, -⟩ := h
  exact ⟨⟨L, h1.of (ho _ (by omega)) (ho _ (by omega))⟩, ⟨A, hD.1⟩, ⟨B, hD.2.1⟩, hD.du⟩
theorem scH_one {E : rc_E} {ad : Nat → Nat} {G u : tg_G} {L : List Nat} (h : scH E ad G) (hm : smH E u 15 (ad 15) (ad 16) L) (ho : ∀ t9, t9 < 15 ∨ 17 ≤ t9 → u t9 = G t9) : scH E ad u := by
  obtain ⟨-, ⟨L1, h2⟩, ⟨L2, h3⟩, h4⟩ := h
  exact ⟨⟨L, hm⟩, ⟨L1, h2.of (ho _ (by omega)) (ho _ (by omega))⟩, ⟨L2, h3.of (ho _ (by omega)) (ho _ (by omega))⟩, h4.of (fun t9 h9 => ho t9 (by omega))⟩
/-- the change that a case asks next -/
def prN (g b : Nat) : Nat := if b = g + 1 then b else (g + b) / 2
theorem prN_in {g b : Nat} (h : g < b) : g < prN g b ∧ prN g b ≤ b := by
  unfold prN
  split <;> omega
/-- the state with other ints, with other guilt -/
def setI (v : av_V) (f : Nat → Int32) : av_V := (v.1, f, v.2.2)
def setC (v : av_V) (f : Nat → Int32 × Int32) : av_V := (v.1, v.2.1, v.2.2.1, v.2.2.2.1, f, v.2.2.2.2.2)
/-- the bisection's cell alone has changed -/
theorem ssH.bis {E : rc_E} {ad : Nat → Nat} {v : av_V} {G u : tg_G} (h : ssH E ad v G) (f : Nat → Int32) (h31 : u 31 = some (ad 31, .inr (1, [.int (f 1), .int (f 2), .int (f 3), .int (f 4)]))) (h0 : f 0 = vI v 0) (ho : ∀ t9, t9 ≠ 31 → u t9 = G t9) : ssH E ad (setI v f) u := by
  obtain ⟨k0, h1, ⟨h2, h3, h4⟩, h6, h7, h8, h9⟩ := h
  refine ⟨k0, ?_, ⟨h2.of (ho _ (by omega)) (ho _ (by omega)), h3.of (ho _ (by omega)) (ho _ (by omega)), h4.of (ho _ (by omega)) (ho _ (by omega))⟩, h31, fun j hj => (ho _ (by omega)).trans (h7 j hj), fun c hc => ⟨(ho _ (by omega)).trans (h8 c hc).1, (h8 c hc).2.of (ho _ (by omega)) (ho _ (by omega))⟩, fun k hk => (ho _ (by omega)).trans (h9 k hk)⟩
  have h10 := (ho 8 (by omega)).trans h1
  rw [← h0] at h10
  exact h10
/-- one change's guilt alone has changed -/
theorem ssH.nam {E : rc_E} {ad : Nat → Nat} {v : av_V} {G u : tg_G} (h : ssH E ad v G) {c : Nat} (hc : c < 6) (x y : Int32) (hx : x = 0 ∨ x = 1) (hy : y = 0 ∨ y = 1) (h1 : u (40 + 3 * c) = some (ad (40 + 3 * c), .inr (2, [.ref (ad (41 + 3 * c)), .int x, .int y]))) (ho : ∀ t9, t9 ≠ 40 + 3 * c → u t9 = G t9) : ssH E ad (setC v (fun k => if k = c then (x, y) else vC v k)) u := by
  obtain ⟨k0, k1, ⟨h2, h3, h4⟩, h6, h7, h8, h9⟩ := h
  refine ⟨?_, (ho _ (by omega)).trans k1, ⟨h2.of (ho _ (by omega)) (ho _ (by omega)), h3.of (ho _ (by omega)) (ho _ (by omega)), h4.of (ho _ (by omega)) (ho _ (by omega))⟩, (ho _ (by omega)).trans h6, fun j hj => (ho _ (by omega)).trans (h7 j hj), fun k hk => ⟨?_, (h8 k hk).2.of (ho _ (by omega)) (ho _ (by omega))⟩, fun k hk => (ho _ (by omega)).trans (h9 k hk)⟩
  · obtain ⟨a1, a2, a3, a4, a5, a6⟩ := k0
    refine ⟨a1, a2, a3, a4, fun k hk => ?_, a6⟩
    show ((if k = c then (x, y) else vC v k).1 = 0 ∨ (if k = c then (x, y) else vC v k).1 = 1) ∧ ((if k = c then (x, y) else vC v k).2 = 0 ∨ (if k = c then (x, y) else vC v k).2 = 1)
    by_cases e : k = c
    · rw [if_pos e]; exact ⟨hx, hy⟩
    · rw [if_neg e]; exact a5 k hk
  · show u (40 + 3 * k) = some (ad (40 + 3 * k), .inr (2, [.ref (ad (41 + 3 * k)), .int (if k = c then (x, y) else vC v k).1, .int (if k = c then (x, y) else vC v k).2]))
    by_cases e : k = c
    · rw [if_pos e, e]; exact h1
    · rw [if_neg e]; exact (ho _ (by omega)).trans (h8 k hk).1
/-- the court's own numbers alone have changed -/
theorem ssH.court {E : rc_E} {ad : Nat → Nat} {v : av_V} {G u : tg_G} (h : ssH E ad v G) (v' : av_V) (hr : v'.2.2 = v.2.2) (hi : ∀ i, 1 ≤ i → vI v' i = vI v i) (hok : okV v') (h8 : u 8 = some (ad 8, .inr (7, [.ref (ad 9), .ref (ad 11), .ref (ad 13), .ref (ad 40), .ref (ad 15), .ref (ad 17), .ref (ad 31), .int (nI (vN v' 0)), .int (nI (vN v' 1)), .int (nI (vN v' 2)), .int (nI (vN v' 3)), .int (nI (vN v' 4)), .int (vI v' 0)]))) (ho : ∀ t9, t9 ≠ 8 → u t9 = G t9) : ssH E ad v' u := by
  obtain ⟨n', i', r'⟩ := v'
  obtain ⟨n, i, r⟩ := v
  have hr2 : r' = r := hr
  subst hr2
  obtain ⟨k0, k1, ⟨h2, h3, h4⟩, h6, h7, h8', h9⟩ := h
  refine ⟨hok, h8, ⟨h2.of (ho _ (by omega)) (ho _ (by omega)), h3.of (ho _ (by omega)) (ho _ (by omega)), h4.of (ho _ (by omega)) (ho _ (by omega))⟩, ?_, fun j hj => (ho _ (by omega)).trans (h7 j hj), fun c hc => ⟨(ho _ (by omega)).trans (h8' c hc).1, (h8' c hc).2.of (ho _ (by omega)) (ho _ (by omega))⟩, fun k hk => (ho _ (by omega)).trans (h9 k hk)⟩
  have e1 := hi 1 (by omega)
  have e2 := hi 2 (by omega)
  have e3 := hi 3 (by omega)
  have e4 := hi 4 (by omega)
  rw [e1, e2, e3, e4]
  exact (ho _ (by omega)).trans h6
