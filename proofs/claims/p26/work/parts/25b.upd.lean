/-! what telling, striking, measuring .. make of the state -/
def setM (v : av_V) (j x : Nat) (d : Int32) : av_V := (v.1, v.2.1, (fun i n => if i = j then (if n = 2 then x else vMN v i n) else vMN v i n), (fun i n => if i = j then (if n = 3 then nI (vMN v j 2) else if n = 4 then vMI v j 3 else if n = 5 then vMI v j 5 + 1 else if n = 7 then d else vMI v i n) else vMI v i n), v.2.2.2.2)
def setT (v : av_V) (k : Nat) : av_V := (v.1, v.2.1, v.2.2.1, v.2.2.2.1, v.2.2.2.2.1, v.2.2.2.2.2.1, v.2.2.2.2.2.2.1, fun i => if i = k then ((vT v k).1, 1) else vT v i)
def setX (v : av_V) (c p : Nat) : av_V := setN (setC v (fun k => if k = c then ((vC v c).1, 1) else vC v k)) (vN v 3 - p) (vN v 4)
def setB (v : av_V) (n : Nat) : av_V := (fun i => if i = 2 then n else vN v i, v.2)
def setL (v : av_V) (en lv : Nat) : av_V := (fun i => if i = 0 then en else if i = 1 then lv else vN v i, v.2)
section UPD
variable {E : rc_E} {ad : Nat → Nat} {v : av_V} {G u : tg_G}
theorem ssH.mach (h : ssH E ad v G) {j x : Nat} {d : Int32} (hj : j < 2) (hx : 0 < x ∧ x ≤ 200) (hd : d = 0 ∨ d = 1) (h1 : u (32 + j) = some (ad (32 + j), .inr (4, [.int (nI j), .int (nI (vMN v j 1)), .int (nI x), .int (nI (vMN v j 2)), .int (vMI v j 3), .int (vMI v j 5 + 1), .int (nI (vMN v j 6)), .int d]))) (ho : ∀ t9, t9 ≠ 32 + j → u t9 = G t9) : ssH E ad (setM v j x d) u := by
  obtain ⟨k0, k1, ⟨h2, h3, h4⟩, h6, h7, h8, h9⟩ := h
  refine ⟨?_, (ho _ (by omega)).trans k1, ⟨h2.of (ho _ (by omega)) (ho _ (by omega)), h3.of (ho _ (by omega)) (ho _ (by omega)), h4.of (ho _ (by omega)) (ho _ (by omega))⟩, (ho _ (by omega)).trans h6, fun i hi => ?_, fun k hk => ⟨(ho _ (by omega)).trans (h8 k hk).1, (h8 k hk).2.of (ho _ (by omega)) (ho _ (by omega))⟩, fun k hk => (ho _ (by omega)).trans (h9 k hk)⟩
  · obtain ⟨a1, a2, a3, a4⟩ := k0
    refine ⟨a1, a2, fun i hi => ?_, a4⟩
    obtain ⟨b1, b2, b3, b4, b5, b6⟩ := a3 i hi
    by_cases e : i = j
    · subst e
      have e1 : ∀ n, vMN (setM v i x d) i n = if n = 2 then x else vMN v i n := fun n => if_pos rfl
      have e2 : vMI (setM v i x d) i 7 = d := if_pos rfl
      rw [e1, e1, e1, e2]
      exact ⟨b1, b2, hx.1, hx.2, b5, hd⟩
    · have e1 : ∀ n, vMN (setM v j x d) i n = vMN v i n := fun n => if_neg e
      have e2 : ∀ n, vMI (setM v j x d) i n = vMI v i n := fun n => if_neg e
      rw [e1, e1, e1, e2]
      exact ⟨b1, b2, b3, b4, b5, b6⟩
  · by_cases e : i = j
    · subst e
      have e1 : ∀ n, vMN (setM v i x d) i n = if n = 2 then x else vMN v i n := fun n => if_pos rfl
      have e2 : ∀ n, vMI (setM v i x d) i n = if n = 3 then nI (vMN v i 2) else if n = 4 then vMI v i 3 else if n = 5 then vMI v i 5 + 1 else if n = 7 then d else vMI v i n := fun n => if_pos rfl
      unfold maH
      rw [e1, e1, e1, e2, e2, e2, e2]
      exact h1
    · have e1 : ∀ n, vMN (setM v j x d) i n = vMN v i n := fun n => if_neg e
      have e2 : ∀ n, vMI (setM v j x d) i n = vMI v i n := fun n => if_neg e
      have h10 := (ho (32 + i) (by omega)).trans (h7 i hi)
      unfold maH
      rw [e1, e1, e1, e2, e2, e2, e2]
      exact h10
theorem ssH.strk (h : ssH E ad v G) {k : Nat} (hk : k < vn v) (h1 : u (64 + k) = some (ad (64 + k), .inr (5, [.int (nI (vR v k).1), .ref (ad (32 + (vR v k).2.1)), .int (vT v k).1, .int (nI (vR v k).2.2), .int 1]))) (ho : ∀ t9, t9 ≠ 64 + k → u t9 = G t9) : ssH E ad (setT v k) u := by
  obtain ⟨k0, k1, ⟨h2, h3, h4⟩, h6, h7, h8, h9⟩ := h
  refine ⟨?_, (ho _ (by omega)).trans k1, ⟨h2.of (ho _ (by omega)) (ho _ (by omega)), h3.of (ho _ (by omega)) (ho _ (by omega)), h4.of (ho _ (by omega)) (ho _ (by omega))⟩, (ho _ (by omega)).trans h6, fun i hi => (ho _ (by omega)).trans (h7 i hi), fun c hc => ⟨(ho _ (by omega)).trans (h8 c hc).1, (h8 c hc).2.of (ho _ (by omega)) (ho _ (by omega))⟩, fun i hi => ?_⟩
  · obtain ⟨a1, a2, a3, a4, a5⟩ := k0
    refine ⟨a1, a2, a3, fun i hi => ?_, a5⟩
    show (if i = k then ((vT v k).1, (1 : Int32)) else vT v i).2 = 0 ∨ (if i = k then ((vT v k).1, (1 : Int32)) else vT v i).2 = 1
    by_cases e : i = k
    · rw [if_pos e]; exact Or.inr rfl
    · rw [if_neg e]; exact a4 i hi
  · show u (64 + i) = some (ad (64 + i), .inr (5, [.int (nI (vR v i).1), .ref (ad (32 + (vR v i).2.1)), .int (if i = k then ((vT v k).1, (1 : Int32)) else vT v i).1, .int (nI (vR v i).2.2), .int (if i = k then ((vT v k).1, (1 : Int32)) else vT v i).2]))
    by_cases e : i = k
    · subst e; rw [if_pos rfl]; exact h1
    · rw [if_neg e]; exact (ho _ (by omega)).trans (h9 i hi)
theorem ssH.exc (h : ssH E ad v G) {c p : Nat} (hc : c < 6) (h40 : u (40 + 3 * c) = some (ad (40 + 3 * c), .inr (2, [.ref (ad (41 + 3 * c)), .int (vC v c).1, .int 1]))) (h8 : u 8 = some (ad 8, .inr (7, [.ref (ad 9), .ref (ad 11), .ref (ad 13), .ref (ad 40), .ref (ad 15), .ref (ad 17), .ref (ad 31), .int (nI (vN v 0)), .int (nI (vN v 1)), .int (nI (vN v 2)), .int (nI (vN v 3 - p)), .int (nI (vN v 4)), .int (vI v 0)]))) (off : ∀ t9, t9 ≠ 8 → t9 ≠ 40 + 3 * c → u t9 = G t9) : ssH E ad (setX v c p) u := by
  have h34 := h.1.2.2.2.2.2.2.2.2
  have k1 := h.nam (u := tg_up G (40 + 3 * c) (ad (40 + 3 * c), .inr (2, [.ref (ad (41 + 3 * c)), .int (vC v c).1, .int 1]))) hc (vC v c).1 1 (h.1.2.2.2.2.1 c hc).1 (Or.inr rfl) tg_up_at (fun t9 h9 => tg_up_ne h9)
  generalize hG1 : tg_up G (40 + 3 * c) (ad (40 + 3 * c), .inr (2, [.ref (ad (41 + 3 * c)), .int (vC v c).1, .int 1])) = G1 at k1
  refine k1.court (u := u) (setX v c p) rfl (fun i hi => rfl) (okV_setN k1.1 (by have := h34.1; omega) h34.2) h8 (fun t9 h9 => ?_)
  rw [← hG1]
  by_cases h2 : t9 = 40 + 3 * c
  · subst h2; rw [tg_up_at]; exact h40
  · rw [tg_up_ne h2]; exact off t9 h9 h2
theorem okV_setB (h : okV v) {n : Nat} (hn : n ≤ 5000) : okV (setB v n) := by
  obtain ⟨a1, a2, a3, a4, a5, a6, a7, -, a9⟩ := h
  exact ⟨a1, a2, a3, a4, a5, a6, a7, hn, a9⟩
theorem okV_setL (h : okV v) {en lv : Nat} (h1 : en < 7) (h2 : lv ≤ 200) : okV (setL v en lv) := by
  obtain ⟨a1, a2, a3, a4, a5, -, -, a9⟩ := h
  exact ⟨a1, a2, a3, a4, a5, h1, h2, a9⟩
theorem caseOK_congr {v' : av_V} (hI : vI v' = vI v) (h0 : vN v' 0 = vN v 0) (h1 : vN v' 1 = vN v 1) (hs : ∀ c, samp v' c = samp v c) (h : caseOK v) : caseOK v' := by
  rcases h with h | ⟨g, b, h2, h3, h4⟩
  · exact Or.inl (by unfold caseOff; rw [hI]; exact h)
  · refine Or.inr ⟨g, b, by unfold caseS; rw [hI]; exact h2, ?_, ?_⟩
    · rw [hs, hs]; unfold outD; rw [h0, h1]; exact h3
    · unfold waitF; rw [hI, hs, hs]; exact h4
theorem caseOK_setX {c p : Nat} (h : caseOK v) : caseOK (setX v c p) := caseOK_congr (v := v) (v' := setX v c p) rfl rfl rfl (fun _ => samp_congr (v := v) (v' := setX v c p) (fun _ => rfl) rfl (fun _ => rfl) _) h
theorem caseOK_setB {n : Nat} (h : caseOK v) : caseOK (setB v n) := caseOK_congr (v := v) (v' := setB v n) rfl rfl rfl (fun _ => samp_congr (v := v) (v' := setB v n) (fun _ => rfl) rfl (fun _ => rfl) _) h
theorem caseOK_setN {cr a : Nat} (h : caseOK v) : caseOK (setN v cr a) := caseOK_congr (v := v) (v' := setN v cr a) rfl rfl rfl (fun _ => samp_setN v cr a _) h
theorem nmOK_setX {c p : Nat} (h : nmOK v) : nmOK (setX v c p) := by
  have e : ∀ k, (vC (setX v c p) k).1 = (vC v k).1 := by
    intro k
    show (if k = c then ((vC v c).1, (1 : Int32)) else vC v k).1 = (vC v k).1
    by_cases e : k = c
    · subst e; rw [if_pos rfl]
    · rw [if_neg e]
  rcases h with ⟨h1, h2⟩ | ⟨k, h1, h2, h3⟩
  · exact Or.inl ⟨h1, fun k hk => by rw [e]; exact h2 k hk⟩
  · exact Or.inr ⟨k, h1, h2, by rw [e]; exact h3⟩
theorem nmN_setX {c p : Nat} : nmN (setX v c p) = nmN v := by
  have e : ∀ k, (vC (setX v c p) k).1 = (vC v k).1 := by
    intro k
    show (if k = c then ((vC v c).1, (1 : Int32)) else vC v k).1 = (vC v k).1
    by_cases e : k = c
    · subst e; rw [if_pos rfl]
    · rw [if_neg e]
  show smR (fun k => bN (vC (setX v c p) k).1) 6 = _
  simp only [e]
  rfl
end UPD
