/-! what goes on with a case leaves, and what it makes -/
/-- all as it was but the case and who is named; who was named stays so -/
def sameV (v v' : av_V) : Prop := ∃ (f : Nat → Int32) (g : Nat → Int32 × Int32), v' = setC (setI v f) g ∧ ∀ c, (g c).2 = (vC v c).2 ∧ ((vC v c).1 = 1 → (g c).1 = 1)
theorem adR_congr {v v' : av_V} (hc : ∀ k, cK v' k = cK v k) (hr : vR v' = vR v) (L : List Nat) : ∀ m S, adR v' L m S = adR v L m S
  | 0, S => rfl
  | m + 1, S => by
    show (if S.length < 6 then (if cK v' (L.getD m 0) = 0 then adR v' L m S else adR v' L m (insW S (vR v' (L.getD m 0)).2.2)) else S) = (if S.length < 6 then (if cK v (L.getD m 0) = 0 then adR v L m S else adR v L m (insW S (vR v (L.getD m 0)).2.2)) else S)
    rw [hc, hr, adR_congr hc hr L m, adR_congr hc hr L m]
theorem samp_congr {v v' : av_V} (hc : ∀ k, cK v' k = cK v k) (hr : vR v' = vR v) (hi : ∀ c, ixs v' c = ixs v c) (c : Nat) : samp v' c = samp v c := by
  unfold samp
  rw [hi, adR_congr hc hr]
theorem samp_setI (v : av_V) (f : Nat → Int32) (c : Nat) : samp (setI v f) c = samp v c := samp_congr (v := v) (v' := setI v f) (fun _ => rfl) rfl (fun _ => rfl) c
theorem samp_setC (v : av_V) (f : Nat → Int32 × Int32) (c : Nat) : samp (setC v f) c = samp v c := samp_congr (v := v) (v' := setC v f) (fun _ => rfl) rfl (fun _ => rfl) c
theorem sameV.rf (v : av_V) : sameV v v := ⟨vI v, vC v, rfl, fun _ => ⟨rfl, id⟩⟩
theorem sameV.tr {v v' v2 : av_V} (h : sameV v v') (k : sameV v' v2) : sameV v v2 := by
  obtain ⟨f, g, rfl, h2⟩ := h
  obtain ⟨f', g', rfl, k2⟩ := k
  exact ⟨f', g', rfl, fun c => ⟨(k2 c).1.trans (h2 c).1, fun z => (k2 c).2 ((h2 c).2 z)⟩⟩
theorem sameV.i {v : av_V} (f : Nat → Int32) : sameV v (setI v f) := ⟨f, vC v, rfl, fun _ => ⟨rfl, id⟩⟩
theorem sameV.vN {v v' : av_V} (h : sameV v v') : vN v' = vN v := by obtain ⟨f, g, rfl, -⟩ := h; rfl
theorem sameV.vMN {v v' : av_V} (h : sameV v v') : vMN v' = vMN v := by obtain ⟨f, g, rfl, -⟩ := h; rfl
theorem sameV.vMI {v v' : av_V} (h : sameV v v') : vMI v' = vMI v := by obtain ⟨f, g, rfl, -⟩ := h; rfl
theorem sameV.vn {v v' : av_V} (h : sameV v v') : vn v' = vn v := by obtain ⟨f, g, rfl, -⟩ := h; rfl
theorem sameV.vR {v v' : av_V} (h : sameV v v') : vR v' = vR v := by obtain ⟨f, g, rfl, -⟩ := h; rfl
theorem sameV.vT {v v' : av_V} (h : sameV v v') : vT v' = vT v := by obtain ⟨f, g, rfl, -⟩ := h; rfl
theorem sameV.samp {v v' : av_V} (h : sameV v v') (c : Nat) : samp v' c = samp v c := by obtain ⟨f, g, rfl, -⟩ := h; exact samp_congr (v := v) (v' := setC (setI v f) g) (fun _ => rfl) rfl (fun _ => rfl) c
theorem sameV.ixs {v v' : av_V} (h : sameV v v') (c : Nat) : ixs v' c = ixs v c := by obtain ⟨f, g, rfl, -⟩ := h; rfl
theorem sameV.cK {v v' : av_V} (h : sameV v v') (c : Nat) : cK v' c = cK v c := by obtain ⟨f, g, rfl, -⟩ := h; rfl
theorem sameV.exc {v v' : av_V} (h : sameV v v') (c : Nat) : (vC v' c).2 = (vC v c).2 := by obtain ⟨f, g, rfl, k⟩ := h; exact (k c).1
theorem sameV.nam {v v' : av_V} (h : sameV v v') {c : Nat} (h1 : (vC v c).1 = 1) : (vC v' c).1 = 1 := by obtain ⟨f, g, rfl, k⟩ := h; exact (k c).2 h1
/-- how many are named -/
def nmN (v : av_V) : Nat := smR (fun c => bN (vC v c).1) 6
theorem sameV.nm {v v' : av_V} (h : sameV v v') (hv : ∀ c, c < 6 → (vC v c).1 = 0 ∨ (vC v c).1 = 1) : nmN v ≤ nmN v' := by
  refine smR_mono (n := 6) (fun i hi => ?_)
  show bN (vC v i).1 ≤ bN (vC v' i).1
  rcases hv i hi with h1 | h1
  · rw [h1]; exact Nat.zero_le _
  · rw [h1, h.nam h1]; exact Nat.le_refl _
def caseOff (v : av_V) : Prop := vI v 1 = 0 ∧ vI v 2 = -1 ∧ vI v 3 = -1 ∧ vI v 4 = -1
def caseS (v : av_V) (g b : Nat) : Prop := vI v 1 = 1 ∧ vI v 2 = nI g ∧ vI v 3 = nI b ∧ g < b ∧ b < 6
def waitF (v : av_V) (g b : Nat) : Nat := if (samp v g).length < (samp v (prN g b)).length then g else prN g b
def caseW (v : av_V) (g b : Nat) : Prop := caseS v g b ∧ (outD v (samp v g) (samp v (prN g b)) = 0 ∨ outD v (samp v g) (samp v (prN g b)) = 4) ∧ vI v 4 = nI (waitF v g b)
def caseH (v : av_V) : Prop := caseOff v ∨ ∃ g b, caseS v g b
def caseOK (v : av_V) : Prop := caseOff v ∨ ∃ g b, caseW v g b
theorem caseOK.h {v : av_V} (h : caseOK v) : caseH v := h.imp id (fun ⟨g, b, h⟩ => ⟨g, b, h.1⟩)
def nmOK (v : av_V) : Prop := (vI v 0 = -1 ∧ ∀ c, c < 6 → (vC v c).1 = 0) ∨ ∃ k, k < 6 ∧ vI v 0 = nI k ∧ (vC v k).1 = 1
theorem outD_lt (v : av_V) (A B : List Nat) : outD v A B < 5 := by
  unfold outD outF
  repeat' (first | split | omega)
theorem scH.off {E : rc_E} {ad : Nat → Nat} {G u : tg_G} (h : scH E ad G) (ho : ∀ t9, 15 ≤ t9 → t9 < 31 → u t9 = G t9) : scH E ad u := by
  obtain ⟨⟨L0, k0⟩, ⟨L1, k1⟩, ⟨L2, k2⟩, ⟨⟨u4, u5, u6, u7, u8, u9, h1⟩, ⟨g, h2⟩, ⟨rw9, h3, h4⟩, h5⟩⟩ := h
  exact ⟨⟨L0, k0.of (ho _ (by omega) (by omega)) (ho _ (by omega) (by omega))⟩, ⟨L1, k1.of (ho _ (by omega) (by omega)) (ho _ (by omega) (by omega))⟩, ⟨L2, k2.of (ho _ (by omega) (by omega)) (ho _ (by omega) (by omega))⟩, ⟨u4, u5, u6, u7, u8, u9, (ho _ (by omega) (by omega)).trans h1⟩, ⟨g, (ho _ (by omega) (by omega)).trans h2⟩, ⟨rw9, (ho _ (by omega) (by omega)).trans h3, h4⟩, fun c9 h9 => (h5 c9 h9).imp (fun f e1 => (ho _ (by omega) (by omega)).trans e1)⟩
/-- what one step of a case comes to -/
def BO (E : rc_E) (ad : Nat → Nat) (v : av_V) (u : tg_G) (g b : Nat) (r : Int32) : Prop := ∃ v', stH E ad v' u ∧ sameV v v' ∧ nmOK v' ∧ ((r = 0 ∧ caseOK v') ∨ (r = 1 ∧ ∃ g' b', caseS v' g' b' ∧ b' - g' < b - g))
def putI (f : Nat → Int32) (k : Nat) (x : Int32) : Nat → Int32 := fun i => if i = k then x else f i
section BOS
variable {E : rc_E} {ad : Nat → Nat} {v : av_V} {G u : tg_G} {g b : Nat} {A9 B9 : List Nat}
theorem bo_wait (hI : ssH E ad v G) (hS : scH E ad G) (hC : caseS v g b) (hn : nmOK v) (hA9 : A9 = samp v g) (hB9 : B9 = samp v (prN g b)) (ho : outD v A9 B9 = 0 ∨ outD v A9 B9 = 4) {w : Nat} (hw : w = if A9.length < B9.length then g else prN g b) (h31 : u 31 = some (ad 31, .inr (1, [.int 1, .int (nI g), .int (nI b), .int (nI w)]))) (off : ∀ t9, t9 ≠ 31 → u t9 = G t9) : BO E ad v u g b 0 := by
  obtain ⟨c1, c2, c3, c4, c5⟩ := id hC
  refine ⟨setI v (putI (vI v) 4 (nI w)), ⟨hI.bis (putI (vI v) 4 (nI w)) ?_ rfl off, hS.off (fun t9 h8 h9 => off t9 (by omega))⟩, sameV.i _, hn, Or.inl ⟨rfl, Or.inr ⟨g, b, ⟨c1, c2, c3, c4, c5⟩, ?_, ?_⟩⟩⟩
  · rw [← c1, ← c2, ← c3] at h31; exact h31
  · rw [samp_setI, samp_setI, ← hA9, ← hB9]; exact ho
  · show nI w = nI (waitF _ g b)
    unfold waitF
    rw [samp_setI, samp_setI, ← hA9, ← hB9, hw]
theorem bo_over (hI : ssH E ad v G) (hS : scH E ad G) (hn : nmOK v) (h31 : u 31 = some (ad 31, .inr (1, [.int 0, .int (-1), .int (-1), .int (-1)]))) (off : ∀ t9, t9 ≠ 31 → u t9 = G t9) : BO E ad v u g b 0 := by
  refine ⟨setI v (fun i => if i = 0 then vI v 0 else if i = 1 then 0 else -1), ⟨hI.bis _ h31 rfl off, hS.off (fun t9 h8 h9 => off t9 (by omega))⟩, sameV.i _, hn, Or.inl ⟨rfl, Or.inl ⟨rfl, rfl, rfl, rfl⟩⟩⟩
theorem bo_narrow (hI : ssH E ad v G) (hS : scH E ad G) (hC : caseS v g b) (hn : nmOK v) {g' b' : Nat} {x4 : Int32} (hg : g' < b' ∧ b' ≤ b ∧ b' - g' < b - g) (h31 : u 31 = some (ad 31, .inr (1, [.int 1, .int (nI g'), .int (nI b'), .int x4]))) (off : ∀ t9, t9 ≠ 31 → u t9 = G t9) : BO E ad v u g b 1 := by
  obtain ⟨c1, c2, c3, c4, c5⟩ := id hC
  refine ⟨setI v (fun i => if i = 0 then vI v 0 else if i = 1 then 1 else if i = 2 then nI g' else if i = 3 then nI b' else x4), ⟨hI.bis _ h31 rfl off, hS.off (fun t9 h8 h9 => off t9 (by omega))⟩, sameV.i _, hn, Or.inr ⟨rfl, g', b', ⟨rfl, rfl, rfl, hg.1, by omega⟩, hg.2.2⟩⟩
theorem bo_named (hI : ssH E ad v G) (hS : scH E ad G) {q : Nat} (hq : q < 6) (h40 : u (40 + 3 * q) = some (ad (40 + 3 * q), .inr (2, [.ref (ad (41 + 3 * q)), .int 1, .int (vC v q).2]))) (h8 : u 8 = some (ad 8, .inr (7, [.ref (ad 9), .ref (ad 11), .ref (ad 13), .ref (ad 40), .ref (ad 15), .ref (ad 17), .ref (ad 31), .int (nI (vN v 0)), .int (nI (vN v 1)), .int (nI (vN v 2)), .int (nI (vN v 3)), .int (nI (vN v 4)), .int (nI q)]))) (h31 : u 31 = some (ad 31, .inr (1, [.int 0, .int (-1), .int (-1), .int (-1)]))) (off : ∀ t9, t9 ≠ 8 → t9 ≠ 31 → t9 ≠ 40 + 3 * q → u t9 = G t9) : BO E ad v u g b 0 := by
  have k1 := hI.nam (u := tg_up G (40 + 3 * q) (ad (40 + 3 * q), .inr (2, [.ref (ad (41 + 3 * q)), .int 1, .int (vC v q).2]))) hq 1 (vC v q).2 (Or.inr rfl) (hI.1.2.2.2.2.1 q hq).2 tg_up_at (fun t9 h9 => tg_up_ne h9)
  generalize hG1 : tg_up G (40 + 3 * q) (ad (40 + 3 * q), .inr (2, [.ref (ad (41 + 3 * q)), .int 1, .int (vC v q).2])) = G1 at k1
  have k2 := k1.court (u := tg_up G1 8 (ad 8, .inr (7, [.ref (ad 9), .ref (ad 11), .ref (ad 13), .ref (ad 40), .ref (ad 15), .ref (ad 17), .ref (ad 31), .int (nI (vN v 0)), .int (nI (vN v 1)), .int (nI (vN v 2)), .int (nI (vN v 3)), .int (nI (vN v 4)), .int (nI q)]))) (setI (setC v (fun k => if k = q then (1, (vC v q).2) else vC v k)) (putI (vI v) 0 (nI q))) rfl (fun i hi => if_neg (by omega)) k1.1 tg_up_at (fun t9 h9 => tg_up_ne h9)
  generalize hG2 : tg_up G1 8 _ = G2 at k2
  have e1 : ∀ t9, t9 ≠ 31 → u t9 = G2 t9 := by
    intro t9 h9
    rw [← hG2]
    by_cases h1 : t9 = 8
    · subst h1; rw [tg_up_at]; exact h8
    · rw [tg_up_ne h1, ← hG1]
      by_cases h2 : t9 = 40 + 3 * q
      · subst h2; rw [tg_up_at]; exact h40
      · rw [tg_up_ne h2]; exact off t9 h1 h9 h2
  have k3 := k2.bis (u := u) (fun i => if i = 0 then nI q else if i = 1 then 0 else -1) h31 rfl e1
  refine ⟨_, ⟨k3, hS.off (fun t9 h4 h5 => off t9 (by omega) (by omega) (by omega))⟩, ⟨_, _, rfl, fun c => ?_⟩, Or.inr ⟨q, hq, rfl, ?_⟩, Or.inl ⟨rfl, Or.inl ⟨rfl, rfl, rfl, rfl⟩⟩⟩
  · show (if c = q then ((1 : Int32), (vC v q).2) else vC v c).2 = (vC v c).2 ∧ ((vC v c).1 = 1 → (if c = q then ((1 : Int32), (vC v q).2) else vC v c).1 = 1)
    by_cases e : c = q
    · subst e; rw [if_pos rfl]; exact ⟨rfl, fun _ => rfl⟩
    · rw [if_neg e]; exact ⟨rfl, id⟩
  · show (if q = q then ((1 : Int32), (vC v q).2) else vC v q).1 = 1
    rw [if_pos rfl]
/-- what going on comes to -/
def GO (E : rc_E) (ad : Nat → Nat) (v : av_V) (u : tg_G) : Prop := ∃ v', stH E ad v' u ∧ sameV v v' ∧ nmOK v' ∧ caseOK v'
end BOS
/-- the credit that a step of the baseline brings, -1 if it isn't taken -/
def crF (v : av_V) (c : Nat) : Int32 := if (vC v c).2 = 0 then (if outD v (samp v (c - 1)) (samp v c) = 2 then 10 else if outD v (samp v (c - 1)) (samp v c) = 3 then 0 else -1) else 0
def crN (v : av_V) (c : Nat) : Nat := if (vC v c).2 = 0 then (if outD v (samp v (c - 1)) (samp v c) = 2 then 10 else 0) else 0
theorem crN_of {v : av_V} {c : Nat} (h : ¬ crF v c = -1) : crF v c = nI (crN v c) := by
  revert h
  unfold crF crN
  by_cases h1 : (vC v c).2 = 0
  · rw [if_pos h1, if_pos h1]
    by_cases h2 : outD v (samp v (c - 1)) (samp v c) = 2
    · rw [if_pos h2, if_pos h2]; exact fun _ => rfl
    · rw [if_neg h2, if_neg h2]
      by_cases h3 : outD v (samp v (c - 1)) (samp v c) = 3
      · rw [if_pos h3]; exact fun _ => rfl
      · rw [if_neg h3]; exact fun z => absurd rfl z
  · rw [if_neg h1, if_neg h1]; exact fun _ => rfl
theorem crN_10 (v : av_V) (c : Nat) : crN v c = 0 ∨ crN v c = 10 := by
  unfold crN
  repeat' (first | split | exact Or.inl rfl | exact Or.inr rfl)
/-- where the baseline comes to -/
def wm (v : av_V) : Nat → Nat → Nat
  | 0, a => a
  | k + 1, a => if a + 1 < 6 ∧ ¬ crF v (a + 1) = -1 then wm v k (a + 1) else a
theorem wm_ge (v : av_V) : ∀ k a, a ≤ wm v k a
  | 0, a => Nat.le_refl _
  | k + 1, a => by
    unfold wm
    split
    · exact Nat.le_trans (Nat.le_succ a) (wm_ge v k (a + 1))
    · exact Nat.le_refl _
theorem wm_go {v : av_V} {k a : Nat} (h1 : a + 1 < 6) (h2 : ¬ crF v (a + 1) = -1) : wm v (k + 1) a = wm v k (a + 1) := if_pos ⟨h1, h2⟩
theorem wm_end {v : av_V} {k a : Nat} (h1 : 6 ≤ a + 1) : wm v k a = a := by
  cases k with
  | zero => rfl
  | succ k => exact if_neg (fun z => by omega)
theorem wm_stay {v : av_V} {k a : Nat} (h2 : crF v (a + 1) = -1) : wm v (k + 1) a = a := if_neg (fun z => z.2 h2)
/-- the credit and the baseline -/
def setN (v : av_V) (cr a : Nat) : av_V := (fun i => if i = 3 then cr else if i = 4 then a else vN v i, v.2)
theorem setN_id (v : av_V) : setN v (vN v 3) (vN v 4) = v := by
  unfold setN
  have h : (fun i => if i = 3 then vN v 3 else if i = 4 then vN v 4 else vN v i) = vN v := by
    funext i
    by_cases h1 : i = 3
    · subst h1; rfl
    · rw [if_neg h1]
      by_cases h2 : i = 4
      · subst h2; rfl
      · rw [if_neg h2]
  rw [h]
theorem okV_setN {v : av_V} (h : okV v) {cr a : Nat} (h3 : cr ≤ 100 + 10 * a) (h4 : a < 6) : okV (setN v cr a) := by
  obtain ⟨a1, a2, a3, a4, a5, a6, a7, a8, -, -⟩ := h
  exact ⟨a1, a2, a3, a4, a5, a6, a7, a8, h3, h4⟩
theorem samp_setN (v : av_V) (cr a c : Nat) : samp (setN v cr a) c = samp v c := samp_congr (v := v) (v' := setN v cr a) (fun _ => rfl) rfl (fun _ => rfl) c
theorem crF_setN (v : av_V) (cr a c : Nat) : crF (setN v cr a) c = crF v c := by
  unfold crF
  rw [samp_setN, samp_setN]
  rfl
/-- what a move comes to -/
def MV (E : rc_E) (ad : Nat → Nat) (v : av_V) (u : tg_G) : Prop := ∃ cr, stH E ad (setN v cr (wm v 6 (vN v 4))) u ∧ vN v 3 ≤ cr ∧ (cr - vN v 3) % 10 = 0
theorem MV_of {E : rc_E} {ad : Nat → Nat} {v : av_V} {u : tg_G} {cr a k : Nat} (h : stH E ad (setN v cr a) u) (h1 : vN v 3 ≤ cr) (h2 : (cr - vN v 3) % 10 = 0) (h3 : wm v 6 (vN v 4) = wm v k a) (h4 : wm v k a = a) : MV E ad v u := ⟨cr, by rw [h3, h4]; exact h, h1, h2⟩
theorem nb_bool {x : Int32} (h : x = 0 ∨ x = 1) : narrow .boolean (.int x) = .int x := by rcases h with rfl | rfl <;> rfl
