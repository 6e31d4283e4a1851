/-! what the law wants of the numbers -/
def bl (x : Int32) (n : Nat) : Nat := x.toBitVec.toNat % 2 ^ 31 % n
theorem bl_lt (x : Int32) {n : Nat} (h : 0 < n) : bl x n < n := Nat.mod_lt _ h
theorem bl_and (x : Int32) : x &&& 2147483647 = nI (x.toBitVec.toNat % 2 ^ 31) := pk_and x 31 (by decide)
theorem bl_rem (x : Int32) {n : Nat} (h0 : 0 < n) (h : n < 2 ^ 31) : nI (x.toBitVec.toNat % 2 ^ 31) - nI (x.toBitVec.toNat % 2 ^ 31) / nI n * nI n = nI (bl x n) := pk_rem (Nat.mod_lt _ (by decide)) h0 h
/-- the sample has as many as it ought to -/
theorem adR_len (v : av_V) (L : List Nat) : ∀ m S, S.length ≤ 6 → (adR v L m S).length = min 6 (S.length + smR (fun i => cK v (L.getD i 0)) m)
  | 0, S, h => by
    show S.length = min 6 (S.length + 0)
    omega
  | m + 1, S, h => by
    show (if S.length < 6 then (if cK v (L.getD m 0) = 0 then adR v L m S else adR v L m (insW S (vR v (L.getD m 0)).2.2)) else S).length = min 6 (S.length + (smR (fun i => cK v (L.getD i 0)) m + cK v (L.getD m 0)))
    have hc := cK_le v (L.getD m 0)
    by_cases h1 : S.length < 6
    · rw [if_pos h1]
      by_cases h2 : cK v (L.getD m 0) = 0
      · rw [if_pos h2, adR_len v L m S h, h2]
        rfl
      · rw [if_neg h2, adR_len v L m _ (by rw [insW_len]; omega), insW_len]
        omega
    · rw [if_neg h1]
      omega
theorem samp_len (v : av_V) (c : Nat) : (samp v c).length = szN v c := by
  unfold samp szN
  rw [adR_len v _ _ [] (Nat.zero_le _)]
  show min 6 (0 + _) = _
  rw [Nat.zero_add]
theorem isR_step (v : av_V) (L : List Nat) (k m n : Nat) : isR v L k (m + 1) n = if n < 6 then (if L.getD m 0 = k then cK v k else isR v L k m (n + cK v (L.getD m 0))) else 0 := rfl
theorem isR_sum (v : av_V) (L : List Nat) (hd : ∀ i j, i < j → j < L.length → L.getD i 0 < L.getD j 0) : ∀ m n, m ≤ L.length → n ≤ 6 → smR (fun i => isR v L (L.getD i 0) m n) m = min (6 - n) (smR (fun i => cK v (L.getD i 0)) m)
  | 0, n, _, _ => by
    show 0 = min (6 - n) 0
    omega
  | m + 1, n, hm, hn => by
    have hc := cK_le v (L.getD m 0)
    show smR (fun i => isR v L (L.getD i 0) (m + 1) n) m + isR v L (L.getD m 0) (m + 1) n = min (6 - n) (smR (fun i => cK v (L.getD i 0)) m + cK v (L.getD m 0))
    by_cases h1 : n < 6
    · have e1 : smR (fun i => isR v L (L.getD i 0) (m + 1) n) m = smR (fun i => isR v L (L.getD i 0) m (n + cK v (L.getD m 0))) m := by
        refine smR_congr (fun i hi => ?_)
        rw [isR_step, if_pos h1, if_neg (fun e => by have := hd i m hi (by omega); omega)]
      rw [e1, isR_sum v L hd m (n + cK v (L.getD m 0)) (by omega) (by omega), isR_step, if_pos h1, if_pos rfl]
      omega
    · have e1 : smR (fun i => isR v L (L.getD i 0) (m + 1) n) m = smR (fun _ => 0) m := by
        refine smR_congr (fun i hi => ?_)
        rw [isR_step, if_neg h1]
      rw [e1, smR_zero, isR_step, if_neg h1]
      omega
theorem smR_filter (P : Nat → Bool) (f : Nat → Nat) : ∀ n, smR (fun k => if P k = true then f k else 0) n = smR (fun i => f (((List.range n).filter P).getD i 0)) ((List.range n).filter P).length
  | 0 => rfl
  | n + 1 => by
    show smR (fun k => if P k = true then f k else 0) n + (if P n = true then f n else 0) = _
    rw [smR_filter P f n, List.range_succ, List.filter_append]
    by_cases h : P n = true
    · rw [if_pos h, List.filter_cons_of_pos h]
      show _ = smR (fun i => f ((List.filter P (List.range n) ++ [n]).getD i 0)) (List.filter P (List.range n) ++ [n]).length
      rw [List.length_append]
      show _ = smR _ ((List.filter P (List.range n)).length + 1)
      show _ = smR (fun i => f ((List.filter P (List.range n) ++ [n]).getD i 0)) (List.filter P (List.range n)).length + f ((List.filter P (List.range n) ++ [n]).getD (List.filter P (List.range n)).length 0)
      rw [getD_app, if_pos rfl]
      refine congrArg (· + f n) (smR_congr (fun i hi => ?_))
      rw [getD_app, if_neg (by omega)]
    · rw [if_neg h, List.filter_cons_of_neg h]
      show _ = smR (fun i => f ((List.filter P (List.range n) ++ []).getD i 0)) (List.filter P (List.range n) ++ []).length
      rw [List.append_nil]
      rfl
theorem ixs_up (v : av_V) (c : Nat) : ∀ i j, i < j → j < (ixs v c).length → (ixs v c).getD i 0 < (ixs v c).getD j 0 := by
  intro i j hij hj
  have hp : List.Pairwise (· < ·) (ixs v c) := List.Pairwise.filter _ List.pairwise_lt_range
  have h1 := List.pairwise_iff_getElem.mp hp i j (by omega) hj hij
  rw [List.getD_eq_getElem?_getD, List.getD_eq_getElem?_getD, List.getElem?_eq_getElem (by omega), List.getElem?_eq_getElem hj]
  exact h1
/-- the runs of a change that are in its sample, over all runs -/
theorem in_sum (v : av_V) (c : Nat) : smR (fun k => if (vR v k).1 = c then isR v (ixs v (vR v k).1) k (ixs v (vR v k).1).length 0 else 0) (vn v) = (samp v c).length := by
  have e1 : smR (fun k => if (vR v k).1 = c then isR v (ixs v (vR v k).1) k (ixs v (vR v k).1).length 0 else 0) (vn v) = smR (fun k => if ((vR v k).1 == c) = true then isR v (ixs v c) k (ixs v c).length 0 else 0) (vn v) := by
    refine smR_congr (fun k _ => ?_)
    by_cases h : (vR v k).1 = c
    · rw [if_pos h, if_pos (by rw [h]; exact beq_self_eq_true c), h]
    · rw [if_neg h, if_neg (fun z => h (eq_of_beq z))]
  rw [e1, smR_filter (fun k => (vR v k).1 == c) (fun k => isR v (ixs v c) k (ixs v c).length 0) (vn v)]
  show smR (fun i => isR v (ixs v c) ((ixs v c).getD i 0) (ixs v c).length 0) (ixs v c).length = _
  rw [isR_sum v (ixs v c) (ixs_up v c) _ 0 (Nat.le_refl _) (by omega), samp_len]
  rfl
theorem ever_sum (v : av_V) (c : Nat) : smR (fun k => if (vR v k).1 = c then 1 else 0) (vn v) = (ixs v c).length := by
  have e1 : smR (fun k => if (vR v k).1 = c then 1 else 0) (vn v) = smR (fun k => if ((vR v k).1 == c) = true then 1 else 0) (vn v) := by
    refine smR_congr (fun k _ => ?_)
    by_cases h : (vR v k).1 = c
    · rw [if_pos h, if_pos (by rw [h]; exact beq_self_eq_true c)]
    · rw [if_neg h, if_neg (fun z => h (eq_of_beq z))]
  rw [e1, smR_filter (fun k => (vR v k).1 == c) (fun _ => 1) (vn v), smR_const]
  show (ixs v c).length * 1 = _
  omega
/-- the sample is sorted -/
def srt (L : List Nat) : Prop := ∀ i j, i ≤ j → j < L.length → L.getD i 0 ≤ L.getD j 0
theorem insP_lo {L : List Nat} {w : Nat} (h : srt L) : ∀ k, k ≤ L.length → ∀ i, i < insP L w k → L.getD i 0 ≤ w
  | 0, _, i, hi => absurd hi (Nat.not_lt_zero i)
  | k + 1, hk, i, hi => by
    by_cases h1 : w < L.getD k 0
    · rw [insP_gt h1] at hi
      exact insP_lo h k (by omega) i hi
    · rw [insP_ng h1] at hi
      have := h i k (by omega) (by omega)
      omega
theorem insP_hi {L : List Nat} {w : Nat} : ∀ k i, insP L w k ≤ i → i < k → w < L.getD i 0
  | 0, i, _, hi => absurd hi (Nat.not_lt_zero i)
  | k + 1, i, h, hi => by
    by_cases h1 : w < L.getD k 0
    · rw [insP_gt h1] at h
      rcases Nat.lt_or_ge i k with h2 | h2
      · exact insP_hi k i h h2
      · obtain rfl : i = k := by omega
        exact h1
    · rw [insP_ng h1] at h
      omega
theorem srt_ins {L : List Nat} {w : Nat} (h : srt L) : srt (insW L w) := by
  intro i j hij hj
  rw [insW_len] at hj
  have hp := insP_le L w L.length
  have lo := insP_lo (w := w) h L.length (Nat.le_refl _)
  have hi := insP_hi (L := L) (w := w) L.length
  rw [insW_at L w i (by omega), insW_at L w j hj]
  generalize insP L w L.length = p at hp lo hi
  by_cases a1 : i < p
  · rw [if_pos a1]
    by_cases b1 : j < p
    · rw [if_pos b1]; exact h i j hij (by omega)
    · rw [if_neg b1]
      by_cases b2 : j = p
      · rw [if_pos b2]; exact lo i a1
      · rw [if_neg b2]; exact h i (j - 1) (by omega) (by omega)
  · rw [if_neg a1, if_neg (show ¬ j < p by omega)]
    by_cases a2 : i = p
    · rw [if_pos a2]
      by_cases b2 : j = p
      · rw [if_pos b2]; exact Nat.le_refl _
      · rw [if_neg b2]; exact Nat.le_of_lt (hi (j - 1) (by omega) (by omega))
    · rw [if_neg a2, if_neg (show ¬ j = p by omega)]
      exact h (i - 1) (j - 1) (by omega) (by omega)
theorem adR_srt (v : av_V) (L : List Nat) : ∀ m S, srt S → srt (adR v L m S)
  | 0, S, h => h
  | m + 1, S, h => by
    show srt (if S.length < 6 then (if cK v (L.getD m 0) = 0 then adR v L m S else adR v L m (insW S (vR v (L.getD m 0)).2.2)) else S)
    split
    · split
      · exact adR_srt v L m S h
      · exact adR_srt v L m _ (srt_ins h)
    · exact h
theorem samp_srt (v : av_V) (c : Nat) : srt (samp v c) := adR_srt v _ _ [] (fun i j _ hj => absurd hj (Nat.not_lt_zero j))
theorem wAt_le {L : List Nat} (h : srt L) (hb : ∀ i, L.getD i 0 < 2 ^ 31) {i j : Nat} (hij : i ≤ j) (hj : j < L.length ∨ L.length = 0) : wAt L i ≤ wAt L j := by
  unfold wAt
  rcases hj with hj | hj
  · rw [if_pos (show i < L.length by omega), if_pos hj]
    exact (nI_leI (hb i) (hb j)).mpr (h i j hij hj)
  · rw [if_neg (show ¬ i < L.length by omega), if_neg (show ¬ j < L.length by omega)]
    exact Int32.le_refl _
theorem wAt_none {L : List Nat} (hb : ∀ i, L.getD i 0 < 2 ^ 31) {i : Nat} (hi : i < L.length ∨ L.length = 0) : wAt L i = -1 ↔ L.length = 0 := by
  unfold wAt
  rcases hi with hi | hi
  · rw [if_pos hi]
    refine ⟨fun e => ?_, fun e => by omega⟩
    exact absurd (show nI (L.getD i 0) < 0 by rw [e]; decide) (nI_pos (hb i))
  · rw [if_neg (by omega)]
    exact ⟨fun _ => hi, fun _ => rfl⟩
theorem samp_lt {v : av_V} (h : okV v) (c : Nat) : ∀ i, (samp v c).getD i 0 < 2 ^ 31 := by
  have key : ∀ (L : List Nat), (∀ k, k < L.length → (vR v (L.getD k 0)).2.2 < 2000000) → ∀ m S, m ≤ L.length → (∀ i, S.getD i 0 < 2 ^ 31) → ∀ i, (adR v L m S).getD i 0 < 2 ^ 31 := by
    intro L hL m
    induction m with
    | zero => intro S _ hS; exact hS
    | succ m ih =>
      intro S hm hS
      show ∀ i, (if S.length < 6 then (if cK v (L.getD m 0) = 0 then adR v L m S else adR v L m (insW S (vR v (L.getD m 0)).2.2)) else S).getD i 0 < 2 ^ 31
      split
      · split
        · exact ih S (by omega) hS
        · exact ih _ (by omega) (insW_lt hS (by have := hL m (by omega); omega))
      · exact hS
  refine key (ixs v c) (fun k hk => (h.2.1 _ (ixs_mem hk).1).2.2) _ [] (Nat.le_refl _) (fun i => by simp)
/-- minutes to fill -/
theorem lpR_cases {v : av_V} (h : okV v) : lpR v 2 = -1 ∨ ∃ p, 0 < p ∧ p < 100 ∧ lpR v 2 = nI p := by
  have key : ∀ j, j ≤ 2 → lpR v j = -1 ∨ ∃ p, 0 < p ∧ p < 100 ∧ lpR v j = nI p := by
    intro j
    induction j with
    | zero => intro _; exact Or.inl rfl
    | succ j ih =>
      intro hj
      have hb := h.2.2.1 j (by omega)
      have e := ih (by omega)
      show lpS (lpR v j) (vMI v j 7) (nI (vMN v j 1)) = -1 ∨ ∃ p, 0 < p ∧ p < 100 ∧ lpS (lpR v j) (vMI v j 7) (nI (vMN v j 1)) = nI p
      unfold lpS
      split
      · split
        · exact Or.inr ⟨_, hb.2.1, hb.1, rfl⟩
        · exact e
      · exact e
  exact key 2 (Nat.le_refl _)
theorem mtF_zero {v : av_V} (h : okV v) (c : Nat) : mtF v c = 0 ↔ szN v c = 6 := by
  have hs := szN_le v c
  unfold mtF
  by_cases h1 : szN v c = 6
  · rw [if_pos h1]; exact ⟨fun _ => h1, fun _ => rfl⟩
  · rw [if_neg h1]
    refine ⟨fun e => ?_, fun e => absurd e h1⟩
    by_cases h2 : lpR v 2 = -1
    · rw [if_pos h2] at e; exact absurd e (by decide)
    · rw [if_neg h2] at e
      rcases lpR_cases h with h3 | ⟨p, hp0, hp1, h3⟩
      · exact absurd h3 h2
      · rw [h3, pk_mul] at e
        have h4 : (6 - szN v c) * p ≤ 6 * 100 := Nat.mul_le_mul (by omega) (by omega)
        have h5 : 0 < (6 - szN v c) * p := Nat.mul_pos (by omega) hp0
        exact absurd ((nI_eq (a := (6 - szN v c) * p) (b := 0) (by omega) (by decide)).mp e) (by omega)
theorem chE_0 (v : av_V) (c : Nat) : ¬ chE v c < 0 := by unfold chE; repeat' (first | split | decide)
theorem chE_2 (v : av_V) (c : Nat) : chE v c ≤ 2 := by unfold chE; repeat' (first | split | decide)
/-- a run that was just told is in its sample -/
theorem isR_last (v : av_V) (L : List Nat) (k : Nat) : isR v (L ++ [k]) k (L.length + 1) 0 = cK v k := by
  rw [isR_step, if_pos (by omega), if_pos (by rw [getD_app, if_pos rfl])]
/-- what a machine has run -/
def mcN (v : av_V) (j : Nat) : Nat := smR (fun k => if (vR v k).2.1 = j then 1 else 0) (vn v)
def mcOK (v : av_V) : Prop := ∀ j, j < 2 → vMN v j 6 = mcN v j
theorem mcN_le (v : av_V) (j : Nat) : mcN v j ≤ vn v := smR_le (g := fun k => if (vR v k).2.1 = j then 1 else 0) (fun i => by show (if (vR v i).2.1 = j then 1 else 0) ≤ 1; split <;> omega) _
theorem mcOK_run {v : av_V} {c j ti w : Nat} (h : mcOK v) : mcOK (setR v c j ti w) := by
  intro i hi
  have h1 := h i hi
  show (if i = j then (if 6 = 6 then vMN v j 6 + 1 else vMN v i 6) else vMN v i 6) = smR (fun k => if (vR (setR v c j ti w) k).2.1 = i then 1 else 0) (vn v) + (if (vR (setR v c j ti w) (vn v)).2.1 = i then 1 else 0)
  have e1 : smR (fun k => if (vR (setR v c j ti w) k).2.1 = i then 1 else 0) (vn v) = mcN v i := smR_congr (fun k hk => by rw [setR_vR_lt hk])
  rw [e1, setR_vR_at, ← h1]
  show (if i = j then vMN v j 6 + 1 else vMN v i 6) = vMN v i 6 + (if j = i then 1 else 0)
  by_cases e : i = j
  · subst e; rw [if_pos rfl, if_pos rfl]
  · rw [if_neg e, if_neg (Ne.symm e)]; rfl
theorem mcOK_same {v v' : av_V} (h : mcOK v) (k : sameV v v') : mcOK v' := by
  intro i hi
  unfold mcN
  rw [k.vMN, k.vR, k.vn]
  exact h i hi
theorem mcOK_M {v : av_V} {j x : Nat} {d : Int32} (h : mcOK v) : mcOK (setM v j x d) := by
  intro i hi
  have h1 := h i hi
  show (if i = j then (if 6 = 2 then x else vMN v i 6) else vMN v i 6) = mcN v i
  rw [← h1]
  by_cases e : i = j
  · rw [if_pos e]; rfl
  · rw [if_neg e]
/-- the doubles -/
def dabs (x : UInt64) : UInt64 := x &&& 0x7fffffffffffffff
def dq (h al : Nat) : UInt64 := FP.dmul (FP.ddiv (FP.i2d (nI h)) (FP.i2d (nI al))) (FP.i2d (nI al))
def dr (h al : Nat) : UInt64 := FP.dsub (dq h al) (FP.i2d (nI h))
def dblB (h al : Nat) : Bool := decide (dq h al &&& 0x7fffffffffffffff ≤ (0x7ff0000000000000 : UInt64)) && decide (dr h al &&& 0x7fffffffffffffff ≤ (0x7ff0000000000000 : UInt64)) && ! decide ((0 : Int32) ≤ Op.cmpValue (FP.dcmp (dabs (dr h al)) 4562254508917369340) .g)
set_option maxHeartbeats 40000000 in
set_option maxRecDepth 100000 in
theorem dbl_all : ∀ a, a < 7 → ∀ b, b < 7 → ∀ h, h < binN (a + b) a + 1 → 0 < h → dblB h (binN (a + b) a) = true := by decide +kernel
theorem dbl_ok {A B : List Nat} (hA : A.length ≤ 6) (hB : B.length ≤ 6) {h : Nat} (h0 : 0 < h) (h1 : h ≤ alN A B) : vf_n64 (dq h (alN A B)) ∧ vf_n64 (dr h (alN A B)) ∧ ¬ (0 : Int32) ≤ Op.cmpValue (FP.dcmp (dabs (dr h (alN A B))) 4562254508917369340) .g := by
  rw [alN_eq] at h1 ⊢
  have k := dbl_all _ (show A.length < 7 by omega) _ (show B.length < 7 by omega) h (by omega) h0
  unfold dblB at k
  simp only [Bool.and_eq_true, Bool.not_eq_true', decide_eq_true_eq, decide_eq_false_iff_not] at k
  exact ⟨k.1.1, k.1.2, k.2⟩
