/-! the state with one run more -/
def adU (ad : Nat → Nat) (t0 q : Nat) : Nat → Nat := fun t => if t = t0 then q else ad t
theorem adU_at (ad : Nat → Nat) (t0 q : Nat) : adU ad t0 q t0 = q := if_pos rfl
theorem adU_ne {ad : Nat → Nat} {t0 q t : Nat} (h : t ≠ t0) : adU ad t0 q t = ad t := if_neg h
def setR (v : av_V) (c j ti w : Nat) : av_V := ((fun i => if i = 2 then vN v 2 - vMN v j 1 else vN v i), v.2.1, (fun i n => if i = j then (if n = 6 then vMN v j 6 + 1 else vMN v i n) else vMN v i n), v.2.2.2.1, v.2.2.2.2.1, vn v + 1, (fun k => if k = vn v then (c, j, w) else vR v k), fun k => if k = vn v then (nI ti, 0) else vT v k)
theorem ltH.congr {E : rc_E} {G : tg_G} {t a n : Nat} {el el' : Nat → Nat} (h : ltH E G t a n el) (he : ∀ i, i < n → el i = el' i) : ltH E G t a n el' := by
  obtain ⟨mc, aa, h1, h2⟩ := h
  refine ⟨mc, aa, h1, h2.imp id ?_⟩
  rintro ⟨cap, f, k1, k2, k3, k4⟩
  exact ⟨cap, f, k1, k2, k3, fun i hi => by rw [k4 i hi, he i hi]⟩
section RUNS
variable {E : rc_E} {ad : Nat → Nat} {v : av_V} {G u : tg_G} {c j ti w q : Nat}
theorem setR_vR_lt {k : Nat} (h : k < vn v) : vR (setR v c j ti w) k = vR v k := if_neg (by omega)
theorem setR_vR_at : vR (setR v c j ti w) (vn v) = (c, j, w) := if_pos rfl
theorem setR_vT_lt {k : Nat} (h : k < vn v) : vT (setR v c j ti w) k = vT v k := if_neg (by omega)
theorem setR_vT_at : vT (setR v c j ti w) (vn v) = (nI ti, 0) := if_pos rfl
theorem ixs_run (x : Nat) : ixs (setR v c j ti w) x = if x = c then ixs v x ++ [vn v] else ixs v x := by
  show (List.range (vn v + 1)).filter (fun k => (vR (setR v c j ti w) k).1 == x) = _
  rw [List.range_succ, List.filter_append]
  have h1 : (List.range (vn v)).filter (fun k => (vR (setR v c j ti w) k).1 == x) = ixs v x := by
    unfold ixs
    refine List.filter_congr (fun k hk => ?_)
    rw [setR_vR_lt (List.mem_range.mp hk)]
  rw [h1]
  have h2 : (vR (setR v c j ti w) (vn v)).1 = c := by rw [setR_vR_at]
  by_cases e : x = c
  · rw [if_pos e, List.filter_cons_of_pos (by rw [h2, e]; exact beq_self_eq_true c)]
    rfl
  · rw [if_neg e, List.filter_cons_of_neg (by rw [h2]; intro z; exact e (eq_of_beq z).symm)]
    exact List.append_nil _
theorem getD_app (L : List Nat) (x i : Nat) : (L ++ [x]).getD i 0 = if i = L.length then x else L.getD i 0 := by
  rw [List.getD_eq_getElem?_getD, List.getD_eq_getElem?_getD]
  rcases Nat.lt_trichotomy i L.length with h | h | h
  · rw [if_neg (by omega), List.getElem?_append_left h]
  · subst h; rw [if_pos rfl]; simp
  · rw [if_neg (by omega), List.getElem?_eq_none (by simp; omega), List.getElem?_eq_none (by omega)]
theorem ssH.runs (h : ssH E ad v G) (hc : c < 6) (hj : j < 2) (hw : w < 2000000) (hn : vn v < 60) (h6 : vMN v j 6 < 60)
    (k8 : u 8 = some (ad 8, .inr (7, [.ref (ad 9), .ref (ad 11), .ref (ad 13), .ref (ad 40), .ref (ad 15), .ref (ad 17), .ref (ad 31), .int (nI (vN v 0)), .int (nI (vN v 1)), .int (nI (vN v 2 - vMN v j 1)), .int (nI (vN v 3)), .int (nI (vN v 4)), .int (vI v 0)])))
    (k13 : ltH E u 13 (ad 13) (vn v + 1) (fun i9 => if i9 = vn v then q else ad (64 + i9)))
    (kc : ltH E u (41 + 3 * c) (ad (41 + 3 * c)) ((ixs v c).length + 1) (fun i9 => if i9 = (ixs v c).length then q else ad (64 + (ixs v c).getD i9 0)))
    (km : u (32 + j) = some (ad (32 + j), .inr (4, [.int (nI j), .int (nI (vMN v j 1)), .int (nI (vMN v j 2)), .int (vMI v j 3), .int (vMI v j 4), .int (vMI v j 5), .int (nI (vMN v j 6 + 1)), .int (vMI v j 7)])))
    (kr : u (64 + vn v) = some (q, .inr (5, [.int (nI c), .ref (ad (32 + j)), .int (nI ti), .int (nI w), .int 0])))
    (off : ∀ t9, t9 ≠ 8 → t9 ≠ 13 → t9 ≠ 14 → t9 ≠ 41 + 3 * c → t9 ≠ 42 + 3 * c → t9 ≠ 32 + j → t9 ≠ 63 → t9 ≠ 64 + vn v → u t9 = G t9) :
    ssH E (adU ad (64 + vn v) q) (setR v c j ti w) u := by
  obtain ⟨k0, k1, ⟨h2, h3, h4⟩, g6, h7, g8, h9⟩ := h
  have A : ∀ t, t < 64 → adU ad (64 + vn v) q t = ad t := fun t ht => adU_ne (by omega)
  have Ak : ∀ k, k < vn v → adU ad (64 + vn v) q (64 + k) = ad (64 + k) := fun k hk => adU_ne (by omega)
  refine ⟨?_, ?_, ⟨?_, ?_, ?_⟩, ?_, fun i hi => ?_, fun x hx => ⟨?_, ?_⟩, fun k hk => ?_⟩
  · obtain ⟨a1, a2, a3, a4, a5, a6, a7, a8, a9⟩ := k0
    refine ⟨by show vn v + 1 ≤ 60; omega, fun k hk => ?_, fun i hi => ?_, fun k hk => ?_, a5, a6, a7, by show vN v 2 - vMN v j 1 ≤ 5000; omega, a9⟩
    · have hk' : k < vn v + 1 := hk
      by_cases e : k = vn v
      · subst e; rw [setR_vR_at]; exact ⟨hc, hj, hw⟩
      · rw [setR_vR_lt (by omega)]; exact a2 k (by omega)
    · obtain ⟨b1, b2, b3, b4, b5, b6⟩ := a3 i hi
      by_cases e : i = j
      · subst e
        have e1 : ∀ n, vMN (setR v c i ti w) i n = if n = 6 then vMN v i 6 + 1 else vMN v i n := fun n => if_pos rfl
        rw [e1, e1, e1]
        exact ⟨b1, b2, b3, b4, by show vMN v i 6 + 1 ≤ 60; omega, b6⟩
      · have e1 : ∀ n, vMN (setR v c j ti w) i n = vMN v i n := fun n => if_neg e
        rw [e1, e1, e1]
        exact ⟨b1, b2, b3, b4, b5, b6⟩
    · have hk' : k < vn v + 1 := hk
      by_cases e : k = vn v
      · subst e; rw [setR_vT_at]; exact Or.inl rfl
      · rw [setR_vT_lt (by omega)]; exact a4 k (by omega)
  · rw [A 8 (by omega), A 9 (by omega), A 11 (by omega), A 13 (by omega), A 40 (by omega), A 15 (by omega), A 17 (by omega), A 31 (by omega)]
    exact k8
  · rw [A 9 (by omega)]
    exact (h2.of (off 9 (by omega) (by omega) (by omega) (by omega) (by omega) (by omega) (by omega) (by omega)) (off 10 (by omega) (by omega) (by omega) (by omega) (by omega) (by omega) (by omega) (by omega))).congr (fun i hi => (A _ (by omega)).symm)
  · rw [A 11 (by omega)]
    exact (h3.of (off 11 (by omega) (by omega) (by omega) (by omega) (by omega) (by omega) (by omega) (by omega)) (off 12 (by omega) (by omega) (by omega) (by omega) (by omega) (by omega) (by omega) (by omega))).congr (fun i hi => (A _ (by omega)).symm)
  · rw [A 13 (by omega)]
    refine ltH.congr k13 (fun i hi => ?_)
    show (if i = vn v then q else ad (64 + i)) = adU ad (64 + vn v) q (64 + i)
    by_cases e : i = vn v
    · subst e; rw [if_pos rfl, adU_at]
    · have hi' : i < vn v + 1 := hi
      rw [if_neg e, Ak i (by omega)]
  · rw [A 31 (by omega)]
    exact (off 31 (by omega) (by omega) (by omega) (by omega) (by omega) (by omega) (by omega) (by omega)).trans g6
  · unfold maH
    rw [A (32 + i) (by omega)]
    by_cases e : i = j
    · subst e
      have e1 : ∀ n, vMN (setR v c i ti w) i n = if n = 6 then vMN v i 6 + 1 else vMN v i n := fun n => if_pos rfl
      rw [e1, e1, e1]
      exact km
    · have e1 : ∀ n, vMN (setR v c j ti w) i n = vMN v i n := fun n => if_neg e
      rw [e1, e1, e1]
      exact (off (32 + i) (by omega) (by omega) (by omega) (by omega) (by omega) (by omega) (by omega) (by omega)).trans (h7 i hi)
  · rw [A (40 + 3 * x) (by omega), A (41 + 3 * x) (by omega)]
    exact (off (40 + 3 * x) (by omega) (by omega) (by omega) (by omega) (by omega) (by omega) (by omega) (by omega)).trans (g8 x hx).1
  · rw [A (41 + 3 * x) (by omega), ixs_run]
    by_cases e : x = c
    · subst e
      rw [if_pos rfl, List.length_append]
      refine ltH.congr kc (fun i hi => ?_)
      show (if i = (ixs v x).length then q else ad (64 + (ixs v x).getD i 0)) = adU ad (64 + vn v) q (64 + (ixs v x ++ [vn v]).getD i 0)
      rw [getD_app]
      by_cases e2 : i = (ixs v x).length
      · rw [if_pos e2, if_pos e2, adU_at]
      · have hi' : i < (ixs v x).length + 1 := hi
        rw [if_neg e2, if_neg e2, Ak _ (ixs_mem (by omega)).1]
    · rw [if_neg e]
      exact ((g8 x hx).2.of (off _ (by omega) (by omega) (by omega) (by omega) (by omega) (by omega) (by omega) (by omega)) (off _ (by omega) (by omega) (by omega) (by omega) (by omega) (by omega) (by omega) (by omega))).congr (fun i hi => (Ak _ (ixs_mem hi).1).symm)
  · have hk' : k < vn v + 1 := hk
    unfold ruH
    by_cases e : k = vn v
    · subst e
      rw [setR_vR_at, setR_vT_at, adU_at, A _ (by show 32 + j < 64; omega)]
      exact kr
    · have hk2 : k < vn v := by omega
      rw [setR_vR_lt hk2, setR_vT_lt hk2, Ak k hk2, A _ (by have := (k0.2.1 k hk2).2.1; omega)]
      exact (off (64 + k) (by omega) (by omega) (by omega) (by omega) (by omega) (by omega) (by omega) (by omega)).trans (h9 k hk2)
theorem smH.adeq {L : List Nat} {t a a9 b b9 : Nat} (h : smH E G t a a9 L) (e1 : b = a) (e2 : b9 = a9) : smH E G t b b9 L := by
  subst e1 e2
  exact h
theorem scH.adU (h : scH E ad u) {t0 : Nat} (ht : 64 ≤ t0) : scH E (adU ad t0 q) u := by
  have A : ∀ t, t < 64 → CRegressionCourtLaw_law_r8564_bf6d65.adU ad t0 q t = ad t := fun t h9 => adU_ne (by omega)
  obtain ⟨⟨L0, k0⟩, ⟨L1, k1⟩, ⟨L2, k2⟩, ⟨⟨u4, u5, u6, u7, u8, u9, h1⟩, ⟨g, h2⟩, ⟨rw9, h3, h4⟩, h5⟩⟩ := h
  refine ⟨⟨L0, k0.adeq (A 15 (by omega)) (A 16 (by omega))⟩, ⟨L1, k1.adeq (A 18 (by omega)) (A 19 (by omega))⟩, ⟨L2, k2.adeq (A 20 (by omega)) (A 21 (by omega))⟩, ⟨u4, u5, u6, u7, u8, u9, ?_⟩, ⟨g, ?_⟩, ⟨rw9, ?_, fun c9 h9 => ?_⟩, fun c9 h9 => ?_⟩
  · rw [A 17 (by omega), A 18 (by omega), A 20 (by omega), A 22 (by omega), A 23 (by omega)]; exact h1
  · rw [A 22 (by omega)]; exact h2
  · rw [A 23 (by omega)]; exact h3
  · rw [A (24 + c9) (by omega)]; exact h4 c9 h9
  · rw [A (24 + c9) (by omega)]; exact h5 c9 h9
end RUNS
