/-! the court as it is set up: many new cells at once, the state behind the setup -/
def tg_ups (G : tg_G) (tb : Nat) (L : va_W) : tg_G := fun t => if tb ≤ t ∧ t < tb + L.length then L[t - tb]? else G t
theorem tg_addL {E : rc_E} {A : Nat → Prop} {s : State} {G : tg_G} {H : Heap} {locs : List Loc} (h : tg_W E A s G H locs) : ∃ ws : va_W, rc_W E A s ws H locs ∧ ∀ (tb : Nat) (L : va_W) (H1 : Heap) (locs1 : List Loc), rc_W E A s (ws ++ L) H1 locs1 → tg_W E A s (tg_ups G tb L) H1 locs1 := by
  obtain ⟨ws, h1, h2, h3⟩ := tg_list h
  obtain ⟨⟨⟨N, hN⟩, hi, hP⟩, hA, hS⟩ := h
  refine ⟨ws, h1, fun tb L H1 locs1 hw => ?_⟩
  obtain ⟨gP, gD, gS⟩ := hw
  have key : ∀ (t : Nat) (x : Nat × va_E), tg_ups G tb L t = some x → (tb ≤ t ∧ (ws ++ L)[ws.length + (t - tb)]? = some x) ∨ (G t = some x ∧ ∃ k : Nat, k < ws.length ∧ (ws ++ L)[k]? = some x) := by
    intro t x hx
    unfold tg_ups at hx
    by_cases hn : tb ≤ t ∧ t < tb + L.length
    · rw [if_pos hn] at hx
      refine Or.inl ⟨hn.1, ?_⟩
      rw [List.getElem?_append_right (by omega), Nat.add_sub_cancel_left]
      exact hx
    · rw [if_neg hn] at hx
      obtain ⟨k, hk⟩ := h2 t x hx
      have hl := (List.getElem?_eq_some_iff.mp hk).1
      exact Or.inr ⟨hx, k, hl, by rw [List.getElem?_append_left hl]; exact hk⟩
  refine ⟨⟨⟨max N (tb + L.length), fun t ht => ?_⟩, fun t1 t2 x1 x2 g1 g2 hx => ?_, fun t x hx => ?_⟩, fun t x hx => ?_, gS⟩
  · unfold tg_ups
    rw [if_neg (by omega)]
    exact hN t (by omega)
  · rcases key t1 x1 g1 with ⟨a1, a2⟩ | ⟨a1, k1, a2, a3⟩ <;> rcases key t2 x2 g2 with ⟨b1, b2⟩ | ⟨b1, k2, b2, b3⟩
    · have := gD.1 _ _ _ _ a2 b2 hx
      omega
    · have := gD.1 _ _ _ _ a2 b3 hx
      omega
    · have := gD.1 _ _ _ _ a3 b2 hx
      omega
    · exact hi t1 t2 x1 x2 a1 b1 hx
  · rcases key t x hx with ⟨a1, a2⟩ | ⟨a1, k1, a2, a3⟩
    · exact gP _ x a2
    · exact gP _ x a3
  · rcases key t x hx with ⟨a1, a2⟩ | ⟨a1, k1, a2, a3⟩
    · exact gD.2 _ x a2
    · exact gD.2 _ x a3
section MNA
variable {p : Program} {l : Launch} {e : Env} {R : Room} {s : State} {m : MethodId} {args : Array Value} {below : List Frame} {meth : Method} {c : Code} {H : Heap} {locs : List Loc} {cells slots : Nat} {Q : State → Prop}
variable {cc : ByteArray} {pc : Nat} {ls : Array Slot} {rest st0 : List Value} {E : rc_E} {A : Nat → Prop} {G : tg_G} {own : String} {index : Nat}
theorem tg_mna7 (tb : Nat) (hx : p.tables.exec = Jvm.exec) (hb : c.code = cc) (hown : s.vm.findClass own = some m.cls) (hAm : rc_Amb E A s s.heap) (hA : ∀ q, s.heap.size ≤ q → A q) (hw : tg_W E A s G H locs) (h1 : Cond.classLink own index "[[I" ∈ lw_tbl) (h2 : Cond.arrayOver (.array .int) ∈ lw_tbl) (h3 : Cond.arrayClass .int ∈ lw_tbl) {n k : Int32} (K1 : Nat) (hN : ¬ n < 0 ∧ n.toNatClampNeg = 7) (hK : ¬ k < 0 ∧ k.toNatClampNeg = K1) (hb2 : K1 * componentBytes .int ≤ 536870912) (hb3 : K1 ≤ 536870912) (hcells : cells + (1 + 7) ≤ R.cells) (hslots : slots + (7 + 7 * K1) ≤ R.slots) (hdg : decode cc pc = .ok (.multianewarray index 2, 4))
    (kk : ∀ (q : Nat) (r : Nat → Nat) (rw9 : Nat → Option Nat) (G1 : tg_G) (H1 : Heap), G1 tb = some (q, .inl (E.2.1 1, 7, .inr (.inr (.inr (.inr rw9))))) → (∀ c9, c9 < 7 → rw9 c9 = some (r c9)) → (∀ c9, c9 < 7 → G1 (tb + 1 + c9) = some (r c9, .inl (E.2.1 0, K1, .inl (fun _ => 0)))) → (∀ t9 : Nat, t9 < tb ∨ tb + 8 ≤ t9 → G1 t9 = G t9) → tg_W E A s G1 H1 locs → W p l e R s m args below meth c H1 locs (cells + 1 + 7) (slots + 7 + 7 * K1) Q (F0 m (pc + 4) ls (.ref q :: rest))) : W p l e R s m args below meth c H locs cells slots Q (F0 m pc ls (.int k :: .int n :: rest)) := by
  obtain ⟨ws, y1, y2⟩ := tg_addL hw
  refine rc_mna7 hx hb hown hAm hA y1 h1 h2 h3 K1 hN hK hb2 hb3 hcells hslots hdg (fun q q0 q1 q2 q3 q4 q5 q6 H1 g => ?_)
  refine kk q (fun k => [q0, q1, q2, q3, q4, q5, q6].getD k 0) (rc_rows [q0, q1, q2, q3, q4, q5, q6]) _ H1 ?_ ?_ ?_ ?_ (y2 tb _ _ _ g)
  · unfold tg_ups
    rw [if_pos ⟨Nat.le_refl _, Nat.lt_add_of_pos_right (show (0 : Nat) < 8 by decide)⟩, Nat.sub_self]
    rfl
  · intro c9 h9
    rcases (show c9 = 0 ∨ c9 = 1 ∨ c9 = 2 ∨ c9 = 3 ∨ c9 = 4 ∨ c9 = 5 ∨ c9 = 6 by omega) with rfl | rfl | rfl | rfl | rfl | rfl | rfl <;> rfl
  · intro c9 h9
    unfold tg_ups
    rw [if_pos ⟨by omega, by show _ < tb + 8; omega⟩, show tb + 1 + c9 - tb = 1 + c9 by omega]
    rcases (show c9 = 0 ∨ c9 = 1 ∨ c9 = 2 ∨ c9 = 3 ∨ c9 = 4 ∨ c9 = 5 ∨ c9 = 6 by omega) with rfl | rfl | rfl | rfl | rfl | rfl | rfl <;> rfl
  · intro t9 h9
    unfold tg_ups
    exact if_neg (fun z => by have z2 : t9 < tb + 8 := z.2; omega)
end MNA
/-- the state behind the setup, by the machines' prices and measures -/
def vS (pr : Nat → Nat × Nat) : av_V := (fun i => [3, 50, 1000, 100, 0].getD i 0, fun i => if i = 0 then -1 else if i = 1 then 0 else -1, fun j n => if n = 1 then (pr j).1 else if n = 2 then (pr j).2 else 0, fun j n => if n = 3 then nI (pr j).2 else if n = 4 then nI (pr j).2 else if n = 5 then 1 else 0, fun _ => (0, 0), 0, fun _ => (0, 0, 0), fun _ => (0, 0))
def siH (E : rc_E) (ad : Nat → Nat) (pr : Nat → Nat × Nat) (nm nc : Nat) (G : tg_G) : Prop := G 8 = some (ad 8, .inr (7, [.ref (ad 9), .ref (ad 11), .ref (ad 13), .ref (ad 40), .ref (ad 15), .ref (ad 17), .ref (ad 31), .int 3, .int 50, .int 1000, .int 100, .int 0, .int (-1)])) ∧ (ltH E G 9 (ad 9) nm (fun j => ad (32 + j)) ∧ ltH E G 11 (ad 11) nc (fun c => ad (40 + 3 * c)) ∧ ltH E G 13 (ad 13) 0 (fun k => ad (64 + k))) ∧ G 31 = some (ad 31, .inr (1, [.int 0, .int (-1), .int (-1), .int (-1)])) ∧ (∀ j, j < nm → maH ad (vS pr) G j) ∧ (∀ c, c < nc → chH E ad (vS pr) G c) ∧ scH E ad G
theorem scH.adE {E : rc_E} {ad ad' : Nat → Nat} {u : tg_G} (h : scH E ad u) (A : ∀ t, t < 32 → ad' t = ad t) : scH E ad' u := by
  obtain ⟨⟨L0, k0⟩, ⟨L1, k1⟩, ⟨L2, k2⟩, ⟨⟨u4, u5, u6, u7, u8, u9, h1⟩, ⟨g, h2⟩, ⟨rw9, h3, h4⟩, h5⟩⟩ := h
  refine ⟨⟨L0, k0.adeq (A 15 (by omega)) (A 16 (by omega))⟩, ⟨L1, k1.adeq (A 18 (by omega)) (A 19 (by omega))⟩, ⟨L2, k2.adeq (A 20 (by omega)) (A 21 (by omega))⟩, ⟨u4, u5, u6, u7, u8, u9, ?_⟩, ⟨g, ?_⟩, ⟨rw9, ?_, fun c9 h9 => ?_⟩, fun c9 h9 => ?_⟩
  · rw [A 17 (by omega), A 18 (by omega), A 20 (by omega), A 22 (by omega), A 23 (by omega)]; exact h1
  · rw [A 22 (by omega)]; exact h2
  · rw [A 23 (by omega)]; exact h3
  · rw [A (24 + c9) (by omega)]; exact h4 c9 h9
  · rw [A (24 + c9) (by omega)]; exact h5 c9 h9
def prU (pr : Nat → Nat × Nat) (n q x : Nat) : Nat → Nat × Nat := fun j => if j = n then (q, x) else pr j
section SIH
variable {E : rc_E} {ad : Nat → Nat} {pr : Nat → Nat × Nat} {nm nc : Nat} {G u : tg_G}
theorem siH.chg (h : siH E ad pr nm nc G) (hn1 : 1 ≤ nc) (hnc : nc < 6) (hnm : nm ≤ 2) {q q2 : Nat} (k11 : ltH E u 11 (ad 11) (nc + 1) (fun i9 => if i9 = nc then q else ad (40 + 3 * i9))) (kc : u (40 + 3 * nc) = some (q, .inr (2, [.ref q2, .int 0, .int 0]))) (kl : u (41 + 3 * nc) = some (q2, .inr (0, [.int 0, .ref (E.2.2 0), .int 0]))) (off : ∀ t9, t9 ≠ 11 → t9 ≠ 12 → t9 ≠ 40 + 3 * nc → t9 ≠ 41 + 3 * nc → t9 ≠ 63 → u t9 = G t9) : ∃ ad', ad' 8 = ad 8 ∧ siH E ad' pr nm (nc + 1) u := by
  obtain ⟨h8, ⟨h9, h11, h13⟩, h31, hm, hc, hs⟩ := h
  obtain ⟨ad2, had2⟩ : ∃ ad2, ad2 = adU (adU ad (40 + 3 * nc) q) (41 + 3 * nc) q2 := ⟨_, rfl⟩
  have e : ∀ t, t ≠ 40 + 3 * nc → t ≠ 41 + 3 * nc → ad2 t = ad t := fun t h1 h2 => by rw [had2]; exact (adU_ne h2).trans (adU_ne h1)
  have eq1 : ad2 (40 + 3 * nc) = q := by rw [had2]; exact (adU_ne (by omega)).trans (adU_at _ _ _)
  have eq2 : ad2 (41 + 3 * nc) = q2 := by rw [had2]; exact adU_at _ _ _
  refine ⟨ad2, e 8 (by omega) (by omega), ?_, ⟨?_, ?_, ?_⟩, ?_, fun j hj => ?_, fun x hx => ⟨?_, ?_⟩, ?_⟩
  · rw [e 8 (by omega) (by omega), e 9 (by omega) (by omega), e 11 (by omega) (by omega), e 13 (by omega) (by omega), e 40 (by omega) (by omega), e 15 (by omega) (by omega), e 17 (by omega) (by omega), e 31 (by omega) (by omega)]
    exact (off 8 (by omega) (by omega) (by omega) (by omega) (by omega)).trans h8
  · rw [e 9 (by omega) (by omega)]
    exact (h9.of (off 9 (by omega) (by omega) (by omega) (by omega) (by omega)) (off 10 (by omega) (by omega) (by omega) (by omega) (by omega))).congr (fun i hi => (e _ (by omega) (by omega)).symm)
  · rw [e 11 (by omega) (by omega)]
    refine ltH.congr k11 (fun i hi => ?_)
    show (if i = nc then q else ad (40 + 3 * i)) = ad2 (40 + 3 * i)
    by_cases z : i = nc
    · subst z; rw [if_pos rfl, eq1]
    · rw [if_neg z, e _ (by omega) (by omega)]
  · rw [e 13 (by omega) (by omega)]
    exact (h13.of (off 13 (by omega) (by omega) (by omega) (by omega) (by omega)) (off 14 (by omega) (by omega) (by omega) (by omega) (by omega))).congr (fun i hi => absurd hi (Nat.not_lt_zero i))
  · rw [e 31 (by omega) (by omega)]
    exact (off 31 (by omega) (by omega) (by omega) (by omega) (by omega)).trans h31
  · unfold maH
    rw [e (32 + j) (by omega) (by omega)]
    exact (off (32 + j) (by omega) (by omega) (by omega) (by omega) (by omega)).trans (hm j hj)
  · by_cases z : x = nc
    · subst z; rw [eq1, eq2]; exact kc
    · rw [e (40 + 3 * x) (by omega) (by omega), e (41 + 3 * x) (by omega) (by omega)]
      exact (off _ (by omega) (by omega) (by omega) (by omega) (by omega)).trans (hc x (by omega)).1
  · by_cases z : x = nc
    · subst z; rw [eq2]; exact ⟨0, _, kl, Or.inl ⟨rfl, rfl⟩⟩
    · rw [e (41 + 3 * x) (by omega) (by omega)]
      exact ((hc x (by omega)).2.of (off _ (by omega) (by omega) (by omega) (by omega) (by omega)) (off _ (by omega) (by omega) (by omega) (by omega) (by omega))).congr (fun i hi => absurd hi (Nat.not_lt_zero i))
  · exact (hs.off (fun t9 h8 h9 => off t9 (by omega) (by omega) (by omega) (by omega) (by omega))).adE (fun t ht => e t (by omega) (by omega))
theorem siH.mch (h : siH E ad pr nm nc G) (hn1 : 1 ≤ nc) (hnc : nc ≤ 6) (hnm : nm < 2) {q q1 x : Nat} (k9 : ltH E u 9 (ad 9) (nm + 1) (fun i9 => if i9 = nm then q else ad (32 + i9))) (km : u (32 + nm) = some (q, .inr (4, [.int (nI nm), .int (nI q1), .int (nI x), .int (nI x), .int (nI x), .int 1, .int 0, .int 0]))) (off : ∀ t9, t9 ≠ 9 → t9 ≠ 10 → t9 ≠ 32 + nm → t9 ≠ 63 → u t9 = G t9) : ∃ ad', ad' 8 = ad 8 ∧ siH E ad' (prU pr nm q1 x) (nm + 1) nc u := by
  obtain ⟨h8, ⟨h9, h11, h13⟩, h31, hm, hc, hs⟩ := h
  obtain ⟨ad2, had2⟩ : ∃ ad2, ad2 = adU ad (32 + nm) q := ⟨_, rfl⟩
  have e : ∀ t, t ≠ 32 + nm → ad2 t = ad t := fun t h1 => by rw [had2]; exact adU_ne h1
  have eq1 : ad2 (32 + nm) = q := by rw [had2]; exact adU_at _ _ _
  refine ⟨ad2, e 8 (by omega), ?_, ⟨?_, ?_, ?_⟩, ?_, fun j hj => ?_, fun y hy => ⟨?_, ?_⟩, ?_⟩
  · rw [e 8 (by omega), e 9 (by omega), e 11 (by omega), e 13 (by omega), e 40 (by omega), e 15 (by omega), e 17 (by omega), e 31 (by omega)]
    exact (off 8 (by omega) (by omega) (by omega) (by omega)).trans h8
  · rw [e 9 (by omega)]
    refine ltH.congr k9 (fun i hi => ?_)
    show (if i = nm then q else ad (32 + i)) = ad2 (32 + i)
    by_cases z : i = nm
    · subst z; rw [if_pos rfl, eq1]
    · rw [if_neg z, e _ (by omega)]
  · rw [e 11 (by omega)]
    exact (h11.of (off 11 (by omega) (by omega) (by omega) (by omega)) (off 12 (by omega) (by omega) (by omega) (by omega))).congr (fun i hi => (e _ (by omega)).symm)
  · rw [e 13 (by omega)]
    exact (h13.of (off 13 (by omega) (by omega) (by omega) (by omega)) (off 14 (by omega) (by omega) (by omega) (by omega))).congr (fun i hi => absurd hi (Nat.not_lt_zero i))
  · rw [e 31 (by omega)]
    exact (off 31 (by omega) (by omega) (by omega) (by omega)).trans h31
  · by_cases z : j = nm
    · subst z
      unfold maH
      rw [eq1]
      show u (32 + j) = some (q, .inr (4, [.int (nI j), .int (nI (if j = j then (q1, x) else pr j).1), .int (nI (if j = j then (q1, x) else pr j).2), .int (nI (if j = j then (q1, x) else pr j).2), .int (nI (if j = j then (q1, x) else pr j).2), .int 1, .int 0, .int 0]))
      rw [if_pos rfl]
      exact km
    · unfold maH
      rw [e (32 + j) (by omega)]
      show u (32 + j) = some (ad (32 + j), .inr (4, [.int (nI j), .int (nI (if j = nm then (q1, x) else pr j).1), .int (nI (if j = nm then (q1, x) else pr j).2), .int (nI (if j = nm then (q1, x) else pr j).2), .int (nI (if j = nm then (q1, x) else pr j).2), .int 1, .int 0, .int 0]))
      rw [if_neg z]
      exact (off (32 + j) (by omega) (by omega) (by omega) (by omega)).trans (hm j (by omega))
  · rw [e (40 + 3 * y) (by omega), e (41 + 3 * y) (by omega)]
    exact (off _ (by omega) (by omega) (by omega) (by omega)).trans (hc y hy).1
  · rw [e (41 + 3 * y) (by omega)]
    exact ((hc y hy).2.of (off _ (by omega) (by omega) (by omega) (by omega)) (off _ (by omega) (by omega) (by omega) (by omega))).congr (fun i hi => absurd hi (Nat.not_lt_zero i))
  · exact (hs.off (fun t9 h8 h9 => off t9 (by omega) (by omega) (by omega) (by omega))).adE (fun t ht => e t (by omega))
theorem siH.st (h : siH E ad pr 2 6 G) (hp : ∀ j, j < 2 → 1 ≤ (pr j).1 ∧ (pr j).1 < 100 ∧ 1 ≤ (pr j).2 ∧ (pr j).2 ≤ 200) : stH E ad (vS pr) G ∧ nmOK (vS pr) ∧ caseOK (vS pr) ∧ mcOK (vS pr) := by
  obtain ⟨h8, ⟨h9, h11, h13⟩, h31, hm, hc, hs⟩ := h
  refine ⟨⟨⟨⟨Nat.zero_le _, fun k hk => absurd hk (Nat.not_lt_zero k), fun j hj => ?_, fun k hk => absurd hk (Nat.not_lt_zero k), fun c _ => ⟨Or.inl rfl, Or.inl rfl⟩, show (3 : Nat) < 7 by decide, show (50 : Nat) ≤ 200 by decide, show (1000 : Nat) ≤ 5000 by decide, show (100 : Nat) ≤ 100 + 10 * 0 by decide, show (0 : Nat) < 6 by decide⟩, h8, ⟨h9, h11, h13⟩, h31, hm, hc, fun k hk => absurd hk (Nat.not_lt_zero k)⟩, hs⟩, Or.inl ⟨rfl, fun _ _ => rfl⟩, Or.inl ⟨rfl, rfl, rfl, rfl⟩, fun j _ => rfl⟩
  obtain ⟨b1, b2, b3, b4⟩ := hp j hj
  exact ⟨b2, b1, b3, b4, Nat.zero_le _, Or.inl rfl⟩
end SIH
