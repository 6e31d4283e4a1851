/-! the law's check of the samples -/
def inN (v : av_V) (k c : Nat) : Nat := smR (fun i => if (vR v i).1 = c then isR v (ixs v (vR v i).1) i (ixs v (vR v i).1).length 0 else 0) k
def evN (v : av_V) (k c : Nat) : Nat := smR (fun i => if (vR v i).1 = c then 1 else 0) k
def pmN (v : av_V) (k j : Nat) : Nat := smR (fun i => if (vR v i).2.1 = j then 1 else 0) k
theorem inN_le (v : av_V) (k c : Nat) : inN v k c ≤ k := smR_le (g := fun i => if (vR v i).1 = c then isR v (ixs v (vR v i).1) i (ixs v (vR v i).1).length 0 else 0) (fun i => by show (if (vR v i).1 = c then _ else 0) ≤ 1; split; exact isR_le _ _ _ _ _; omega) k
theorem evN_le (v : av_V) (k c : Nat) : evN v k c ≤ k := smR_le (g := fun i => if (vR v i).1 = c then 1 else 0) (fun i => by show (if (vR v i).1 = c then 1 else 0) ≤ 1; split <;> omega) k
theorem pmN_le (v : av_V) (k j : Nat) : pmN v k j ≤ k := smR_le (g := fun i => if (vR v i).2.1 = j then 1 else 0) (fun i => by show (if (vR v i).2.1 = j then 1 else 0) ≤ 1; split <;> omega) k
theorem isR_cK (v : av_V) (L : List Nat) (k : Nat) : ∀ m n, isR v L k m n ≤ cK v k
  | 0, _ => Nat.zero_le _
  | m + 1, n => by
    rw [isR_step]
    split
    · split
      · exact Nat.le_refl _
      · exact isR_cK v L k m _
    · exact Nat.zero_le _
theorem cK_as {v : av_V} {k : Nat} (h : cK v k = 1) : vMI v (vR v k).2.1 7 = 0 := by
  by_cases e : vMI v (vR v k).2.1 7 = 0
  · exact e
  · unfold cK at h
    rw [cN_a e] at h
    omega
theorem up_sum {g : Nat → Int32} {F : Nat → Nat} {N x y : Nat} (hg : ∀ c, c < N → g c = nI (F c)) : ∀ c, c < N → upd g x (nI (F x + y)) c = nI (F c + if x = c then y else 0) := by
  intro c hc
  show (if c = x then nI (F x + y) else g c) = _
  by_cases e : c = x
  · subst e; rw [if_pos rfl, if_pos rfl]
  · rw [if_neg e, if_neg (Ne.symm e), hg c hc]; rfl
theorem ssH.ge8 {E : rc_E} {ad : Nat → Nat} {v : av_V} {G u : tg_G} (h : ssH E ad v G) (ho : ∀ t9, 8 ≤ t9 → u t9 = G t9) : ssH E ad v u := by
  obtain ⟨k0, h1, ⟨h2, h3, h4⟩, h6, h7, h8, h9⟩ := h
  exact ⟨k0, (ho _ (by omega)).trans h1, ⟨h2.of (ho _ (by omega)) (ho _ (by omega)), h3.of (ho _ (by omega)) (ho _ (by omega)), h4.of (ho _ (by omega)) (ho _ (by omega))⟩, (ho _ (by omega)).trans h6, fun j hj => (ho _ (by omega)).trans (h7 j hj), fun c hc => ⟨(ho _ (by omega)).trans (h8 c hc).1, (h8 c hc).2.of (ho _ (by omega)) (ho _ (by omega))⟩, fun k hk => (ho _ (by omega)).trans (h9 k hk)⟩
theorem aside_sum {v : av_V} (h : okV v) : nI (smR (fun j => bN (vMI v j 7)) 2) = vMI v 0 7 + vMI v 1 7 := by
  show nI (0 + bN (vMI v 0 7) + bN (vMI v 1 7)) = _
  rw [Nat.zero_add, ← nI_add, ← bN_of (h.2.2.1 0 (by omega)).2.2.2.2.2, ← bN_of (h.2.2.1 1 (by omega)).2.2.2.2.2]
theorem hd_X6_ofMachine : yX6_ofMachine.cls ≠ "java/lang/invoke/MethodHandle" ∧ yX6_ofMachine.cls ≠ "java/lang/invoke/VarHandle" ∧ (parseMethodDescriptor yX6_ofMachine.desc).map (fun d => d.parameters.length) = some 2 := by decide +kernel
theorem hd_X6_minutesFor : yX6_minutesFor.cls ≠ "java/lang/invoke/MethodHandle" ∧ yX6_minutesFor.cls ≠ "java/lang/invoke/VarHandle" ∧ (parseMethodDescriptor yX6_minutesFor.desc).map (fun d => d.parameters.length) = some 1 := by decide +kernel
theorem hd_X6_ofRun : yX6_ofRun.cls ≠ "java/lang/invoke/MethodHandle" ∧ yX6_ofRun.cls ≠ "java/lang/invoke/VarHandle" ∧ (parseMethodDescriptor yX6_ofRun.desc).map (fun d => d.parameters.length) = some 2 := by decide +kernel
set_option maxHeartbeats 16000000 in
set_option maxRecDepth 100000 in
theorem lw_samples (l : Launch) (E : rc_E) (sz : Nat) (ad : Nat → Nat) (v : av_V) (G : tg_G) (hI : ssH E ad v G) (hS : scH E ad G) (hmc : mcOK v) : tg_M l yL_areSamplesRight [Cond.code yL_areSamplesRight cL_areSamplesRight 7 (some FieldType.boolean)] { frames := 6, cells := 3, slots := 14, locals := 132 } E [.ref (ad 8)] G sz (tg_Qi E (fun r u => r = 1 ∧ scH E ad u ∧ ∀ t9, 8 ≤ t9 ∧ t9 < 15 ∨ 31 ≤ t9 → u t9 = G t9)) 3 14 := by
  refine tg_in (cc := cL_areSamplesRight) (maxL := 7) (ret := (some FieldType.boolean)) (tg_Qi E (fun r u => r = 1 ∧ scH E ad u ∧ ∀ t9, 8 ≤ t9 ∧ t9 < 15 ∨ 31 ≤ t9 → u t9 = G t9)) (by decide) rfl (Nat.le_of_ble_eq_true rfl) ?_
  intro p e s m args below meth cd ls A hx hb hr hml hown hlocks hin hA hAm hw hl
  have hown : s.vm.findClass RL = some m.cls := hown
  have hl : lv_has ls 7 [(0, .ref (ad 8))] := hl
  have h0 : okV v := hI.1
  have hn60 := h0.1
  have loop2 : ∀ (r c : Nat) (qa qb qc : Nat) (f g h : Nat → Int32) (ls : Array Slot) (G1 : tg_G) (H : Heap) (locs : List Loc), c + r = 6 → (∀ c, c < 6 → f c = nI (inN v (vn v) c)) → (∀ c, c < 6 → g c = nI (evN v (vn v) c)) → (∀ j, j < 2 → h j = nI (pmN v (vn v) j)) → ssH E ad v G1 → scH E ad G1 → G1 0 = some (qa, .inl (E.2.1 0, 6, .inl f)) → G1 1 = some (qb, .inl (E.2.1 0, 6, .inl g)) → G1 2 = some (qc, .inl (E.2.1 0, 2, .inl h)) → (∀ t9, 8 ≤ t9 ∧ t9 < 15 ∨ 31 ≤ t9 → G1 t9 = G t9) → tg_W E A s G1 H locs → lv_has ls 7 [(0, .ref (ad 8)), (1, .ref qa), (2, .ref qb), (3, .int (nI (smR (fun k => cK v k) (vn v)))), (4, .ref qc), (5, .int (nI c))] → W p l e { frames := 6, cells := 3, slots := 14, locals := 132 } s m args below meth cd H locs 3 14 (MQ below ((tg_Qi E (fun r u => r = 1 ∧ scH E ad u ∧ ∀ t9, 8 ≤ t9 ∧ t9 < 15 ∨ 31 ≤ t9 → u t9 = G t9)) A) args s 3 14 A) (F0 m 155 ls []) := by
    intro r
    induction r with
    | zero =>
      intro c qa qb qc f g h ls G1 H locs hk hf hg hh hI hS ha1 ha2 ha3 HO hw hl
      have hco := hI.2.1
      have hck := smR_le (g := fun k => cK v k) (cK_le v) (vn v)
      have hck2 : smR (fun k => cK v k) (vn v) ≤ vn v := hck
      have hmc0 : vMN v 0 6 = pmN v (vn v) 0 := hmc 0 (by omega)
      have hmc1 : vMN v 1 6 = pmN v (vn v) 1 := hmc 1 (by omega)
      have hp0 := pmN_le v (vn v) 0
      have hp1 := pmN_le v (vn v) 1
      refine lv_iload hx hb dL_areSamplesRight_155 (lv_at hl 5 rfl) ?_
      refine lv_bipush (v := 6) hx hb dL_areSamplesRight_157 (by decide) ?_
      refine lv_icmp_ge (tgt := 324) hx hb dL_areSamplesRight_159 (by decide) (fun _ => ?_) (fun c9 => absurd ((nI_leI (a := 6) (b := c) (by omega) (by omega)).mpr (by omega)) c9)
      refine lv_aload_n hx hb dL_areSamplesRight_324 rfl (lv_at hl 0 rfl) ?_
      refine lv_iconst (v := 3) hx hb dL_areSamplesRight_325 (by decide) ?_
      refine tg_callRi (va_runV (As := [.int 3]) (rest := []) (Ts := []) ⟨hx, hb, hml, hown, fun _ h9 => absurd h9 List.not_mem_nil⟩ (pu_many3 l E _ ad v G1 hI) (rc_cwV hAm qw_511 qw_1 qw_514 qw_512 qw_513 rfl rfl hd_X6_many ⟨Nat.le_of_ble_eq_true rfl, Nat.le_of_ble_eq_true rfl⟩) (tg_preV hAm hA hw hco (q := vwCl[7]) rfl) rfl rfl hl.1 rfl (lv_room (Nat.le_of_ble_eq_true rfl)) dL_areSamplesRight_326 ⟨Nat.le_of_ble_eq_true rfl, Nat.le_of_ble_eq_true rfl⟩) hA hw (fun H locs hw => ?_)
      refine lv_iload_n hx hb dL_areSamplesRight_329 rfl (lv_at hl 3 rfl) ?_
      refine lv_icmp_ne (tgt := 385) hx hb dL_areSamplesRight_330 (by decide) (fun c9 => absurd ((nI_eq (a := smR (fun k => cK v k) (vn v)) (b := smR (fun k => cK v k) (vn v)) (by omega) (by omega)).mpr (by omega)) c9) (fun _ => ?_)
      refine lv_aload_n hx hb dL_areSamplesRight_333 rfl (lv_at hl 0 rfl) ?_
      refine lv_iconst (v := 0) hx hb dL_areSamplesRight_334 (by decide) ?_
      refine lv_iconst (v := 3) hx hb dL_areSamplesRight_335 (by decide) ?_
      refine tg_callRi (va_runV (As := [.int 0, .int 3]) (rest := []) (Ts := []) ⟨hx, hb, hml, hown, fun _ h9 => absurd h9 List.not_mem_nil⟩ (pu_ofMachine3 l E _ ad v G1 hI 0 (by omega)) (rc_cwV hAm qw_632 qw_1 qw_635 qw_633 qw_634 rfl rfl hd_X6_ofMachine ⟨Nat.le_of_ble_eq_true rfl, Nat.le_of_ble_eq_true rfl⟩) (tg_preV hAm hA hw hco (q := vwCl[7]) rfl) rfl rfl hl.1 rfl (lv_room (Nat.le_of_ble_eq_true rfl)) dL_areSamplesRight_336 ⟨Nat.le_of_ble_eq_true rfl, Nat.le_of_ble_eq_true rfl⟩) hA hw (fun H locs hw => ?_)
      refine lv_aload hx hb dL_areSamplesRight_339 (lv_at hl 4 rfl) ?_
      refine lv_iconst (v := 0) hx hb dL_areSamplesRight_341 (by decide) ?_
      refine tg_iald hx hb hAm hw ha3 (vp_in_iff.mpr (by decide)) dL_areSamplesRight_342 ?_
      refine rc_topi (h 0) rfl ?_
      refine rc_topi (nI (pmN v (vn v) 0)) (hh 0 (by omega)) ?_
      refine lv_icmp_ne (tgt := 385) hx hb dL_areSamplesRight_343 (by decide) (fun c9 => absurd ((nI_eq (a := vMN v 0 6) (b := pmN v (vn v) 0) (by omega) (by omega)).mpr (by omega)) c9) (fun _ => ?_)
      refine lv_aload_n hx hb dL_areSamplesRight_346 rfl (lv_at hl 0 rfl) ?_
      refine lv_iconst (v := 1) hx hb dL_areSamplesRight_347 (by decide) ?_
      refine lv_iconst (v := 3) hx hb dL_areSamplesRight_348 (by decide) ?_
      refine tg_callRi (va_runV (As := [.int 1, .int 3]) (rest := []) (Ts := []) ⟨hx, hb, hml, hown, fun _ h9 => absurd h9 List.not_mem_nil⟩ (pu_ofMachine3 l E _ ad v G1 hI 1 (by omega)) (rc_cwV hAm qw_632 qw_1 qw_635 qw_633 qw_634 rfl rfl hd_X6_ofMachine ⟨Nat.le_of_ble_eq_true rfl, Nat.le_of_ble_eq_true rfl⟩) (tg_preV hAm hA hw hco (q := vwCl[7]) rfl) rfl rfl hl.1 rfl (lv_room (Nat.le_of_ble_eq_true rfl)) dL_areSamplesRight_349 ⟨Nat.le_of_ble_eq_true rfl, Nat.le_of_ble_eq_true rfl⟩) hA hw (fun H locs hw => ?_)
      refine lv_aload hx hb dL_areSamplesRight_352 (lv_at hl 4 rfl) ?_
      refine lv_iconst (v := 1) hx hb dL_areSamplesRight_354 (by decide) ?_
      refine tg_iald hx hb hAm hw ha3 (vp_in_iff.mpr (by decide)) dL_areSamplesRight_355 ?_
      refine rc_topi (h 1) rfl ?_
      refine rc_topi (nI (pmN v (vn v) 1)) (hh 1 (by omega)) ?_
      refine lv_icmp_ne (tgt := 385) hx hb dL_areSamplesRight_356 (by decide) (fun c9 => absurd ((nI_eq (a := vMN v 1 6) (b := pmN v (vn v) 1) (by omega) (by omega)).mpr (by omega)) c9) (fun _ => ?_)
      refine lv_aload_n hx hb dL_areSamplesRight_359 rfl (lv_at hl 0 rfl) ?_
      refine lv_bipush (v := 8) hx hb dL_areSamplesRight_360 (by decide) ?_
      refine tg_callRi (va_runV (As := [.int 8]) (rest := []) (Ts := []) ⟨hx, hb, hml, hown, fun _ h9 => absurd h9 List.not_mem_nil⟩ (pu_many8 l E _ ad v G1 hI) (rc_cwV hAm qw_511 qw_1 qw_514 qw_512 qw_513 rfl rfl hd_X6_many ⟨Nat.le_of_ble_eq_true rfl, Nat.le_of_ble_eq_true rfl⟩) (tg_preV hAm hA hw hco (q := vwCl[7]) rfl) rfl rfl hl.1 rfl (lv_room (Nat.le_of_ble_eq_true rfl)) dL_areSamplesRight_362 ⟨Nat.le_of_ble_eq_true rfl, Nat.le_of_ble_eq_true rfl⟩) hA hw (fun H locs hw => ?_)
      refine lv_aload_n hx hb dL_areSamplesRight_365 rfl (lv_at hl 0 rfl) ?_
      refine lv_iconst (v := 0) hx hb dL_areSamplesRight_366 (by decide) ?_
      refine lv_iconst (v := 2) hx hb dL_areSamplesRight_367 (by decide) ?_
      refine tg_callRi (va_runV (As := [.int 0, .int 2]) (rest := [.int (nI (smR (fun j => bN (vMI v j 7)) 2))]) (Ts := []) ⟨hx, hb, hml, hown, fun _ h9 => absurd h9 List.not_mem_nil⟩ (pu_ofMachine2 l E _ ad v G1 hI 0 (by omega)) (rc_cwV hAm qw_632 qw_1 qw_635 qw_633 qw_634 rfl rfl hd_X6_ofMachine ⟨Nat.le_of_ble_eq_true rfl, Nat.le_of_ble_eq_true rfl⟩) (tg_preV hAm hA hw hco (q := vwCl[7]) rfl) rfl rfl hl.1 rfl (lv_room (Nat.le_of_ble_eq_true rfl)) dL_areSamplesRight_368 ⟨Nat.le_of_ble_eq_true rfl, Nat.le_of_ble_eq_true rfl⟩) hA hw (fun H locs hw => ?_)
      refine lv_aload_n hx hb dL_areSamplesRight_371 rfl (lv_at hl 0 rfl) ?_
      refine lv_iconst (v := 1) hx hb dL_areSamplesRight_372 (by decide) ?_
      refine lv_iconst (v := 2) hx hb dL_areSamplesRight_373 (by decide) ?_
      refine tg_callRi (va_runV (As := [.int 1, .int 2]) (rest := [.int (vMI v 0 7), .int (nI (smR (fun j => bN (vMI v j 7)) 2))]) (Ts := []) ⟨hx, hb, hml, hown, fun _ h9 => absurd h9 List.not_mem_nil⟩ (pu_ofMachine2 l E _ ad v G1 hI 1 (by omega)) (rc_cwV hAm qw_632 qw_1 qw_635 qw_633 qw_634 rfl rfl hd_X6_ofMachine ⟨Nat.le_of_ble_eq_true rfl, Nat.le_of_ble_eq_true rfl⟩) (tg_preV hAm hA hw hco (q := vwCl[7]) rfl) rfl rfl hl.1 rfl (lv_room (Nat.le_of_ble_eq_true rfl)) dL_areSamplesRight_374 ⟨Nat.le_of_ble_eq_true rfl, Nat.le_of_ble_eq_true rfl⟩) hA hw (fun H locs hw => ?_)
      refine lv_iadd hx hb dL_areSamplesRight_377 ?_
      refine lv_icmp_ne (tgt := 385) hx hb dL_areSamplesRight_378 (by decide) (fun c9 => absurd (aside_sum h0) c9) (fun _ => ?_)
      refine lv_iconst (v := 1) hx hb dL_areSamplesRight_381 (by decide) ?_
      refine lv_goto (tgt := 386) hx hb dL_areSamplesRight_382 (by decide) ?_
      exact tg_zret hx hb hr hlocks hw rfl (⟨rfl, hS, HO⟩) (Nat.le_of_ble_eq_true rfl) (Nat.le_of_ble_eq_true rfl) dL_areSamplesRight_386
    | succ r ih =>
      intro c qa qb qc f g h ls G1 H locs hk hf hg hh hI hS ha1 ha2 ha3 HO hw hl
      have hco := hI.2.1
      have hck := smR_le (g := fun k => cK v k) (cK_le v) (vn v)
      have hck2 : smR (fun k => cK v k) (vn v) ≤ vn v := hck
      have hmc0 : vMN v 0 6 = pmN v (vn v) 0 := hmc 0 (by omega)
      have hmc1 : vMN v 1 6 = pmN v (vn v) 1 := hmc 1 (by omega)
      have hp0 := pmN_le v (vn v) 0
      have hp1 := pmN_le v (vn v) 1
      have hev : evN v (vn v) c = (ixs v c).length := ever_sum v c
      have hiv : inN v (vn v) c = (samp v c).length := in_sum v c
      have hil := ixs_len v c
      have hs6 : (samp v c).length ≤ 6 := by rw [samp_len]; exact szN_le _ _
      have hsr := samp_srt v c
      have hsb := samp_lt h0 c
      refine lv_iload hx hb dL_areSamplesRight_155 (lv_at hl 5 rfl) ?_
      refine lv_bipush (v := 6) hx hb dL_areSamplesRight_157 (by decide) ?_
      refine lv_icmp_ge (tgt := 324) hx hb dL_areSamplesRight_159 (by decide) (fun c9 => absurd c9 (fun z9 => absurd ((nI_leI (a := 6) (b := c) (by omega) (by omega)).mp z9) (by omega))) (fun _ => ?_)
      refine lv_aload_n hx hb dL_areSamplesRight_162 rfl (lv_at hl 0 rfl) ?_
      refine lv_iload hx hb dL_areSamplesRight_163 (lv_at hl 5 rfl) ?_
      refine lv_iconst (v := 1) hx hb dL_areSamplesRight_165 (by decide) ?_
      refine tg_calli (va_runV (As := [.int (nI c), .int 1]) (rest := []) (Ts := []) ⟨hx, hb, hml, hown, fun _ h9 => absurd h9 List.not_mem_nil⟩ (pu_ofChange1 l E _ ad v G1 hI hS c (by omega)) (rc_cwV hAm qw_709 qw_1 qw_712 qw_710 qw_711 rfl rfl hd_X6_ofChange ⟨Nat.le_of_ble_eq_true rfl, Nat.le_of_ble_eq_true rfl⟩) (tg_preV hAm hA hw hco (q := vwCl[7]) rfl) rfl rfl hl.1 rfl (lv_room (Nat.le_of_ble_eq_true rfl)) dL_areSamplesRight_166 ⟨Nat.le_of_ble_eq_true rfl, Nat.le_of_ble_eq_true rfl⟩) hA hw (fun r_2 G_1 H locs hp hw => ?_)
      obtain ⟨hr9, hS, hu⟩ := hp
      rw [hr9]
      have hco := (hu 8 (by omega)).trans hco
      have ha1 := (hu 0 (by omega)).trans ha1
      have ha2 := (hu 1 (by omega)).trans ha2
      have ha3 := (hu 2 (by omega)).trans ha3
      have hI := hI.scr (fun t9 h9 => hu t9 (by omega))
      have HO := fun (t9 : Nat) (h9 : 8 ≤ t9 ∧ t9 < 15 ∨ 31 ≤ t9) => (hu t9 (by omega)).trans (HO t9 h9)
      refine lv_istore (lv' := [(6, .int (nI ((samp v c).length))), (0, .ref (ad 8)), (1, .ref qa), (2, .ref qb), (3, .int (nI (smR (fun k => cK v k) (vn v)))), (4, .ref qc), (5, .int (nI c))]) hx hb dL_areSamplesRight_169 hl (by decide) rfl (fun ls hl => ?_)
      refine lv_aload_n hx hb dL_areSamplesRight_171 rfl (lv_at hl 1 rfl) ?_
      refine lv_iload hx hb dL_areSamplesRight_172 (lv_at hl 6 rfl) ?_
      refine lv_iconst (v := 0) hx hb dL_areSamplesRight_174 (by decide) ?_
      refine tg_calli (va_runV (As := [.int (nI c), .int 0]) (rest := []) (Ts := []) ⟨hx, hb, hml, hown, fun _ h9 => absurd h9 List.not_mem_nil⟩ (pu_ofChange0 l E _ ad v G_1 hI hS c (by omega)) (rc_cwV hAm qw_709 qw_1 qw_712 qw_710 qw_711 rfl rfl hd_X6_ofChange ⟨Nat.le_of_ble_eq_true rfl, Nat.le_of_ble_eq_true rfl⟩) (tg_preV hAm hA hw hco (q := vwCl[7]) rfl) rfl rfl hl.1 rfl (lv_room (Nat.le_of_ble_eq_true rfl)) dL_areSamplesRight_175 ⟨Nat.le_of_ble_eq_true rfl, Nat.le_of_ble_eq_true rfl⟩) hA hw (fun r_4 G_3 H locs hp hw => ?_)
      obtain ⟨hr9, hS, hu⟩ := hp
      rw [hr9]
      have hco := (hu 8 (by omega)).trans hco
      have ha1 := (hu 0 (by omega)).trans ha1
      have ha2 := (hu 1 (by omega)).trans ha2
      have ha3 := (hu 2 (by omega)).trans ha3
      have hI := hI.scr (fun t9 h9 => hu t9 (by omega))
      have HO := fun (t9 : Nat) (h9 : 8 ≤ t9 ∧ t9 < 15 ∨ 31 ≤ t9) => (hu t9 (by omega)).trans (HO t9 h9)
      refine lv_aload_n hx hb dL_areSamplesRight_178 rfl (lv_at hl 3 rfl) ?_
      refine lv_iload hx hb dL_areSamplesRight_179 (lv_at hl 6 rfl) ?_
      refine tg_iald hx hb hAm hw ha2 (vp_in_nI (n := c) (N := 6) (by omega) (by omega)) dL_areSamplesRight_181 ?_
      refine rc_topi (g c) (by rw [nI_clamp (by omega)]) ?_
      refine rc_topi (nI (evN v (vn v) c)) (hg c (by omega)) ?_
      refine lv_icmp_ne (tgt := 264) hx hb dL_areSamplesRight_182 (by decide) (fun c9 => absurd ((nI_eq (a := (ixs v c).length) (b := evN v (vn v) c) (by omega) (by omega)).mpr (by omega)) c9) (fun _ => ?_)
      refine lv_iload hx hb dL_areSamplesRight_185 (lv_at hl 0 rfl) ?_
      refine lv_aload_n hx hb dL_areSamplesRight_187 rfl (lv_at hl 2 rfl) ?_
      refine lv_iload hx hb dL_areSamplesRight_188 (lv_at hl 6 rfl) ?_
      refine tg_iald hx hb hAm hw ha1 (vp_in_nI (n := c) (N := 6) (by omega) (by omega)) dL_areSamplesRight_190 ?_
      refine rc_topi (f c) (by rw [nI_clamp (by omega)]) ?_
      refine rc_topi (nI (inN v (vn v) c)) (hf c (by omega)) ?_
      refine lv_icmp_ne (tgt := 264) hx hb dL_areSamplesRight_191 (by decide) (fun c9 => absurd ((nI_eq (a := (samp v c).length) (b := inN v (vn v) c) (by omega) (by omega)).mpr (by omega)) c9) (fun _ => ?_)
      refine lv_iload hx hb dL_areSamplesRight_194 (lv_at hl 0 rfl) ?_
      refine lv_bipush (v := 6) hx hb dL_areSamplesRight_196 (by decide) ?_
      refine lv_icmp_gt (tgt := 264) hx hb dL_areSamplesRight_198 (by decide) (fun c9 => absurd c9 (fun z9 => absurd ((nI_ltI (a := 6) (b := (samp v c).length) (by omega) (by omega)).mp z9) (by omega))) (fun _ => ?_)
      refine lv_iload hx hb dL_areSamplesRight_201 (lv_at hl 0 rfl) ?_
      refine lv_if_ne (tgt := 210) hx hb dL_areSamplesRight_203 (by decide) (fun c_5 => ?_) (fun c_5 => ?_)
      · have c_5 := mt (nI_eq (a := (samp v c).length) (b := 0) (by omega) (by omega)).mpr c_5
        refine lv_iconst (v := 0) hx hb dL_areSamplesRight_210 (by decide) ?_
        refine lv_aload_n hx hb dL_areSamplesRight_211 rfl (lv_at hl 1 rfl) ?_
        refine lv_iload hx hb dL_areSamplesRight_212 (lv_at hl 6 rfl) ?_
        refine lv_iconst (v := 2) hx hb dL_areSamplesRight_214 (by decide) ?_
        refine tg_calli (va_runV (As := [.int (nI c), .int 2]) (rest := [.int 0]) (Ts := []) ⟨hx, hb, hml, hown, fun _ h9 => absurd h9 List.not_mem_nil⟩ (pu_ofChange2 l E _ ad v G_3 hI hS c (by omega)) (rc_cwV hAm qw_709 qw_1 qw_712 qw_710 qw_711 rfl rfl hd_X6_ofChange ⟨Nat.le_of_ble_eq_true rfl, Nat.le_of_ble_eq_true rfl⟩) (tg_preV hAm hA hw hco (q := vwCl[7]) rfl) rfl rfl hl.1 rfl (lv_room (Nat.le_of_ble_eq_true rfl)) dL_areSamplesRight_215 ⟨Nat.le_of_ble_eq_true rfl, Nat.le_of_ble_eq_true rfl⟩) hA hw (fun r_7 G_6 H locs hp hw => ?_)
        obtain ⟨hr9, hS, hu⟩ := hp
        rw [hr9]
        have hco := (hu 8 (by omega)).trans hco
        have ha1 := (hu 0 (by omega)).trans ha1
        have ha2 := (hu 1 (by omega)).trans ha2
        have ha3 := (hu 2 (by omega)).trans ha3
        have hI := hI.scr (fun t9 h9 => hu t9 (by omega))
        have HO := fun (t9 : Nat) (h9 : 8 ≤ t9 ∧ t9 < 15 ∨ 31 ≤ t9) => (hu t9 (by omega)).trans (HO t9 h9)
        refine lv_iconst (v := (-1)) hx hb dL_areSamplesRight_218 (by decide) ?_
        refine lv_icmp_ne (tgt := 226) hx hb dL_areSamplesRight_219 (by decide) (fun _ => ?_) (fun c9 => absurd c9 ((fun z9 => absurd ((wAt_none hsb (by omega)).mp z9) (by omega))))
        refine lv_iconst (v := 0) hx hb dL_areSamplesRight_226 (by decide) ?_
        refine lv_icmp_ne (tgt := 264) hx hb dL_areSamplesRight_227 (by decide) (fun c9 => absurd (by decide) c9) (fun _ => ?_)
        refine lv_aload_n hx hb dL_areSamplesRight_230 rfl (lv_at hl 1 rfl) ?_
        refine lv_iload hx hb dL_areSamplesRight_231 (lv_at hl 6 rfl) ?_
        refine lv_iconst (v := 3) hx hb dL_areSamplesRight_233 (by decide) ?_
        refine tg_calli (va_runV (As := [.int (nI c), .int 3]) (rest := []) (Ts := []) ⟨hx, hb, hml, hown, fun _ h9 => absurd h9 List.not_mem_nil⟩ (pu_ofChange3 l E _ ad v G_6 hI hS c (by omega)) (rc_cwV hAm qw_709 qw_1 qw_712 qw_710 qw_711 rfl rfl hd_X6_ofChange ⟨Nat.le_of_ble_eq_true rfl, Nat.le_of_ble_eq_true rfl⟩) (tg_preV hAm hA hw hco (q := vwCl[7]) rfl) rfl rfl hl.1 rfl (lv_room (Nat.le_of_ble_eq_true rfl)) dL_areSamplesRight_234 ⟨Nat.le_of_ble_eq_true rfl, Nat.le_of_ble_eq_true rfl⟩) hA hw (fun r_9 G_8 H locs hp hw => ?_)
        obtain ⟨hr9, hS, hu⟩ := hp
        rw [hr9]
        have hco := (hu 8 (by omega)).trans hco
        have ha1 := (hu 0 (by omega)).trans ha1
        have ha2 := (hu 1 (by omega)).trans ha2
        have ha3 := (hu 2 (by omega)).trans ha3
        have hI := hI.scr (fun t9 h9 => hu t9 (by omega))
        have HO := fun (t9 : Nat) (h9 : 8 ≤ t9 ∧ t9 < 15 ∨ 31 ≤ t9) => (hu t9 (by omega)).trans (HO t9 h9)
        refine lv_aload_n hx hb dL_areSamplesRight_237 rfl (lv_at hl 1 rfl) ?_
        refine lv_iload hx hb dL_areSamplesRight_238 (lv_at hl 6 rfl) ?_
        refine lv_iconst (v := 2) hx hb dL_areSamplesRight_240 (by decide) ?_
        refine tg_calli (va_runV (As := [.int (nI c), .int 2]) (rest := [.int (wAt (samp v c) 0)]) (Ts := []) ⟨hx, hb, hml, hown, fun _ h9 => absurd h9 List.not_mem_nil⟩ (pu_ofChange2 l E _ ad v G_8 hI hS c (by omega)) (rc_cwV hAm qw_709 qw_1 qw_712 qw_710 qw_711 rfl rfl hd_X6_ofChange ⟨Nat.le_of_ble_eq_true rfl, Nat.le_of_ble_eq_true rfl⟩) (tg_preV hAm hA hw hco (q := vwCl[7]) rfl) rfl rfl hl.1 rfl (lv_room (Nat.le_of_ble_eq_true rfl)) dL_areSamplesRight_241 ⟨Nat.le_of_ble_eq_true rfl, Nat.le_of_ble_eq_true rfl⟩) hA hw (fun r_11 G_10 H locs hp hw => ?_)
        obtain ⟨hr9, hS, hu⟩ := hp
        rw [hr9]
        have hco := (hu 8 (by omega)).trans hco
        have ha1 := (hu 0 (by omega)).trans ha1
        have ha2 := (hu 1 (by omega)).trans ha2
        have ha3 := (hu 2 (by omega)).trans ha3
        have hI := hI.scr (fun t9 h9 => hu t9 (by omega))
        have HO := fun (t9 : Nat) (h9 : 8 ≤ t9 ∧ t9 < 15 ∨ 31 ≤ t9) => (hu t9 (by omega)).trans (HO t9 h9)
        refine lv_icmp_gt (tgt := 264) hx hb dL_areSamplesRight_244 (by decide) (fun c9 => absurd c9 ((Int32.not_lt.mpr (wAt_le hsr hsb (i := 0) (j := ((samp v c).length - 1) / 2) (by omega) (by omega))))) (fun _ => ?_)
        refine lv_aload_n hx hb dL_areSamplesRight_247 rfl (lv_at hl 1 rfl) ?_
        refine lv_iload hx hb dL_areSamplesRight_248 (lv_at hl 6 rfl) ?_
        refine lv_iconst (v := 2) hx hb dL_areSamplesRight_250 (by decide) ?_
        refine tg_calli (va_runV (As := [.int (nI c), .int 2]) (rest := []) (Ts := []) ⟨hx, hb, hml, hown, fun _ h9 => absurd h9 List.not_mem_nil⟩ (pu_ofChange2 l E _ ad v G_10 hI hS c (by omega)) (rc_cwV hAm qw_709 qw_1 qw_712 qw_710 qw_711 rfl rfl hd_X6_ofChange ⟨Nat.le_of_ble_eq_true rfl, Nat.le_of_ble_eq_true rfl⟩) (tg_preV hAm hA hw hco (q := vwCl[7]) rfl) rfl rfl hl.1 rfl (lv_room (Nat.le_of_ble_eq_true rfl)) dL_areSamplesRight_251 ⟨Nat.le_of_ble_eq_true rfl, Nat.le_of_ble_eq_true rfl⟩) hA hw (fun r_13 G_12 H locs hp hw => ?_)
        obtain ⟨hr9, hS, hu⟩ := hp
        rw [hr9]
        have hco := (hu 8 (by omega)).trans hco
        have ha1 := (hu 0 (by omega)).trans ha1
        have ha2 := (hu 1 (by omega)).trans ha2
        have ha3 := (hu 2 (by omega)).trans ha3
        have hI := hI.scr (fun t9 h9 => hu t9 (by omega))
        have HO := fun (t9 : Nat) (h9 : 8 ≤ t9 ∧ t9 < 15 ∨ 31 ≤ t9) => (hu t9 (by omega)).trans (HO t9 h9)
        refine lv_aload_n hx hb dL_areSamplesRight_254 rfl (lv_at hl 1 rfl) ?_
        refine lv_iload hx hb dL_areSamplesRight_255 (lv_at hl 6 rfl) ?_
        refine lv_iconst (v := 4) hx hb dL_areSamplesRight_257 (by decide) ?_
        refine tg_calli (va_runV (As := [.int (nI c), .int 4]) (rest := [.int (wAt (samp v c) (((samp v c).length - 1) / 2))]) (Ts := []) ⟨hx, hb, hml, hown, fun _ h9 => absurd h9 List.not_mem_nil⟩ (pu_ofChange4 l E _ ad v G_12 hI hS c (by omega)) (rc_cwV hAm qw_709 qw_1 qw_712 qw_710 qw_711 rfl rfl hd_X6_ofChange ⟨Nat.le_of_ble_eq_true rfl, Nat.le_of_ble_eq_true rfl⟩) (tg_preV hAm hA hw hco (q := vwCl[7]) rfl) rfl rfl hl.1 rfl (lv_room (Nat.le_of_ble_eq_true rfl)) dL_areSamplesRight_258 ⟨Nat.le_of_ble_eq_true rfl, Nat.le_of_ble_eq_true rfl⟩) hA hw (fun r_15 G_14 H locs hp hw => ?_)
        obtain ⟨hr9, hS, hu⟩ := hp
        rw [hr9]
        have hco := (hu 8 (by omega)).trans hco
        have ha1 := (hu 0 (by omega)).trans ha1
        have ha2 := (hu 1 (by omega)).trans ha2
        have ha3 := (hu 2 (by omega)).trans ha3
        have hI := hI.scr (fun t9 h9 => hu t9 (by omega))
        have HO := fun (t9 : Nat) (h9 : 8 ≤ t9 ∧ t9 < 15 ∨ 31 ≤ t9) => (hu t9 (by omega)).trans (HO t9 h9)
        refine lv_icmp_le (tgt := 266) hx hb dL_areSamplesRight_261 (by decide) (fun _ => ?_) (fun c9 => absurd ((wAt_le hsr hsb (i := ((samp v c).length - 1) / 2) (j := (samp v c).length - 1) (by omega) (by omega))) c9)
        refine lv_aload_n hx hb dL_areSamplesRight_266 rfl (lv_at hl 1 rfl) ?_
        refine lv_iload hx hb dL_areSamplesRight_267 (lv_at hl 6 rfl) ?_
        refine tg_callRi (va_runV (As := [.int (nI c)]) (rest := []) (Ts := []) ⟨hx, hb, hml, hown, fun _ h9 => absurd h9 List.not_mem_nil⟩ (pu_minutesFor l E _ ad v G_14 hI c (by omega)) (rc_cwV hAm qw_764 qw_1 qw_767 qw_765 qw_766 rfl rfl hd_X6_minutesFor ⟨Nat.le_of_ble_eq_true rfl, Nat.le_of_ble_eq_true rfl⟩) (tg_preV hAm hA hw hco (q := vwCl[7]) rfl) rfl rfl hl.1 rfl (lv_room (Nat.le_of_ble_eq_true rfl)) dL_areSamplesRight_269 ⟨Nat.le_of_ble_eq_true rfl, Nat.le_of_ble_eq_true rfl⟩) hA hw (fun H locs hw => ?_)
        refine lv_if_ne (tgt := 279) hx hb dL_areSamplesRight_272 (by decide) (fun cm => ?_) (fun cm => ?_)
        · have hsz : ¬ (samp v c).length = 6 := by rw [samp_len]; exact fun z => cm ((mtF_zero h0 c).mpr z)
          refine lv_iconst (v := 0) hx hb dL_areSamplesRight_279 (by decide) ?_
          refine lv_iload hx hb dL_areSamplesRight_280 (lv_at hl 0 rfl) ?_
          refine lv_bipush (v := 6) hx hb dL_areSamplesRight_282 (by decide) ?_
          refine lv_icmp_ne (tgt := 291) hx hb dL_areSamplesRight_284 (by decide) (fun _ => ?_) (fun c9 => absurd c9 (fun z9 => absurd ((nI_eq (a := (samp v c).length) (b := 6) (by omega) (by omega)).mp z9) (by omega)))
          refine lv_iconst (v := 0) hx hb dL_areSamplesRight_291 (by decide) ?_
          refine lv_icmp_ne (tgt := 316) hx hb dL_areSamplesRight_292 (by decide) (fun c9 => absurd (by decide) c9) (fun _ => ?_)
          refine lv_aload_n hx hb dL_areSamplesRight_295 rfl (lv_at hl 1 rfl) ?_
          refine lv_iload hx hb dL_areSamplesRight_296 (lv_at hl 6 rfl) ?_
          refine lv_iconst (v := 5) hx hb dL_areSamplesRight_298 (by decide) ?_
          refine tg_calli (va_runV (As := [.int (nI c), .int 5]) (rest := []) (Ts := []) ⟨hx, hb, hml, hown, fun _ h9 => absurd h9 List.not_mem_nil⟩ (pu_ofChange5 l E _ ad v G_14 hI hS c (by omega)) (rc_cwV hAm qw_709 qw_1 qw_712 qw_710 qw_711 rfl rfl hd_X6_ofChange ⟨Nat.le_of_ble_eq_true rfl, Nat.le_of_ble_eq_true rfl⟩) (tg_preV hAm hA hw hco (q := vwCl[7]) rfl) rfl rfl hl.1 rfl (lv_room (Nat.le_of_ble_eq_true rfl)) dL_areSamplesRight_299 ⟨Nat.le_of_ble_eq_true rfl, Nat.le_of_ble_eq_true rfl⟩) hA hw (fun r_17 G_16 H locs hp hw => ?_)
          obtain ⟨hr9, hS, hu⟩ := hp
          rw [hr9]
          have hco := (hu 8 (by omega)).trans hco
          have ha1 := (hu 0 (by omega)).trans ha1
          have ha2 := (hu 1 (by omega)).trans ha2
          have ha3 := (hu 2 (by omega)).trans ha3
          have hI := hI.scr (fun t9 h9 => hu t9 (by omega))
          have HO := fun (t9 : Nat) (h9 : 8 ≤ t9 ∧ t9 < 15 ∨ 31 ≤ t9) => (hu t9 (by omega)).trans (HO t9 h9)
          refine lv_if_lt (tgt := 316) hx hb dL_areSamplesRight_302 (by decide) (fun c9 => absurd c9 (chE_0 v c)) (fun _ => ?_)
          refine lv_aload_n hx hb dL_areSamplesRight_305 rfl (lv_at hl 1 rfl) ?_
          refine lv_iload hx hb dL_areSamplesRight_306 (lv_at hl 6 rfl) ?_
          refine lv_iconst (v := 5) hx hb dL_areSamplesRight_308 (by decide) ?_
          refine tg_calli (va_runV (As := [.int (nI c), .int 5]) (rest := []) (Ts := []) ⟨hx, hb, hml, hown, fun _ h9 => absurd h9 List.not_mem_nil⟩ (pu_ofChange5 l E _ ad v G_16 hI hS c (by omega)) (rc_cwV hAm qw_709 qw_1 qw_712 qw_710 qw_711 rfl rfl hd_X6_ofChange ⟨Nat.le_of_ble_eq_true rfl, Nat.le_of_ble_eq_true rfl⟩) (tg_preV hAm hA hw hco (q := vwCl[7]) rfl) rfl rfl hl.1 rfl (lv_room (Nat.le_of_ble_eq_true rfl)) dL_areSamplesRight_309 ⟨Nat.le_of_ble_eq_true rfl, Nat.le_of_ble_eq_true rfl⟩) hA hw (fun r_19 G_18 H locs hp hw => ?_)
          obtain ⟨hr9, hS, hu⟩ := hp
          rw [hr9]
          have hco := (hu 8 (by omega)).trans hco
          have ha1 := (hu 0 (by omega)).trans ha1
          have ha2 := (hu 1 (by omega)).trans ha2
          have ha3 := (hu 2 (by omega)).trans ha3
          have hI := hI.scr (fun t9 h9 => hu t9 (by omega))
          have HO := fun (t9 : Nat) (h9 : 8 ≤ t9 ∧ t9 < 15 ∨ 31 ≤ t9) => (hu t9 (by omega)).trans (HO t9 h9)
          refine lv_iconst (v := 2) hx hb dL_areSamplesRight_312 (by decide) ?_
          refine lv_icmp_le (tgt := 318) hx hb dL_areSamplesRight_313 (by decide) (fun _ => ?_) (fun c9 => absurd (chE_2 v c) c9)
          refine lv_iinc (v := nI (c + 1)) (lv' := [(5, .int (nI (c + 1))), (6, .int (nI ((samp v c).length))), (0, .ref (ad 8)), (1, .ref qa), (2, .ref qb), (3, .int (nI (smR (fun k => cK v k) (vn v)))), (4, .ref qc)]) hx hb dL_areSamplesRight_318 hl (k := 6) rfl (nI_1 _) (by decide) rfl (fun ls hl => ?_)
          refine lv_goto (tgt := 155) hx hb dL_areSamplesRight_321 (by decide) ?_
          exact ih (c + 1) qa qb qc f g h ls _ _ _ (by omega) hf hg hh hI hS ha1 ha2 ha3 HO hw (lv_sub hl [2, 3, 4, 5, 6, 0] rfl)
        · have hsz : (samp v c).length = 6 := by rw [samp_len]; exact (mtF_zero h0 c).mp cm
          refine lv_iconst (v := 1) hx hb dL_areSamplesRight_275 (by decide) ?_
          refine lv_goto (tgt := 280) hx hb dL_areSamplesRight_276 (by decide) ?_
          refine lv_iload hx hb dL_areSamplesRight_280 (lv_at hl 0 rfl) ?_
          refine lv_bipush (v := 6) hx hb dL_areSamplesRight_282 (by decide) ?_
          refine lv_icmp_ne (tgt := 291) hx hb dL_areSamplesRight_284 (by decide) (fun c9 => absurd ((nI_eq (a := (samp v c).length) (b := 6) (by omega) (by omega)).mpr (by omega)) c9) (fun _ => ?_)
          refine lv_iconst (v := 1) hx hb dL_areSamplesRight_287 (by decide) ?_
          refine lv_goto (tgt := 292) hx hb dL_areSamplesRight_288 (by decide) ?_
          refine lv_icmp_ne (tgt := 316) hx hb dL_areSamplesRight_292 (by decide) (fun c9 => absurd (by decide) c9) (fun _ => ?_)
          refine lv_aload_n hx hb dL_areSamplesRight_295 rfl (lv_at hl 1 rfl) ?_
          refine lv_iload hx hb dL_areSamplesRight_296 (lv_at hl 6 rfl) ?_
          refine lv_iconst (v := 5) hx hb dL_areSamplesRight_298 (by decide) ?_
          refine tg_calli (va_runV (As := [.int (nI c), .int 5]) (rest := []) (Ts := []) ⟨hx, hb, hml, hown, fun _ h9 => absurd h9 List.not_mem_nil⟩ (pu_ofChange5 l E _ ad v G_14 hI hS c (by omega)) (rc_cwV hAm qw_709 qw_1 qw_712 qw_710 qw_711 rfl rfl hd_X6_ofChange ⟨Nat.le_of_ble_eq_true rfl, Nat.le_of_ble_eq_true rfl⟩) (tg_preV hAm hA hw hco (q := vwCl[7]) rfl) rfl rfl hl.1 rfl (lv_room (Nat.le_of_ble_eq_true rfl)) dL_areSamplesRight_299 ⟨Nat.le_of_ble_eq_true rfl, Nat.le_of_ble_eq_true rfl⟩) hA hw (fun r_21 G_20 H locs hp hw => ?_)
          obtain ⟨hr9, hS, hu⟩ := hp
          rw [hr9]
          have hco := (hu 8 (by omega)).trans hco
          have ha1 := (hu 0 (by omega)).trans ha1
          have ha2 := (hu 1 (by omega)).trans ha2
          have ha3 := (hu 2 (by omega)).trans ha3
          have hI := hI.scr (fun t9 h9 => hu t9 (by omega))
          have HO := fun (t9 : Nat) (h9 : 8 ≤ t9 ∧ t9 < 15 ∨ 31 ≤ t9) => (hu t9 (by omega)).trans (HO t9 h9)
          refine lv_if_lt (tgt := 316) hx hb dL_areSamplesRight_302 (by decide) (fun c9 => absurd c9 (chE_0 v c)) (fun _ => ?_)
          refine lv_aload_n hx hb dL_areSamplesRight_305 rfl (lv_at hl 1 rfl) ?_
          refine lv_iload hx hb dL_areSamplesRight_306 (lv_at hl 6 rfl) ?_
          refine lv_iconst (v := 5) hx hb dL_areSamplesRight_308 (by decide) ?_
          refine tg_calli (va_runV (As := [.int (nI c), .int 5]) (rest := []) (Ts := []) ⟨hx, hb, hml, hown, fun _ h9 => absurd h9 List.not_mem_nil⟩ (pu_ofChange5 l E _ ad v G_20 hI hS c (by omega)) (rc_cwV hAm qw_709 qw_1 qw_712 qw_710 qw_711 rfl rfl hd_X6_ofChange ⟨Nat.le_of_ble_eq_true rfl, Nat.le_of_ble_eq_true rfl⟩) (tg_preV hAm hA hw hco (q := vwCl[7]) rfl) rfl rfl hl.1 rfl (lv_room (Nat.le_of_ble_eq_true rfl)) dL_areSamplesRight_309 ⟨Nat.le_of_ble_eq_true rfl, Nat.le_of_ble_eq_true rfl⟩) hA hw (fun r_23 G_22 H locs hp hw => ?_)
          obtain ⟨hr9, hS, hu⟩ := hp
          rw [hr9]
          have hco := (hu 8 (by omega)).trans hco
          have ha1 := (hu 0 (by omega)).trans ha1
          have ha2 := (hu 1 (by omega)).trans ha2
          have ha3 := (hu 2 (by omega)).trans ha3
          have hI := hI.scr (fun t9 h9 => hu t9 (by omega))
          have HO := fun (t9 : Nat) (h9 : 8 ≤ t9 ∧ t9 < 15 ∨ 31 ≤ t9) => (hu t9 (by omega)).trans (HO t9 h9)
          refine lv_iconst (v := 2) hx hb dL_areSamplesRight_312 (by decide) ?_
          refine lv_icmp_le (tgt := 318) hx hb dL_areSamplesRight_313 (by decide) (fun _ => ?_) (fun c9 => absurd (chE_2 v c) c9)
          refine lv_iinc (v := nI (c + 1)) (lv' := [(5, .int (nI (c + 1))), (6, .int (nI ((samp v c).length))), (0, .ref (ad 8)), (1, .ref qa), (2, .ref qb), (3, .int (nI (smR (fun k => cK v k) (vn v)))), (4, .ref qc)]) hx hb dL_areSamplesRight_318 hl (k := 6) rfl (nI_1 _) (by decide) rfl (fun ls hl => ?_)
          refine lv_goto (tgt := 155) hx hb dL_areSamplesRight_321 (by decide) ?_
          exact ih (c + 1) qa qb qc f g h ls _ _ _ (by omega) hf hg hh hI hS ha1 ha2 ha3 HO hw (lv_sub hl [2, 3, 4, 5, 6, 0] rfl)
      · have c_5 := (nI_eq (a := (samp v c).length) (b := 0) (by omega) (by omega)).mp c_5
        refine lv_iconst (v := 1) hx hb dL_areSamplesRight_206 (by decide) ?_
        refine lv_goto (tgt := 211) hx hb dL_areSamplesRight_207 (by decide) ?_
        refine lv_aload_n hx hb dL_areSamplesRight_211 rfl (lv_at hl 1 rfl) ?_
        refine lv_iload hx hb dL_areSamplesRight_212 (lv_at hl 6 rfl) ?_
        refine lv_iconst (v := 2) hx hb dL_areSamplesRight_214 (by decide) ?_
        refine tg_calli (va_runV (As := [.int (nI c), .int 2]) (rest := [.int 1]) (Ts := []) ⟨hx, hb, hml, hown, fun _ h9 => absurd h9 List.not_mem_nil⟩ (pu_ofChange2 l E _ ad v G_3 hI hS c (by omega)) (rc_cwV hAm qw_709 qw_1 qw_712 qw_710 qw_711 rfl rfl hd_X6_ofChange ⟨Nat.le_of_ble_eq_true rfl, Nat.le_of_ble_eq_true rfl⟩) (tg_preV hAm hA hw hco (q := vwCl[7]) rfl) rfl rfl hl.1 rfl (lv_room (Nat.le_of_ble_eq_true rfl)) dL_areSamplesRight_215 ⟨Nat.le_of_ble_eq_true rfl, Nat.le_of_ble_eq_true rfl⟩) hA hw (fun r_25 G_24 H locs hp hw => ?_)
        obtain ⟨hr9, hS, hu⟩ := hp
        rw [hr9]
        have hco := (hu 8 (by omega)).trans hco
        have ha1 := (hu 0 (by omega)).trans ha1
        have ha2 := (hu 1 (by omega)).trans ha2
        have ha3 := (hu 2 (by omega)).trans ha3
        have hI := hI.scr (fun t9 h9 => hu t9 (by omega))
        have HO := fun (t9 : Nat) (h9 : 8 ≤ t9 ∧ t9 < 15 ∨ 31 ≤ t9) => (hu t9 (by omega)).trans (HO t9 h9)
        refine rc_topi (-1) ((wAt_none hsb (Or.inr (by omega))).mpr (by omega)) ?_
        refine lv_iconst (v := (-1)) hx hb dL_areSamplesRight_218 (by decide) ?_
        refine lv_icmp_ne (tgt := 226) hx hb dL_areSamplesRight_219 (by decide) (fun c9 => absurd (by decide) c9) (fun _ => ?_)
        refine lv_iconst (v := 1) hx hb dL_areSamplesRight_222 (by decide) ?_
        refine lv_goto (tgt := 227) hx hb dL_areSamplesRight_223 (by decide) ?_
        refine lv_icmp_ne (tgt := 264) hx hb dL_areSamplesRight_227 (by decide) (fun c9 => absurd (by decide) c9) (fun _ => ?_)
        refine lv_aload_n hx hb dL_areSamplesRight_230 rfl (lv_at hl 1 rfl) ?_
        refine lv_iload hx hb dL_areSamplesRight_231 (lv_at hl 6 rfl) ?_
        refine lv_iconst (v := 3) hx hb dL_areSamplesRight_233 (by decide) ?_
        refine tg_calli (va_runV (As := [.int (nI c), .int 3]) (rest := []) (Ts := []) ⟨hx, hb, hml, hown, fun _ h9 => absurd h9 List.not_mem_nil⟩ (pu_ofChange3 l E _ ad v G_24 hI hS c (by omega)) (rc_cwV hAm qw_709 qw_1 qw_712 qw_710 qw_711 rfl rfl hd_X6_ofChange ⟨Nat.le_of_ble_eq_true rfl, Nat.le_of_ble_eq_true rfl⟩) (tg_preV hAm hA hw hco (q := vwCl[7]) rfl) rfl rfl hl.1 rfl (lv_room (Nat.le_of_ble_eq_true rfl)) dL_areSamplesRight_234 ⟨Nat.le_of_ble_eq_true rfl, Nat.le_of_ble_eq_true rfl⟩) hA hw (fun r_27 G_26 H locs hp hw => ?_)
        obtain ⟨hr9, hS, hu⟩ := hp
        rw [hr9]
        have hco := (hu 8 (by omega)).trans hco
        have ha1 := (hu 0 (by omega)).trans ha1
        have ha2 := (hu 1 (by omega)).trans ha2
        have ha3 := (hu 2 (by omega)).trans ha3
        have hI := hI.scr (fun t9 h9 => hu t9 (by omega))
        have HO := fun (t9 : Nat) (h9 : 8 ≤ t9 ∧ t9 < 15 ∨ 31 ≤ t9) => (hu t9 (by omega)).trans (HO t9 h9)
        refine lv_aload_n hx hb dL_areSamplesRight_237 rfl (lv_at hl 1 rfl) ?_
        refine lv_iload hx hb dL_areSamplesRight_238 (lv_at hl 6 rfl) ?_
        refine lv_iconst (v := 2) hx hb dL_areSamplesRight_240 (by decide) ?_
        refine tg_calli (va_runV (As := [.int (nI c), .int 2]) (rest := [.int (wAt (samp v c) 0)]) (Ts := []) ⟨hx, hb, hml, hown, fun _ h9 => absurd h9 List.not_mem_nil⟩ (pu_ofChange2 l E _ ad v G_26 hI hS c (by omega)) (rc_cwV hAm qw_709 qw_1 qw_712 qw_710 qw_711 rfl rfl hd_X6_ofChange ⟨Nat.le_of_ble_eq_true rfl, Nat.le_of_ble_eq_true rfl⟩) (tg_preV hAm hA hw hco (q := vwCl[7]) rfl) rfl rfl hl.1 rfl (lv_room (Nat.le_of_ble_eq_true rfl)) dL_areSamplesRight_241 ⟨Nat.le_of_ble_eq_true rfl, Nat.le_of_ble_eq_true rfl⟩) hA hw (fun r_29 G_28 H locs hp hw => ?_)
        obtain ⟨hr9, hS, hu⟩ := hp
        rw [hr9]
        have hco := (hu 8 (by omega)).trans hco
        have ha1 := (hu 0 (by omega)).trans ha1
        have ha2 := (hu 1 (by omega)).trans ha2
        have ha3 := (hu 2 (by omega)).trans ha3
        have hI := hI.scr (fun t9 h9 => hu t9 (by omega))
        have HO := fun (t9 : Nat) (h9 : 8 ≤ t9 ∧ t9 < 15 ∨ 31 ≤ t9) => (hu t9 (by omega)).trans (HO t9 h9)
        refine lv_icmp_gt (tgt := 264) hx hb dL_areSamplesRight_244 (by decide) (fun c9 => absurd c9 ((Int32.not_lt.mpr (wAt_le hsr hsb (i := 0) (j := ((samp v c).length - 1) / 2) (by omega) (by omega))))) (fun _ => ?_)
        refine lv_aload_n hx hb dL_areSamplesRight_247 rfl (lv_at hl 1 rfl) ?_
        refine lv_iload hx hb dL_areSamplesRight_248 (lv_at hl 6 rfl) ?_
        refine lv_iconst (v := 2) hx hb dL_areSamplesRight_250 (by decide) ?_
        refine tg_calli (va_runV (As := [.int (nI c), .int 2]) (rest := []) (Ts := []) ⟨hx, hb, hml, hown, fun _ h9 => absurd h9 List.not_mem_nil⟩ (pu_ofChange2 l E _ ad v G_28 hI hS c (by omega)) (rc_cwV hAm qw_709 qw_1 qw_712 qw_710 qw_711 rfl rfl hd_X6_ofChange ⟨Nat.le_of_ble_eq_true rfl, Nat.le_of_ble_eq_true rfl⟩) (tg_preV hAm hA hw hco (q := vwCl[7]) rfl) rfl rfl hl.1 rfl (lv_room (Nat.le_of_ble_eq_true rfl)) dL_areSamplesRight_251 ⟨Nat.le_of_ble_eq_true rfl, Nat.le_of_ble_eq_true rfl⟩) hA hw (fun r_31 G_30 H locs hp hw => ?_)
        obtain ⟨hr9, hS, hu⟩ := hp
        rw [hr9]
        have hco := (hu 8 (by omega)).trans hco
        have ha1 := (hu 0 (by omega)).trans ha1
        have ha2 := (hu 1 (by omega)).trans ha2
        have ha3 := (hu 2 (by omega)).trans ha3
        have hI := hI.scr (fun t9 h9 => hu t9 (by omega))
        have HO := fun (t9 : Nat) (h9 : 8 ≤ t9 ∧ t9 < 15 ∨ 31 ≤ t9) => (hu t9 (by omega)).trans (HO t9 h9)
        refine lv_aload_n hx hb dL_areSamplesRight_254 rfl (lv_at hl 1 rfl) ?_
        refine lv_iload hx hb dL_areSamplesRight_255 (lv_at hl 6 rfl) ?_
        refine lv_iconst (v := 4) hx hb dL_areSamplesRight_257 (by decide) ?_
        refine tg_calli (va_runV (As := [.int (nI c), .int 4]) (rest := [.int (wAt (samp v c) (((samp v c).length - 1) / 2))]) (Ts := []) ⟨hx, hb, hml, hown, fun _ h9 => absurd h9 List.not_mem_nil⟩ (pu_ofChange4 l E _ ad v G_30 hI hS c (by omega)) (rc_cwV hAm qw_709 qw_1 qw_712 qw_710 qw_711 rfl rfl hd_X6_ofChange ⟨Nat.le_of_ble_eq_true rfl, Nat.le_of_ble_eq_true rfl⟩) (tg_preV hAm hA hw hco (q := vwCl[7]) rfl) rfl rfl hl.1 rfl (lv_room (Nat.le_of_ble_eq_true rfl)) dL_areSamplesRight_258 ⟨Nat.le_of_ble_eq_true rfl, Nat.le_of_ble_eq_true rfl⟩) hA hw (fun r_33 G_32 H locs hp hw => ?_)
        obtain ⟨hr9, hS, hu⟩ := hp
        rw [hr9]
        have hco := (hu 8 (by omega)).trans hco
        have ha1 := (hu 0 (by omega)).trans ha1
        have ha2 := (hu 1 (by omega)).trans ha2
        have ha3 := (hu 2 (by omega)).trans ha3
        have hI := hI.scr (fun t9 h9 => hu t9 (by omega))
        have HO := fun (t9 : Nat) (h9 : 8 ≤ t9 ∧ t9 < 15 ∨ 31 ≤ t9) => (hu t9 (by omega)).trans (HO t9 h9)
        refine lv_icmp_le (tgt := 266) hx hb dL_areSamplesRight_261 (by decide) (fun _ => ?_) (fun c9 => absurd ((wAt_le hsr hsb (i := ((samp v c).length - 1) / 2) (j := (samp v c).length - 1) (by omega) (by omega))) c9)
        refine lv_aload_n hx hb dL_areSamplesRight_266 rfl (lv_at hl 1 rfl) ?_
        refine lv_iload hx hb dL_areSamplesRight_267 (lv_at hl 6 rfl) ?_
        refine tg_callRi (va_runV (As := [.int (nI c)]) (rest := []) (Ts := []) ⟨hx, hb, hml, hown, fun _ h9 => absurd h9 List.not_mem_nil⟩ (pu_minutesFor l E _ ad v G_32 hI c (by omega)) (rc_cwV hAm qw_764 qw_1 qw_767 qw_765 qw_766 rfl rfl hd_X6_minutesFor ⟨Nat.le_of_ble_eq_true rfl, Nat.le_of_ble_eq_true rfl⟩) (tg_preV hAm hA hw hco (q := vwCl[7]) rfl) rfl rfl hl.1 rfl (lv_room (Nat.le_of_ble_eq_true rfl)) dL_areSamplesRight_269 ⟨Nat.le_of_ble_eq_true rfl, Nat.le_of_ble_eq_true rfl⟩) hA hw (fun H locs hw => ?_)
        refine lv_if_ne (tgt := 279) hx hb dL_areSamplesRight_272 (by decide) (fun cm => ?_) (fun cm => ?_)
        · have hsz : ¬ (samp v c).length = 6 := by rw [samp_len]; exact fun z => cm ((mtF_zero h0 c).mpr z)
          refine lv_iconst (v := 0) hx hb dL_areSamplesRight_279 (by decide) ?_
          refine lv_iload hx hb dL_areSamplesRight_280 (lv_at hl 0 rfl) ?_
          refine lv_bipush (v := 6) hx hb dL_areSamplesRight_282 (by decide) ?_
          refine lv_icmp_ne (tgt := 291) hx hb dL_areSamplesRight_284 (by decide) (fun _ => ?_) (fun c9 => absurd c9 (fun z9 => absurd ((nI_eq (a := (samp v c).length) (b := 6) (by omega) (by omega)).mp z9) (by omega)))
          refine lv_iconst (v := 0) hx hb dL_areSamplesRight_291 (by decide) ?_
          refine lv_icmp_ne (tgt := 316) hx hb dL_areSamplesRight_292 (by decide) (fun c9 => absurd (by decide) c9) (fun _ => ?_)
          refine lv_aload_n hx hb dL_areSamplesRight_295 rfl (lv_at hl 1 rfl) ?_
          refine lv_iload hx hb dL_areSamplesRight_296 (lv_at hl 6 rfl) ?_
          refine lv_iconst (v := 5) hx hb dL_areSamplesRight_298 (by decide) ?_
          refine tg_calli (va_runV (As := [.int (nI c), .int 5]) (rest := []) (Ts := []) ⟨hx, hb, hml, hown, fun _ h9 => absurd h9 List.not_mem_nil⟩ (pu_ofChange5 l E _ ad v G_32 hI hS c (by omega)) (rc_cwV hAm qw_709 qw_1 qw_712 qw_710 qw_711 rfl rfl hd_X6_ofChange ⟨Nat.le_of_ble_eq_true rfl, Nat.le_of_ble_eq_true rfl⟩) (tg_preV hAm hA hw hco (q := vwCl[7]) rfl) rfl rfl hl.1 rfl (lv_room (Nat.le_of_ble_eq_true rfl)) dL_areSamplesRight_299 ⟨Nat.le_of_ble_eq_true rfl, Nat.le_of_ble_eq_true rfl⟩) hA hw (fun r_35 G_34 H locs hp hw => ?_)
          obtain ⟨hr9, hS, hu⟩ := hp
          rw [hr9]
          have hco := (hu 8 (by omega)).trans hco
          have ha1 := (hu 0 (by omega)).trans ha1
          have ha2 := (hu 1 (by omega)).trans ha2
          have ha3 := (hu 2 (by omega)).trans ha3
          have hI := hI.scr (fun t9 h9 => hu t9 (by omega))
          have HO := fun (t9 : Nat) (h9 : 8 ≤ t9 ∧ t9 < 15 ∨ 31 ≤ t9) => (hu t9 (by omega)).trans (HO t9 h9)
          refine lv_if_lt (tgt := 316) hx hb dL_areSamplesRight_302 (by decide) (fun c9 => absurd c9 (chE_0 v c)) (fun _ => ?_)
          refine lv_aload_n hx hb dL_areSamplesRight_305 rfl (lv_at hl 1 rfl) ?_
          refine lv_iload hx hb dL_areSamplesRight_306 (lv_at hl 6 rfl) ?_
          refine lv_iconst (v := 5) hx hb dL_areSamplesRight_308 (by decide) ?_
          refine tg_calli (va_runV (As := [.int (nI c), .int 5]) (rest := []) (Ts := []) ⟨hx, hb, hml, hown, fun _ h9 => absurd h9 List.not_mem_nil⟩ (pu_ofChange5 l E _ ad v G_34 hI hS c (by omega)) (rc_cwV hAm qw_709 qw_1 qw_712 qw_710 qw_711 rfl rfl hd_X6_ofChange ⟨Nat.le_of_ble_eq_true rfl, Nat.le_of_ble_eq_true rfl⟩) (tg_preV hAm hA hw hco (q := vwCl[7]) rfl) rfl rfl hl.1 rfl (lv_room (Nat.le_of_ble_eq_true rfl)) dL_areSamplesRight_309 ⟨Nat.le_of_ble_eq_true rfl, Nat.le_of_ble_eq_true rfl⟩) hA hw (fun r_37 G_36 H locs hp hw => ?_)
          obtain ⟨hr9, hS, hu⟩ := hp
          rw [hr9]
          have hco := (hu 8 (by omega)).trans hco
          have ha1 := (hu 0 (by omega)).trans ha1
          have ha2 := (hu 1 (by omega)).trans ha2
          have ha3 := (hu 2 (by omega)).trans ha3
          have hI := hI.scr (fun t9 h9 => hu t9 (by omega))
          have HO := fun (t9 : Nat) (h9 : 8 ≤ t9 ∧ t9 < 15 ∨ 31 ≤ t9) => (hu t9 (by omega)).trans (HO t9 h9)
          refine lv_iconst (v := 2) hx hb dL_areSamplesRight_312 (by decide) ?_
          refine lv_icmp_le (tgt := 318) hx hb dL_areSamplesRight_313 (by decide) (fun _ => ?_) (fun c9 => absurd (chE_2 v c) c9)
          refine lv_iinc (v := nI (c + 1)) (lv' := [(5, .int (nI (c + 1))), (6, .int (nI ((samp v c).length))), (0, .ref (ad 8)), (1, .ref qa), (2, .ref qb), (3, .int (nI (smR (fun k => cK v k) (vn v)))), (4, .ref qc)]) hx hb dL_areSamplesRight_318 hl (k := 6) rfl (nI_1 _) (by decide) rfl (fun ls hl => ?_)
          refine lv_goto (tgt := 155) hx hb dL_areSamplesRight_321 (by decide) ?_
          exact ih (c + 1) qa qb qc f g h ls _ _ _ (by omega) hf hg hh hI hS ha1 ha2 ha3 HO hw (lv_sub hl [2, 3, 4, 5, 6, 0] rfl)
        · have hsz : (samp v c).length = 6 := by rw [samp_len]; exact (mtF_zero h0 c).mp cm
          refine lv_iconst (v := 1) hx hb dL_areSamplesRight_275 (by decide) ?_
          refine lv_goto (tgt := 280) hx hb dL_areSamplesRight_276 (by decide) ?_
          refine lv_iload hx hb dL_areSamplesRight_280 (lv_at hl 0 rfl) ?_
          refine lv_bipush (v := 6) hx hb dL_areSamplesRight_282 (by decide) ?_
          refine lv_icmp_ne (tgt := 291) hx hb dL_areSamplesRight_284 (by decide) (fun c9 => absurd ((nI_eq (a := (samp v c).length) (b := 6) (by omega) (by omega)).mpr (by omega)) c9) (fun _ => ?_)
          refine lv_iconst (v := 1) hx hb dL_areSamplesRight_287 (by decide) ?_
          refine lv_goto (tgt := 292) hx hb dL_areSamplesRight_288 (by decide) ?_
          refine lv_icmp_ne (tgt := 316) hx hb dL_areSamplesRight_292 (by decide) (fun c9 => absurd (by decide) c9) (fun _ => ?_)
          refine lv_aload_n hx hb dL_areSamplesRight_295 rfl (lv_at hl 1 rfl) ?_
          refine lv_iload hx hb dL_areSamplesRight_296 (lv_at hl 6 rfl) ?_
          refine lv_iconst (v := 5) hx hb dL_areSamplesRight_298 (by decide) ?_
          refine tg_calli (va_runV (As := [.int (nI c), .int 5]) (rest := []) (Ts := []) ⟨hx, hb, hml, hown, fun _ h9 => absurd h9 List.not_mem_nil⟩ (pu_ofChange5 l E _ ad v G_32 hI hS c (by omega)) (rc_cwV hAm qw_709 qw_1 qw_712 qw_710 qw_711 rfl rfl hd_X6_ofChange ⟨Nat.le_of_ble_eq_true rfl, Nat.le_of_ble_eq_true rfl⟩) (tg_preV hAm hA hw hco (q := vwCl[7]) rfl) rfl rfl hl.1 rfl (lv_room (Nat.le_of_ble_eq_true rfl)) dL_areSamplesRight_299 ⟨Nat.le_of_ble_eq_true rfl, Nat.le_of_ble_eq_true rfl⟩) hA hw (fun r_39 G_38 H locs hp hw => ?_)
          obtain ⟨hr9, hS, hu⟩ := hp
          rw [hr9]
          have hco := (hu 8 (by omega)).trans hco
          have ha1 := (hu 0 (by omega)).trans ha1
          have ha2 := (hu 1 (by omega)).trans ha2
          have ha3 := (hu 2 (by omega)).trans ha3
          have hI := hI.scr (fun t9 h9 => hu t9 (by omega))
          have HO := fun (t9 : Nat) (h9 : 8 ≤ t9 ∧ t9 < 15 ∨ 31 ≤ t9) => (hu t9 (by omega)).trans (HO t9 h9)
          refine lv_if_lt (tgt := 316) hx hb dL_areSamplesRight_302 (by decide) (fun c9 => absurd c9 (chE_0 v c)) (fun _ => ?_)
          refine lv_aload_n hx hb dL_areSamplesRight_305 rfl (lv_at hl 1 rfl) ?_
          refine lv_iload hx hb dL_areSamplesRight_306 (lv_at hl 6 rfl) ?_
          refine lv_iconst (v := 5) hx hb dL_areSamplesRight_308 (by decide) ?_
          refine tg_calli (va_runV (As := [.int (nI c), .int 5]) (rest := []) (Ts := []) ⟨hx, hb, hml, hown, fun _ h9 => absurd h9 List.not_mem_nil⟩ (pu_ofChange5 l E _ ad v G_38 hI hS c (by omega)) (rc_cwV hAm qw_709 qw_1 qw_712 qw_710 qw_711 rfl rfl hd_X6_ofChange ⟨Nat.le_of_ble_eq_true rfl, Nat.le_of_ble_eq_true rfl⟩) (tg_preV hAm hA hw hco (q := vwCl[7]) rfl) rfl rfl hl.1 rfl (lv_room (Nat.le_of_ble_eq_true rfl)) dL_areSamplesRight_309 ⟨Nat.le_of_ble_eq_true rfl, Nat.le_of_ble_eq_true rfl⟩) hA hw (fun r_41 G_40 H locs hp hw => ?_)
          obtain ⟨hr9, hS, hu⟩ := hp
          rw [hr9]
          have hco := (hu 8 (by omega)).trans hco
          have ha1 := (hu 0 (by omega)).trans ha1
          have ha2 := (hu 1 (by omega)).trans ha2
          have ha3 := (hu 2 (by omega)).trans ha3
          have hI := hI.scr (fun t9 h9 => hu t9 (by omega))
          have HO := fun (t9 : Nat) (h9 : 8 ≤ t9 ∧ t9 < 15 ∨ 31 ≤ t9) => (hu t9 (by omega)).trans (HO t9 h9)
          refine lv_iconst (v := 2) hx hb dL_areSamplesRight_312 (by decide) ?_
          refine lv_icmp_le (tgt := 318) hx hb dL_areSamplesRight_313 (by decide) (fun _ => ?_) (fun c9 => absurd (chE_2 v c) c9)
          refine lv_iinc (v := nI (c + 1)) (lv' := [(5, .int (nI (c + 1))), (6, .int (nI ((samp v c).length))), (0, .ref (ad 8)), (1, .ref qa), (2, .ref qb), (3, .int (nI (smR (fun k => cK v k) (vn v)))), (4, .ref qc)]) hx hb dL_areSamplesRight_318 hl (k := 6) rfl (nI_1 _) (by decide) rfl (fun ls hl => ?_)
          refine lv_goto (tgt := 155) hx hb dL_areSamplesRight_321 (by decide) ?_
          exact ih (c + 1) qa qb qc f g h ls _ _ _ (by omega) hf hg hh hI hS ha1 ha2 ha3 HO hw (lv_sub hl [2, 3, 4, 5, 6, 0] rfl)
  have loop1 : ∀ (r k : Nat) (qa qb qc : Nat) (f g h : Nat → Int32) (ls : Array Slot) (G1 : tg_G) (H : Heap) (locs : List Loc), k + r = vn v → (∀ c, c < 6 → f c = nI (inN v k c)) → (∀ c, c < 6 → g c = nI (evN v k c)) → (∀ j, j < 2 → h j = nI (pmN v k j)) → G1 0 = some (qa, .inl (E.2.1 0, 6, .inl f)) → G1 1 = some (qb, .inl (E.2.1 0, 6, .inl g)) → G1 2 = some (qc, .inl (E.2.1 0, 2, .inl h)) → (∀ t9, 8 ≤ t9 → G1 t9 = G t9) → tg_W E A s G1 H locs → lv_has ls 7 [(0, .ref (ad 8)), (1, .ref qa), (2, .ref qb), (3, .int (nI (smR (fun k => cK v k) k))), (4, .ref qc), (5, .int (nI k))] → W p l e { frames := 6, cells := 3, slots := 14, locals := 132 } s m args below meth cd H locs 3 14 (MQ below ((tg_Qi E (fun r u => r = 1 ∧ scH E ad u ∧ ∀ t9, 8 ≤ t9 ∧ t9 < 15 ∨ 31 ≤ t9 → u t9 = G t9)) A) args s 3 14 A) (F0 m 20 ls []) := by
    intro r
    induction r with
    | zero =>
      intro k qa qb qc f g h ls G1 H locs hk hf hg hh ha1 ha2 ha3 HO hw hl
      have hI := hI.ge8 HO
      have hS := hS.off (fun t9 h8 h9 => HO t9 (by omega))
      have hco := hI.2.1
      obtain rfl : k = vn v := by omega
      refine lv_iload hx hb dL_areSamplesRight_20 (lv_at hl 5 rfl) ?_
      refine lv_aload_n hx hb dL_areSamplesRight_22 rfl (lv_at hl 0 rfl) ?_
      refine lv_iconst (v := 2) hx hb dL_areSamplesRight_23 (by decide) ?_
      refine tg_callRi (va_runV (As := [.int 2]) (rest := [.int (nI (vn v))]) (Ts := []) ⟨hx, hb, hml, hown, fun _ h9 => absurd h9 List.not_mem_nil⟩ (pu_many2 l E _ ad v G1 hI) (rc_cwV hAm qw_511 qw_1 qw_514 qw_512 qw_513 rfl rfl hd_X6_many ⟨Nat.le_of_ble_eq_true rfl, Nat.le_of_ble_eq_true rfl⟩) (tg_preV hAm hA hw hco (q := vwCl[7]) rfl) rfl rfl hl.1 rfl (lv_room (Nat.le_of_ble_eq_true rfl)) dL_areSamplesRight_24 ⟨Nat.le_of_ble_eq_true rfl, Nat.le_of_ble_eq_true rfl⟩) hA hw (fun H locs hw => ?_)
      refine lv_icmp_ge (tgt := 152) hx hb dL_areSamplesRight_27 (by decide) (fun _ => ?_) (fun c9 => absurd ((nI_leI (a := vn v) (b := vn v) (by omega) (by omega)).mpr (by omega)) c9)
      refine lv_iconst (v := 0) hx hb dL_areSamplesRight_152 (by decide) ?_
      refine lv_istore (lv' := [(5, .int 0), (0, .ref (ad 8)), (1, .ref qa), (2, .ref qb), (3, .int (nI (smR (fun k => cK v k) (vn v)))), (4, .ref qc)]) hx hb dL_areSamplesRight_153 hl (by decide) rfl (fun ls hl => ?_)
      exact loop2 6 0 qa qb qc f g h ls G1 _ _ (by omega) hf hg hh hI hS ha1 ha2 ha3 (fun t9 h9 => HO t9 (by omega)) hw (lv_sub hl [1, 2, 3, 4, 5, 0] rfl)
    | succ r ih =>
      intro k qa qb qc f g h ls G1 H locs hk hf hg hh ha1 ha2 ha3 HO hw hl
      have hI := hI.ge8 HO
      have hS := hS.off (fun t9 h8 h9 => HO t9 (by omega))
      have hco := hI.2.1
      have hlt : k < vn v := by omega
      obtain ⟨hb1, hb2, hb3⟩ := h0.2.1 k hlt
      have hck1 := cK_le v k
      have his := isR_cK v (ixs v (vR v k).1) k (ixs v (vR v k).1).length 0
      have hck := smR_le (g := fun k => cK v k) (cK_le v) k
      have hb4 := evN_le v k (vR v k).1
      have hb5 := inN_le v k (vR v k).1
      have hb6 := pmN_le v k (vR v k).2.1
      refine lv_iload hx hb dL_areSamplesRight_20 (lv_at hl 5 rfl) ?_
      refine lv_aload_n hx hb dL_areSamplesRight_22 rfl (lv_at hl 0 rfl) ?_
      refine lv_iconst (v := 2) hx hb dL_areSamplesRight_23 (by decide) ?_
      refine tg_callRi (va_runV (As := [.int 2]) (rest := [.int (nI k)]) (Ts := []) ⟨hx, hb, hml, hown, fun _ h9 => absurd h9 List.not_mem_nil⟩ (pu_many2 l E _ ad v G1 hI) (rc_cwV hAm qw_511 qw_1 qw_514 qw_512 qw_513 rfl rfl hd_X6_many ⟨Nat.le_of_ble_eq_true rfl, Nat.le_of_ble_eq_true rfl⟩) (tg_preV hAm hA hw hco (q := vwCl[7]) rfl) rfl rfl hl.1 rfl (lv_room (Nat.le_of_ble_eq_true rfl)) dL_areSamplesRight_24 ⟨Nat.le_of_ble_eq_true rfl, Nat.le_of_ble_eq_true rfl⟩) hA hw (fun H locs hw => ?_)
      refine lv_icmp_ge (tgt := 152) hx hb dL_areSamplesRight_27 (by decide) (fun c9 => absurd c9 (fun z9 => absurd ((nI_leI (a := vn v) (b := k) (by omega) (by omega)).mp z9) (by omega))) (fun _ => ?_)
      refine lv_aload_n hx hb dL_areSamplesRight_30 rfl (lv_at hl 0 rfl) ?_
      refine lv_iload hx hb dL_areSamplesRight_31 (lv_at hl 5 rfl) ?_
      refine lv_iconst (v := 4) hx hb dL_areSamplesRight_33 (by decide) ?_
      refine tg_callRi (va_runV (As := [.int (nI k), .int 4]) (rest := []) (Ts := []) ⟨hx, hb, hml, hown, fun _ h9 => absurd h9 List.not_mem_nil⟩ (pu_ofRun4 l E _ ad v G1 hI k (by omega)) (rc_cwV hAm qw_757 qw_1 qw_760 qw_758 qw_759 rfl rfl hd_X6_ofRun ⟨Nat.le_of_ble_eq_true rfl, Nat.le_of_ble_eq_true rfl⟩) (tg_preV hAm hA hw hco (q := vwCl[7]) rfl) rfl rfl hl.1 rfl (lv_room (Nat.le_of_ble_eq_true rfl)) dL_areSamplesRight_34 ⟨Nat.le_of_ble_eq_true rfl, Nat.le_of_ble_eq_true rfl⟩) hA hw (fun H locs hw => ?_)
      refine lv_iconst (v := 1) hx hb dL_areSamplesRight_37 (by decide) ?_
      refine lv_icmp_ne (tgt := 45) hx hb dL_areSamplesRight_38 (by decide) (fun c_42 => ?_) (fun c_42 => ?_)
      · have c_42 := mt (nI_eq (a := cK v k) (b := 1) (by omega) (by omega)).mpr c_42
        refine lv_iconst (v := 0) hx hb dL_areSamplesRight_45 (by decide) ?_
        refine lv_istore (lv' := [(6, .int 0), (0, .ref (ad 8)), (1, .ref qa), (2, .ref qb), (3, .int (nI (smR (fun k => cK v k) k))), (4, .ref qc), (5, .int (nI k))]) hx hb dL_areSamplesRight_46 hl (by decide) rfl (fun ls hl => ?_)
        refine lv_aload_n hx hb dL_areSamplesRight_48 rfl (lv_at hl 1 rfl) ?_
        refine lv_iload hx hb dL_areSamplesRight_49 (lv_at hl 6 rfl) ?_
        refine lv_iconst (v := 5) hx hb dL_areSamplesRight_51 (by decide) ?_
        refine tg_callRi (va_runV (As := [.int (nI k), .int 5]) (rest := []) (Ts := []) ⟨hx, hb, hml, hown, fun _ h9 => absurd h9 List.not_mem_nil⟩ (pu_ofRun5 l E _ ad v G1 hI k (by omega)) (rc_cwV hAm qw_757 qw_1 qw_760 qw_758 qw_759 rfl rfl hd_X6_ofRun ⟨Nat.le_of_ble_eq_true rfl, Nat.le_of_ble_eq_true rfl⟩) (tg_preV hAm hA hw hco (q := vwCl[7]) rfl) rfl rfl hl.1 rfl (lv_room (Nat.le_of_ble_eq_true rfl)) dL_areSamplesRight_52 ⟨Nat.le_of_ble_eq_true rfl, Nat.le_of_ble_eq_true rfl⟩) hA hw (fun H locs hw => ?_)
        refine lv_iconst (v := 1) hx hb dL_areSamplesRight_55 (by decide) ?_
        refine lv_icmp_ne (tgt := 64) hx hb dL_areSamplesRight_56 (by decide) (fun c_43 => ?_) (fun c_43 => ?_)
        · have c_43 := mt (nI_eq (a := isR v (ixs v (vR v k).1) k (ixs v (vR v k).1).length 0) (b := 1) (by omega) (by omega)).mpr c_43
          refine lv_iload hx hb dL_areSamplesRight_64 (lv_at hl 0 rfl) ?_
          refine lv_if_eq (tgt := 87) hx hb dL_areSamplesRight_66 (by decide) (fun _ => ?_) (fun c9 => absurd (by decide) c9)
          refine lv_aload_n hx hb dL_areSamplesRight_87 rfl (lv_at hl 3 rfl) ?_
          refine lv_aload_n hx hb dL_areSamplesRight_88 rfl (lv_at hl 1 rfl) ?_
          refine lv_iload hx hb dL_areSamplesRight_89 (lv_at hl 6 rfl) ?_
          refine lv_iconst (v := 0) hx hb dL_areSamplesRight_91 (by decide) ?_
          refine tg_callRi (va_runV (As := [.int (nI k), .int 0]) (rest := [.ref qb]) (Ts := []) ⟨hx, hb, hml, hown, fun _ h9 => absurd h9 List.not_mem_nil⟩ (pu_ofRun0 l E _ ad v G1 hI k (by omega)) (rc_cwV hAm qw_757 qw_1 qw_760 qw_758 qw_759 rfl rfl hd_X6_ofRun ⟨Nat.le_of_ble_eq_true rfl, Nat.le_of_ble_eq_true rfl⟩) (tg_preV hAm hA hw hco (q := vwCl[7]) rfl) rfl rfl hl.1 rfl (lv_room (Nat.le_of_ble_eq_true rfl)) dL_areSamplesRight_92 ⟨Nat.le_of_ble_eq_true rfl, Nat.le_of_ble_eq_true rfl⟩) hA hw (fun H locs hw => ?_)
          refine lv_dup2_11 hx hb dL_areSamplesRight_95 rfl rfl ?_
          refine tg_iald hx hb hAm hw ha2 (vp_in_nI (n := (vR v k).1) (N := 6) (by omega) (by omega)) dL_areSamplesRight_96 ?_
          refine rc_topi (g (vR v k).1) (by rw [nI_clamp (by omega)]) ?_
          refine rc_topi (nI (evN v k (vR v k).1)) (hg _ (by omega)) ?_
          refine lv_iconst (v := 1) hx hb dL_areSamplesRight_97 (by decide) ?_
          refine lv_iadd hx hb dL_areSamplesRight_98 ?_
          refine rc_topi (nI (evN v k (vR v k).1 + 1)) (nI_add (evN v k (vR v k).1) 1) ?_
          refine tg_iast hx hb hAm hw ha2 (vp_in_nI (n := (vR v k).1) (N := 6) (by omega) (by omega)) dL_areSamplesRight_99 (fun G_44 H locs g_45 o_46 hw => ?_)
          rw [nI_clamp (by omega)] at g_45
          have hco := (o_46 _ (by decide)).trans hco
          have ha1 := (o_46 _ (by decide)).trans ha1
          have ha3 := (o_46 _ (by decide)).trans ha3
          have ha2 : G_44 1 = some (qb, .inl (E.2.1 0, 6, .inl (upd g (vR v k).1 (nI (evN v k (vR v k).1 + 1))))) := g_45
          have hI := hI.ge8 (fun t9 h9 => o_46 t9 (by omega))
          have HO := fun (t9 : Nat) (h9 : 8 ≤ t9) => (o_46 t9 (by omega)).trans (HO t9 h9)
          have hg : ∀ c, c < 6 → upd g (vR v k).1 (nI (evN v k (vR v k).1 + 1)) c = nI (evN v (k + 1) c) := up_sum (F := fun c => evN v k c) hg
          refine lv_aload_n hx hb dL_areSamplesRight_100 rfl (lv_at hl 2 rfl) ?_
          refine lv_aload_n hx hb dL_areSamplesRight_101 rfl (lv_at hl 1 rfl) ?_
          refine lv_iload hx hb dL_areSamplesRight_102 (lv_at hl 6 rfl) ?_
          refine lv_iconst (v := 0) hx hb dL_areSamplesRight_104 (by decide) ?_
          refine tg_callRi (va_runV (As := [.int (nI k), .int 0]) (rest := [.ref qa]) (Ts := []) ⟨hx, hb, hml, hown, fun _ h9 => absurd h9 List.not_mem_nil⟩ (pu_ofRun0 l E _ ad v G_44 hI k (by omega)) (rc_cwV hAm qw_757 qw_1 qw_760 qw_758 qw_759 rfl rfl hd_X6_ofRun ⟨Nat.le_of_ble_eq_true rfl, Nat.le_of_ble_eq_true rfl⟩) (tg_preV hAm hA hw hco (q := vwCl[7]) rfl) rfl rfl hl.1 rfl (lv_room (Nat.le_of_ble_eq_true rfl)) dL_areSamplesRight_105 ⟨Nat.le_of_ble_eq_true rfl, Nat.le_of_ble_eq_true rfl⟩) hA hw (fun H locs hw => ?_)
          refine lv_dup2_11 hx hb dL_areSamplesRight_108 rfl rfl ?_
          refine tg_iald hx hb hAm hw ha1 (vp_in_nI (n := (vR v k).1) (N := 6) (by omega) (by omega)) dL_areSamplesRight_109 ?_
          refine rc_topi (f (vR v k).1) (by rw [nI_clamp (by omega)]) ?_
          refine rc_topi (nI (inN v k (vR v k).1)) (hf _ (by omega)) ?_
          refine lv_aload_n hx hb dL_areSamplesRight_110 rfl (lv_at hl 1 rfl) ?_
          refine lv_iload hx hb dL_areSamplesRight_111 (lv_at hl 6 rfl) ?_
          refine lv_iconst (v := 5) hx hb dL_areSamplesRight_113 (by decide) ?_
          refine tg_callRi (va_runV (As := [.int (nI k), .int 5]) (rest := [.int (nI (inN v k (vR v k).1)), .int (nI (vR v k).1), .ref qa]) (Ts := []) ⟨hx, hb, hml, hown, fun _ h9 => absurd h9 List.not_mem_nil⟩ (pu_ofRun5 l E _ ad v G_44 hI k (by omega)) (rc_cwV hAm qw_757 qw_1 qw_760 qw_758 qw_759 rfl rfl hd_X6_ofRun ⟨Nat.le_of_ble_eq_true rfl, Nat.le_of_ble_eq_true rfl⟩) (tg_preV hAm hA hw hco (q := vwCl[7]) rfl) rfl rfl hl.1 rfl (lv_room (Nat.le_of_ble_eq_true rfl)) dL_areSamplesRight_114 ⟨Nat.le_of_ble_eq_true rfl, Nat.le_of_ble_eq_true rfl⟩) hA hw (fun H locs hw => ?_)
          refine lv_iadd hx hb dL_areSamplesRight_117 ?_
          refine rc_topi (nI (inN v k (vR v k).1 + isR v (ixs v (vR v k).1) k (ixs v (vR v k).1).length 0)) (nI_add (inN v k (vR v k).1) (isR v (ixs v (vR v k).1) k (ixs v (vR v k).1).length 0)) ?_
          refine tg_iast hx hb hAm hw ha1 (vp_in_nI (n := (vR v k).1) (N := 6) (by omega) (by omega)) dL_areSamplesRight_118 (fun G_47 H locs g_48 o_49 hw => ?_)
          rw [nI_clamp (by omega)] at g_48
          have hco := (o_49 _ (by decide)).trans hco
          have ha2 := (o_49 _ (by decide)).trans ha2
          have ha3 := (o_49 _ (by decide)).trans ha3
          have ha1 : G_47 0 = some (qa, .inl (E.2.1 0, 6, .inl (upd f (vR v k).1 (nI (inN v k (vR v k).1 + isR v (ixs v (vR v k).1) k (ixs v (vR v k).1).length 0))))) := g_48
          have hI := hI.ge8 (fun t9 h9 => o_49 t9 (by omega))
          have HO := fun (t9 : Nat) (h9 : 8 ≤ t9) => (o_49 t9 (by omega)).trans (HO t9 h9)
          have hf : ∀ c, c < 6 → upd f (vR v k).1 (nI (inN v k (vR v k).1 + isR v (ixs v (vR v k).1) k (ixs v (vR v k).1).length 0)) c = nI (inN v (k + 1) c) := up_sum (F := fun c => inN v k c) hf
          refine lv_iload_n hx hb dL_areSamplesRight_119 rfl (lv_at hl 4 rfl) ?_
          refine lv_iload hx hb dL_areSamplesRight_120 (lv_at hl 0 rfl) ?_
          refine lv_if_eq (tgt := 129) hx hb dL_areSamplesRight_122 (by decide) (fun _ => ?_) (fun c9 => absurd (by decide) c9)
          refine lv_iconst (v := 0) hx hb dL_areSamplesRight_129 (by decide) ?_
          refine lv_iadd hx hb dL_areSamplesRight_130 ?_
          refine rc_topi (nI (smR (fun k => cK v k) k + 0)) (nI_add (smR (fun k => cK v k) k) 0) ?_
          refine rc_topi (nI (smR (fun k => cK v k) (k + 1))) (congrArg nI (show smR (fun k => cK v k) k + 0 = smR (fun k => cK v k) k + cK v k by omega)) ?_
          refine lv_istore_n (lv' := [(3, .int (nI (smR (fun k => cK v k) (k + 1)))), (6, .int 0), (0, .ref (ad 8)), (1, .ref qa), (2, .ref qb), (4, .ref qc), (5, .int (nI k))]) hx hb dL_areSamplesRight_131 rfl hl (by decide) rfl (fun ls hl => ?_)
          refine lv_aload hx hb dL_areSamplesRight_132 (lv_at hl 5 rfl) ?_
          refine lv_aload_n hx hb dL_areSamplesRight_134 rfl (lv_at hl 2 rfl) ?_
          refine lv_iload hx hb dL_areSamplesRight_135 (lv_at hl 6 rfl) ?_
          refine lv_iconst (v := 1) hx hb dL_areSamplesRight_137 (by decide) ?_
          refine tg_callRi (va_runV (As := [.int (nI k), .int 1]) (rest := [.ref qc]) (Ts := []) ⟨hx, hb, hml, hown, fun _ h9 => absurd h9 List.not_mem_nil⟩ (pu_ofRun1 l E _ ad v G_47 hI k (by omega)) (rc_cwV hAm qw_757 qw_1 qw_760 qw_758 qw_759 rfl rfl hd_X6_ofRun ⟨Nat.le_of_ble_eq_true rfl, Nat.le_of_ble_eq_true rfl⟩) (tg_preV hAm hA hw hco (q := vwCl[7]) rfl) rfl rfl hl.1 rfl (lv_room (Nat.le_of_ble_eq_true rfl)) dL_areSamplesRight_138 ⟨Nat.le_of_ble_eq_true rfl, Nat.le_of_ble_eq_true rfl⟩) hA hw (fun H locs hw => ?_)
          refine lv_dup2_11 hx hb dL_areSamplesRight_141 rfl rfl ?_
          refine tg_iald hx hb hAm hw ha3 (vp_in_nI (n := (vR v k).2.1) (N := 2) (by omega) (by omega)) dL_areSamplesRight_142 ?_
          refine rc_topi (h (vR v k).2.1) (by rw [nI_clamp (by omega)]) ?_
          refine rc_topi (nI (pmN v k (vR v k).2.1)) (hh _ (by omega)) ?_
          refine lv_iconst (v := 1) hx hb dL_areSamplesRight_143 (by decide) ?_
          refine lv_iadd hx hb dL_areSamplesRight_144 ?_
          refine rc_topi (nI (pmN v k (vR v k).2.1 + 1)) (nI_add (pmN v k (vR v k).2.1) 1) ?_
          refine tg_iast hx hb hAm hw ha3 (vp_in_nI (n := (vR v k).2.1) (N := 2) (by omega) (by omega)) dL_areSamplesRight_145 (fun G_50 H locs g_51 o_52 hw => ?_)
          rw [nI_clamp (by omega)] at g_51
          have hco := (o_52 _ (by decide)).trans hco
          have ha1 := (o_52 _ (by decide)).trans ha1
          have ha2 := (o_52 _ (by decide)).trans ha2
          have ha3 : G_50 2 = some (qc, .inl (E.2.1 0, 2, .inl (upd h (vR v k).2.1 (nI (pmN v k (vR v k).2.1 + 1))))) := g_51
          have hI := hI.ge8 (fun t9 h9 => o_52 t9 (by omega))
          have HO := fun (t9 : Nat) (h9 : 8 ≤ t9) => (o_52 t9 (by omega)).trans (HO t9 h9)
          have hh : ∀ c, c < 2 → upd h (vR v k).2.1 (nI (pmN v k (vR v k).2.1 + 1)) c = nI (pmN v (k + 1) c) := up_sum (F := fun c => pmN v k c) hh
          refine lv_iinc (v := nI (k + 1)) (lv' := [(5, .int (nI (k + 1))), (3, .int (nI (smR (fun k => cK v k) (k + 1)))), (6, .int 0), (0, .ref (ad 8)), (1, .ref qa), (2, .ref qb), (4, .ref qc)]) hx hb dL_areSamplesRight_146 hl (k := 6) rfl (nI_1 _) (by decide) rfl (fun ls hl => ?_)
          refine lv_goto (tgt := 20) hx hb dL_areSamplesRight_149 (by decide) ?_
          exact ih (k + 1) qa qb qc _ _ _ ls _ _ _ (by omega) hf hg hh ha1 ha2 ha3 HO hw (lv_sub hl [3, 4, 5, 1, 6, 0] rfl)
        · have c_43 := (nI_eq (a := isR v (ixs v (vR v k).1) k (ixs v (vR v k).1).length 0) (b := 1) (by omega) (by omega)).mp c_43
          refine lv_iload hx hb dL_areSamplesRight_59 (lv_at hl 0 rfl) ?_
          refine lv_if_eq (tgt := 85) hx hb dL_areSamplesRight_61 (by decide) (fun _ => ?_) (fun c9 => absurd (by decide) c9)
          refine lv_iconst (v := 0) hx hb dL_areSamplesRight_85 (by decide) ?_
          exact (show False by omega).elim
      · have c_42 := (nI_eq (a := cK v k) (b := 1) (by omega) (by omega)).mp c_42
        refine lv_iconst (v := 1) hx hb dL_areSamplesRight_41 (by decide) ?_
        refine lv_goto (tgt := 46) hx hb dL_areSamplesRight_42 (by decide) ?_
        refine lv_istore (lv' := [(6, .int 1), (0, .ref (ad 8)), (1, .ref qa), (2, .ref qb), (3, .int (nI (smR (fun k => cK v k) k))), (4, .ref qc), (5, .int (nI k))]) hx hb dL_areSamplesRight_46 hl (by decide) rfl (fun ls hl => ?_)
        refine lv_aload_n hx hb dL_areSamplesRight_48 rfl (lv_at hl 1 rfl) ?_
        refine lv_iload hx hb dL_areSamplesRight_49 (lv_at hl 6 rfl) ?_
        refine lv_iconst (v := 5) hx hb dL_areSamplesRight_51 (by decide) ?_
        refine tg_callRi (va_runV (As := [.int (nI k), .int 5]) (rest := []) (Ts := []) ⟨hx, hb, hml, hown, fun _ h9 => absurd h9 List.not_mem_nil⟩ (pu_ofRun5 l E _ ad v G1 hI k (by omega)) (rc_cwV hAm qw_757 qw_1 qw_760 qw_758 qw_759 rfl rfl hd_X6_ofRun ⟨Nat.le_of_ble_eq_true rfl, Nat.le_of_ble_eq_true rfl⟩) (tg_preV hAm hA hw hco (q := vwCl[7]) rfl) rfl rfl hl.1 rfl (lv_room (Nat.le_of_ble_eq_true rfl)) dL_areSamplesRight_52 ⟨Nat.le_of_ble_eq_true rfl, Nat.le_of_ble_eq_true rfl⟩) hA hw (fun H locs hw => ?_)
        refine lv_iconst (v := 1) hx hb dL_areSamplesRight_55 (by decide) ?_
        refine lv_icmp_ne (tgt := 64) hx hb dL_areSamplesRight_56 (by decide) (fun c_53 => ?_) (fun c_53 => ?_)
        · have c_53 := mt (nI_eq (a := isR v (ixs v (vR v k).1) k (ixs v (vR v k).1).length 0) (b := 1) (by omega) (by omega)).mpr c_53
          refine lv_iload hx hb dL_areSamplesRight_64 (lv_at hl 0 rfl) ?_
          refine lv_if_eq (tgt := 87) hx hb dL_areSamplesRight_66 (by decide) (fun c9 => absurd c9 (by decide)) (fun _ => ?_)
          refine lv_aload_n hx hb dL_areSamplesRight_69 rfl (lv_at hl 1 rfl) ?_
          refine lv_aload_n hx hb dL_areSamplesRight_70 rfl (lv_at hl 1 rfl) ?_
          refine lv_iload hx hb dL_areSamplesRight_71 (lv_at hl 6 rfl) ?_
          refine lv_iconst (v := 1) hx hb dL_areSamplesRight_73 (by decide) ?_
          refine tg_callRi (va_runV (As := [.int (nI k), .int 1]) (rest := [.ref (ad 8)]) (Ts := []) ⟨hx, hb, hml, hown, fun _ h9 => absurd h9 List.not_mem_nil⟩ (pu_ofRun1 l E _ ad v G1 hI k (by omega)) (rc_cwV hAm qw_757 qw_1 qw_760 qw_758 qw_759 rfl rfl hd_X6_ofRun ⟨Nat.le_of_ble_eq_true rfl, Nat.le_of_ble_eq_true rfl⟩) (tg_preV hAm hA hw hco (q := vwCl[7]) rfl) rfl rfl hl.1 rfl (lv_room (Nat.le_of_ble_eq_true rfl)) dL_areSamplesRight_74 ⟨Nat.le_of_ble_eq_true rfl, Nat.le_of_ble_eq_true rfl⟩) hA hw (fun H locs hw => ?_)
          refine lv_iconst (v := 2) hx hb dL_areSamplesRight_77 (by decide) ?_
          refine tg_callRi (va_runV (As := [.int (nI (vR v k).2.1), .int 2]) (rest := []) (Ts := []) ⟨hx, hb, hml, hown, fun _ h9 => absurd h9 List.not_mem_nil⟩ (pu_ofMachine2 l E _ ad v G1 hI (vR v k).2.1 (by omega)) (rc_cwV hAm qw_632 qw_1 qw_635 qw_633 qw_634 rfl rfl hd_X6_ofMachine ⟨Nat.le_of_ble_eq_true rfl, Nat.le_of_ble_eq_true rfl⟩) (tg_preV hAm hA hw hco (q := vwCl[7]) rfl) rfl rfl hl.1 rfl (lv_room (Nat.le_of_ble_eq_true rfl)) dL_areSamplesRight_78 ⟨Nat.le_of_ble_eq_true rfl, Nat.le_of_ble_eq_true rfl⟩) hA hw (fun H locs hw => ?_)
          have hms := cK_as (v := v) (k := k) (by omega)
          refine rc_topi 0 hms ?_
          refine lv_iconst (v := 1) hx hb dL_areSamplesRight_81 (by decide) ?_
          refine lv_icmp_ne (tgt := 87) hx hb dL_areSamplesRight_82 (by decide) (fun _ => ?_) (fun c9 => absurd c9 (by decide))
          refine lv_aload_n hx hb dL_areSamplesRight_87 rfl (lv_at hl 3 rfl) ?_
          refine lv_aload_n hx hb dL_areSamplesRight_88 rfl (lv_at hl 1 rfl) ?_
          refine lv_iload hx hb dL_areSamplesRight_89 (lv_at hl 6 rfl) ?_
          refine lv_iconst (v := 0) hx hb dL_areSamplesRight_91 (by decide) ?_
          refine tg_callRi (va_runV (As := [.int (nI k), .int 0]) (rest := [.ref qb]) (Ts := []) ⟨hx, hb, hml, hown, fun _ h9 => absurd h9 List.not_mem_nil⟩ (pu_ofRun0 l E _ ad v G1 hI k (by omega)) (rc_cwV hAm qw_757 qw_1 qw_760 qw_758 qw_759 rfl rfl hd_X6_ofRun ⟨Nat.le_of_ble_eq_true rfl, Nat.le_of_ble_eq_true rfl⟩) (tg_preV hAm hA hw hco (q := vwCl[7]) rfl) rfl rfl hl.1 rfl (lv_room (Nat.le_of_ble_eq_true rfl)) dL_areSamplesRight_92 ⟨Nat.le_of_ble_eq_true rfl, Nat.le_of_ble_eq_true rfl⟩) hA hw (fun H locs hw => ?_)
          refine lv_dup2_11 hx hb dL_areSamplesRight_95 rfl rfl ?_
          refine tg_iald hx hb hAm hw ha2 (vp_in_nI (n := (vR v k).1) (N := 6) (by omega) (by omega)) dL_areSamplesRight_96 ?_
          refine rc_topi (g (vR v k).1) (by rw [nI_clamp (by omega)]) ?_
          refine rc_topi (nI (evN v k (vR v k).1)) (hg _ (by omega)) ?_
          refine lv_iconst (v := 1) hx hb dL_areSamplesRight_97 (by decide) ?_
          refine lv_iadd hx hb dL_areSamplesRight_98 ?_
          refine rc_topi (nI (evN v k (vR v k).1 + 1)) (nI_add (evN v k (vR v k).1) 1) ?_
          refine tg_iast hx hb hAm hw ha2 (vp_in_nI (n := (vR v k).1) (N := 6) (by omega) (by omega)) dL_areSamplesRight_99 (fun G_54 H locs g_55 o_56 hw => ?_)
          rw [nI_clamp (by omega)] at g_55
          have hco := (o_56 _ (by decide)).trans hco
          have ha1 := (o_56 _ (by decide)).trans ha1
          have ha3 := (o_56 _ (by decide)).trans ha3
          have ha2 : G_54 1 = some (qb, .inl (E.2.1 0, 6, .inl (upd g (vR v k).1 (nI (evN v k (vR v k).1 + 1))))) := g_55
          have hI := hI.ge8 (fun t9 h9 => o_56 t9 (by omega))
          have HO := fun (t9 : Nat) (h9 : 8 ≤ t9) => (o_56 t9 (by omega)).trans (HO t9 h9)
          have hg : ∀ c, c < 6 → upd g (vR v k).1 (nI (evN v k (vR v k).1 + 1)) c = nI (evN v (k + 1) c) := up_sum (F := fun c => evN v k c) hg
          refine lv_aload_n hx hb dL_areSamplesRight_100 rfl (lv_at hl 2 rfl) ?_
          refine lv_aload_n hx hb dL_areSamplesRight_101 rfl (lv_at hl 1 rfl) ?_
          refine lv_iload hx hb dL_areSamplesRight_102 (lv_at hl 6 rfl) ?_
          refine lv_iconst (v := 0) hx hb dL_areSamplesRight_104 (by decide) ?_
          refine tg_callRi (va_runV (As := [.int (nI k), .int 0]) (rest := [.ref qa]) (Ts := []) ⟨hx, hb, hml, hown, fun _ h9 => absurd h9 List.not_mem_nil⟩ (pu_ofRun0 l E _ ad v G_54 hI k (by omega)) (rc_cwV hAm qw_757 qw_1 qw_760 qw_758 qw_759 rfl rfl hd_X6_ofRun ⟨Nat.le_of_ble_eq_true rfl, Nat.le_of_ble_eq_true rfl⟩) (tg_preV hAm hA hw hco (q := vwCl[7]) rfl) rfl rfl hl.1 rfl (lv_room (Nat.le_of_ble_eq_true rfl)) dL_areSamplesRight_105 ⟨Nat.le_of_ble_eq_true rfl, Nat.le_of_ble_eq_true rfl⟩) hA hw (fun H locs hw => ?_)
          refine lv_dup2_11 hx hb dL_areSamplesRight_108 rfl rfl ?_
          refine tg_iald hx hb hAm hw ha1 (vp_in_nI (n := (vR v k).1) (N := 6) (by omega) (by omega)) dL_areSamplesRight_109 ?_
          refine rc_topi (f (vR v k).1) (by rw [nI_clamp (by omega)]) ?_
          refine rc_topi (nI (inN v k (vR v k).1)) (hf _ (by omega)) ?_
          refine lv_aload_n hx hb dL_areSamplesRight_110 rfl (lv_at hl 1 rfl) ?_
          refine lv_iload hx hb dL_areSamplesRight_111 (lv_at hl 6 rfl) ?_
          refine lv_iconst (v := 5) hx hb dL_areSamplesRight_113 (by decide) ?_
          refine tg_callRi (va_runV (As := [.int (nI k), .int 5]) (rest := [.int (nI (inN v k (vR v k).1)), .int (nI (vR v k).1), .ref qa]) (Ts := []) ⟨hx, hb, hml, hown, fun _ h9 => absurd h9 List.not_mem_nil⟩ (pu_ofRun5 l E _ ad v G_54 hI k (by omega)) (rc_cwV hAm qw_757 qw_1 qw_760 qw_758 qw_759 rfl rfl hd_X6_ofRun ⟨Nat.le_of_ble_eq_true rfl, Nat.le_of_ble_eq_true rfl⟩) (tg_preV hAm hA hw hco (q := vwCl[7]) rfl) rfl rfl hl.1 rfl (lv_room (Nat.le_of_ble_eq_true rfl)) dL_areSamplesRight_114 ⟨Nat.le_of_ble_eq_true rfl, Nat.le_of_ble_eq_true rfl⟩) hA hw (fun H locs hw => ?_)
          refine lv_iadd hx hb dL_areSamplesRight_117 ?_
          refine rc_topi (nI (inN v k (vR v k).1 + isR v (ixs v (vR v k).1) k (ixs v (vR v k).1).length 0)) (nI_add (inN v k (vR v k).1) (isR v (ixs v (vR v k).1) k (ixs v (vR v k).1).length 0)) ?_
          refine tg_iast hx hb hAm hw ha1 (vp_in_nI (n := (vR v k).1) (N := 6) (by omega) (by omega)) dL_areSamplesRight_118 (fun G_57 H locs g_58 o_59 hw => ?_)
          rw [nI_clamp (by omega)] at g_58
          have hco := (o_59 _ (by decide)).trans hco
          have ha2 := (o_59 _ (by decide)).trans ha2
          have ha3 := (o_59 _ (by decide)).trans ha3
          have ha1 : G_57 0 = some (qa, .inl (E.2.1 0, 6, .inl (upd f (vR v k).1 (nI (inN v k (vR v k).1 + isR v (ixs v (vR v k).1) k (ixs v (vR v k).1).length 0))))) := g_58
          have hI := hI.ge8 (fun t9 h9 => o_59 t9 (by omega))
          have HO := fun (t9 : Nat) (h9 : 8 ≤ t9) => (o_59 t9 (by omega)).trans (HO t9 h9)
          have hf : ∀ c, c < 6 → upd f (vR v k).1 (nI (inN v k (vR v k).1 + isR v (ixs v (vR v k).1) k (ixs v (vR v k).1).length 0)) c = nI (inN v (k + 1) c) := up_sum (F := fun c => inN v k c) hf
          refine lv_iload_n hx hb dL_areSamplesRight_119 rfl (lv_at hl 4 rfl) ?_
          refine lv_iload hx hb dL_areSamplesRight_120 (lv_at hl 0 rfl) ?_
          refine lv_if_eq (tgt := 129) hx hb dL_areSamplesRight_122 (by decide) (fun c9 => absurd c9 (by decide)) (fun _ => ?_)
          refine lv_iconst (v := 1) hx hb dL_areSamplesRight_125 (by decide) ?_
          refine lv_goto (tgt := 130) hx hb dL_areSamplesRight_126 (by decide) ?_
          refine lv_iadd hx hb dL_areSamplesRight_130 ?_
          refine rc_topi (nI (smR (fun k => cK v k) k + 1)) (nI_add (smR (fun k => cK v k) k) 1) ?_
          refine rc_topi (nI (smR (fun k => cK v k) (k + 1))) (congrArg nI (show smR (fun k => cK v k) k + 1 = smR (fun k => cK v k) k + cK v k by omega)) ?_
          refine lv_istore_n (lv' := [(3, .int (nI (smR (fun k => cK v k) (k + 1)))), (6, .int 1), (0, .ref (ad 8)), (1, .ref qa), (2, .ref qb), (4, .ref qc), (5, .int (nI k))]) hx hb dL_areSamplesRight_131 rfl hl (by decide) rfl (fun ls hl => ?_)
          refine lv_aload hx hb dL_areSamplesRight_132 (lv_at hl 5 rfl) ?_
          refine lv_aload_n hx hb dL_areSamplesRight_134 rfl (lv_at hl 2 rfl) ?_
          refine lv_iload hx hb dL_areSamplesRight_135 (lv_at hl 6 rfl) ?_
          refine lv_iconst (v := 1) hx hb dL_areSamplesRight_137 (by decide) ?_
          refine tg_callRi (va_runV (As := [.int (nI k), .int 1]) (rest := [.ref qc]) (Ts := []) ⟨hx, hb, hml, hown, fun _ h9 => absurd h9 List.not_mem_nil⟩ (pu_ofRun1 l E _ ad v G_57 hI k (by omega)) (rc_cwV hAm qw_757 qw_1 qw_760 qw_758 qw_759 rfl rfl hd_X6_ofRun ⟨Nat.le_of_ble_eq_true rfl, Nat.le_of_ble_eq_true rfl⟩) (tg_preV hAm hA hw hco (q := vwCl[7]) rfl) rfl rfl hl.1 rfl (lv_room (Nat.le_of_ble_eq_true rfl)) dL_areSamplesRight_138 ⟨Nat.le_of_ble_eq_true rfl, Nat.le_of_ble_eq_true rfl⟩) hA hw (fun H locs hw => ?_)
          refine lv_dup2_11 hx hb dL_areSamplesRight_141 rfl rfl ?_
          refine tg_iald hx hb hAm hw ha3 (vp_in_nI (n := (vR v k).2.1) (N := 2) (by omega) (by omega)) dL_areSamplesRight_142 ?_
          refine rc_topi (h (vR v k).2.1) (by rw [nI_clamp (by omega)]) ?_
          refine rc_topi (nI (pmN v k (vR v k).2.1)) (hh _ (by omega)) ?_
          refine lv_iconst (v := 1) hx hb dL_areSamplesRight_143 (by decide) ?_
          refine lv_iadd hx hb dL_areSamplesRight_144 ?_
          refine rc_topi (nI (pmN v k (vR v k).2.1 + 1)) (nI_add (pmN v k (vR v k).2.1) 1) ?_
          refine tg_iast hx hb hAm hw ha3 (vp_in_nI (n := (vR v k).2.1) (N := 2) (by omega) (by omega)) dL_areSamplesRight_145 (fun G_60 H locs g_61 o_62 hw => ?_)
          rw [nI_clamp (by omega)] at g_61
          have hco := (o_62 _ (by decide)).trans hco
          have ha1 := (o_62 _ (by decide)).trans ha1
          have ha2 := (o_62 _ (by decide)).trans ha2
          have ha3 : G_60 2 = some (qc, .inl (E.2.1 0, 2, .inl (upd h (vR v k).2.1 (nI (pmN v k (vR v k).2.1 + 1))))) := g_61
          have hI := hI.ge8 (fun t9 h9 => o_62 t9 (by omega))
          have HO := fun (t9 : Nat) (h9 : 8 ≤ t9) => (o_62 t9 (by omega)).trans (HO t9 h9)
          have hh : ∀ c, c < 2 → upd h (vR v k).2.1 (nI (pmN v k (vR v k).2.1 + 1)) c = nI (pmN v (k + 1) c) := up_sum (F := fun c => pmN v k c) hh
          refine lv_iinc (v := nI (k + 1)) (lv' := [(5, .int (nI (k + 1))), (3, .int (nI (smR (fun k => cK v k) (k + 1)))), (6, .int 1), (0, .ref (ad 8)), (1, .ref qa), (2, .ref qb), (4, .ref qc)]) hx hb dL_areSamplesRight_146 hl (k := 6) rfl (nI_1 _) (by decide) rfl (fun ls hl => ?_)
          refine lv_goto (tgt := 20) hx hb dL_areSamplesRight_149 (by decide) ?_
          exact ih (k + 1) qa qb qc _ _ _ ls _ _ _ (by omega) hf hg hh ha1 ha2 ha3 HO hw (lv_sub hl [3, 4, 5, 1, 6, 0] rfl)
        · have c_53 := (nI_eq (a := isR v (ixs v (vR v k).1) k (ixs v (vR v k).1).length 0) (b := 1) (by omega) (by omega)).mp c_53
          refine lv_iload hx hb dL_areSamplesRight_59 (lv_at hl 0 rfl) ?_
          refine lv_if_eq (tgt := 85) hx hb dL_areSamplesRight_61 (by decide) (fun c9 => absurd c9 (by decide)) (fun _ => ?_)
          refine lv_iload hx hb dL_areSamplesRight_64 (lv_at hl 0 rfl) ?_
          refine lv_if_eq (tgt := 87) hx hb dL_areSamplesRight_66 (by decide) (fun c9 => absurd c9 (by decide)) (fun _ => ?_)
          refine lv_aload_n hx hb dL_areSamplesRight_69 rfl (lv_at hl 1 rfl) ?_
          refine lv_aload_n hx hb dL_areSamplesRight_70 rfl (lv_at hl 1 rfl) ?_
          refine lv_iload hx hb dL_areSamplesRight_71 (lv_at hl 6 rfl) ?_
          refine lv_iconst (v := 1) hx hb dL_areSamplesRight_73 (by decide) ?_
          refine tg_callRi (va_runV (As := [.int (nI k), .int 1]) (rest := [.ref (ad 8)]) (Ts := []) ⟨hx, hb, hml, hown, fun _ h9 => absurd h9 List.not_mem_nil⟩ (pu_ofRun1 l E _ ad v G1 hI k (by omega)) (rc_cwV hAm qw_757 qw_1 qw_760 qw_758 qw_759 rfl rfl hd_X6_ofRun ⟨Nat.le_of_ble_eq_true rfl, Nat.le_of_ble_eq_true rfl⟩) (tg_preV hAm hA hw hco (q := vwCl[7]) rfl) rfl rfl hl.1 rfl (lv_room (Nat.le_of_ble_eq_true rfl)) dL_areSamplesRight_74 ⟨Nat.le_of_ble_eq_true rfl, Nat.le_of_ble_eq_true rfl⟩) hA hw (fun H locs hw => ?_)
          refine lv_iconst (v := 2) hx hb dL_areSamplesRight_77 (by decide) ?_
          refine tg_callRi (va_runV (As := [.int (nI (vR v k).2.1), .int 2]) (rest := []) (Ts := []) ⟨hx, hb, hml, hown, fun _ h9 => absurd h9 List.not_mem_nil⟩ (pu_ofMachine2 l E _ ad v G1 hI (vR v k).2.1 (by omega)) (rc_cwV hAm qw_632 qw_1 qw_635 qw_633 qw_634 rfl rfl hd_X6_ofMachine ⟨Nat.le_of_ble_eq_true rfl, Nat.le_of_ble_eq_true rfl⟩) (tg_preV hAm hA hw hco (q := vwCl[7]) rfl) rfl rfl hl.1 rfl (lv_room (Nat.le_of_ble_eq_true rfl)) dL_areSamplesRight_78 ⟨Nat.le_of_ble_eq_true rfl, Nat.le_of_ble_eq_true rfl⟩) hA hw (fun H locs hw => ?_)
          have hms := cK_as (v := v) (k := k) (by omega)
          refine rc_topi 0 hms ?_
          refine lv_iconst (v := 1) hx hb dL_areSamplesRight_81 (by decide) ?_
          refine lv_icmp_ne (tgt := 87) hx hb dL_areSamplesRight_82 (by decide) (fun _ => ?_) (fun c9 => absurd c9 (by decide))
          refine lv_aload_n hx hb dL_areSamplesRight_87 rfl (lv_at hl 3 rfl) ?_
          refine lv_aload_n hx hb dL_areSamplesRight_88 rfl (lv_at hl 1 rfl) ?_
          refine lv_iload hx hb dL_areSamplesRight_89 (lv_at hl 6 rfl) ?_
          refine lv_iconst (v := 0) hx hb dL_areSamplesRight_91 (by decide) ?_
          refine tg_callRi (va_runV (As := [.int (nI k), .int 0]) (rest := [.ref qb]) (Ts := []) ⟨hx, hb, hml, hown, fun _ h9 => absurd h9 List.not_mem_nil⟩ (pu_ofRun0 l E _ ad v G1 hI k (by omega)) (rc_cwV hAm qw_757 qw_1 qw_760 qw_758 qw_759 rfl rfl hd_X6_ofRun ⟨Nat.le_of_ble_eq_true rfl, Nat.le_of_ble_eq_true rfl⟩) (tg_preV hAm hA hw hco (q := vwCl[7]) rfl) rfl rfl hl.1 rfl (lv_room (Nat.le_of_ble_eq_true rfl)) dL_areSamplesRight_92 ⟨Nat.le_of_ble_eq_true rfl, Nat.le_of_ble_eq_true rfl⟩) hA hw (fun H locs hw => ?_)
          refine lv_dup2_11 hx hb dL_areSamplesRight_95 rfl rfl ?_
          refine tg_iald hx hb hAm hw ha2 (vp_in_nI (n := (vR v k).1) (N := 6) (by omega) (by omega)) dL_areSamplesRight_96 ?_
          refine rc_topi (g (vR v k).1) (by rw [nI_clamp (by omega)]) ?_
          refine rc_topi (nI (evN v k (vR v k).1)) (hg _ (by omega)) ?_
          refine lv_iconst (v := 1) hx hb dL_areSamplesRight_97 (by decide) ?_
          refine lv_iadd hx hb dL_areSamplesRight_98 ?_
          refine rc_topi (nI (evN v k (vR v k).1 + 1)) (nI_add (evN v k (vR v k).1) 1) ?_
          refine tg_iast hx hb hAm hw ha2 (vp_in_nI (n := (vR v k).1) (N := 6) (by omega) (by omega)) dL_areSamplesRight_99 (fun G_63 H locs g_64 o_65 hw => ?_)
          rw [nI_clamp (by omega)] at g_64
          have hco := (o_65 _ (by decide)).trans hco
          have ha1 := (o_65 _ (by decide)).trans ha1
          have ha3 := (o_65 _ (by decide)).trans ha3
          have ha2 : G_63 1 = some (qb, .inl (E.2.1 0, 6, .inl (upd g (vR v k).1 (nI (evN v k (vR v k).1 + 1))))) := g_64
          have hI := hI.ge8 (fun t9 h9 => o_65 t9 (by omega))
          have HO := fun (t9 : Nat) (h9 : 8 ≤ t9) => (o_65 t9 (by omega)).trans (HO t9 h9)
          have hg : ∀ c, c < 6 → upd g (vR v k).1 (nI (evN v k (vR v k).1 + 1)) c = nI (evN v (k + 1) c) := up_sum (F := fun c => evN v k c) hg
          refine lv_aload_n hx hb dL_areSamplesRight_100 rfl (lv_at hl 2 rfl) ?_
          refine lv_aload_n hx hb dL_areSamplesRight_101 rfl (lv_at hl 1 rfl) ?_
          refine lv_iload hx hb dL_areSamplesRight_102 (lv_at hl 6 rfl) ?_
          refine lv_iconst (v := 0) hx hb dL_areSamplesRight_104 (by decide) ?_
          refine tg_callRi (va_runV (As := [.int (nI k), .int 0]) (rest := [.ref qa]) (Ts := []) ⟨hx, hb, hml, hown, fun _ h9 => absurd h9 List.not_mem_nil⟩ (pu_ofRun0 l E _ ad v G_63 hI k (by omega)) (rc_cwV hAm qw_757 qw_1 qw_760 qw_758 qw_759 rfl rfl hd_X6_ofRun ⟨Nat.le_of_ble_eq_true rfl, Nat.le_of_ble_eq_true rfl⟩) (tg_preV hAm hA hw hco (q := vwCl[7]) rfl) rfl rfl hl.1 rfl (lv_room (Nat.le_of_ble_eq_true rfl)) dL_areSamplesRight_105 ⟨Nat.le_of_ble_eq_true rfl, Nat.le_of_ble_eq_true rfl⟩) hA hw (fun H locs hw => ?_)
          refine lv_dup2_11 hx hb dL_areSamplesRight_108 rfl rfl ?_
          refine tg_iald hx hb hAm hw ha1 (vp_in_nI (n := (vR v k).1) (N := 6) (by omega) (by omega)) dL_areSamplesRight_109 ?_
          refine rc_topi (f (vR v k).1) (by rw [nI_clamp (by omega)]) ?_
          refine rc_topi (nI (inN v k (vR v k).1)) (hf _ (by omega)) ?_
          refine lv_aload_n hx hb dL_areSamplesRight_110 rfl (lv_at hl 1 rfl) ?_
          refine lv_iload hx hb dL_areSamplesRight_111 (lv_at hl 6 rfl) ?_
          refine lv_iconst (v := 5) hx hb dL_areSamplesRight_113 (by decide) ?_
          refine tg_callRi (va_runV (As := [.int (nI k), .int 5]) (rest := [.int (nI (inN v k (vR v k).1)), .int (nI (vR v k).1), .ref qa]) (Ts := []) ⟨hx, hb, hml, hown, fun _ h9 => absurd h9 List.not_mem_nil⟩ (pu_ofRun5 l E _ ad v G_63 hI k (by omega)) (rc_cwV hAm qw_757 qw_1 qw_760 qw_758 qw_759 rfl rfl hd_X6_ofRun ⟨Nat.le_of_ble_eq_true rfl, Nat.le_of_ble_eq_true rfl⟩) (tg_preV hAm hA hw hco (q := vwCl[7]) rfl) rfl rfl hl.1 rfl (lv_room (Nat.le_of_ble_eq_true rfl)) dL_areSamplesRight_114 ⟨Nat.le_of_ble_eq_true rfl, Nat.le_of_ble_eq_true rfl⟩) hA hw (fun H locs hw => ?_)
          refine lv_iadd hx hb dL_areSamplesRight_117 ?_
          refine rc_topi (nI (inN v k (vR v k).1 + isR v (ixs v (vR v k).1) k (ixs v (vR v k).1).length 0)) (nI_add (inN v k (vR v k).1) (isR v (ixs v (vR v k).1) k (ixs v (vR v k).1).length 0)) ?_
          refine tg_iast hx hb hAm hw ha1 (vp_in_nI (n := (vR v k).1) (N := 6) (by omega) (by omega)) dL_areSamplesRight_118 (fun G_66 H locs g_67 o_68 hw => ?_)
          rw [nI_clamp (by omega)] at g_67
          have hco := (o_68 _ (by decide)).trans hco
          have ha2 := (o_68 _ (by decide)).trans ha2
          have ha3 := (o_68 _ (by decide)).trans ha3
          have ha1 : G_66 0 = some (qa, .inl (E.2.1 0, 6, .inl (upd f (vR v k).1 (nI (inN v k (vR v k).1 + isR v (ixs v (vR v k).1) k (ixs v (vR v k).1).length 0))))) := g_67
          have hI := hI.ge8 (fun t9 h9 => o_68 t9 (by omega))
          have HO := fun (t9 : Nat) (h9 : 8 ≤ t9) => (o_68 t9 (by omega)).trans (HO t9 h9)
          have hf : ∀ c, c < 6 → upd f (vR v k).1 (nI (inN v k (vR v k).1 + isR v (ixs v (vR v k).1) k (ixs v (vR v k).1).length 0)) c = nI (inN v (k + 1) c) := up_sum (F := fun c => inN v k c) hf
          refine lv_iload_n hx hb dL_areSamplesRight_119 rfl (lv_at hl 4 rfl) ?_
          refine lv_iload hx hb dL_areSamplesRight_120 (lv_at hl 0 rfl) ?_
          refine lv_if_eq (tgt := 129) hx hb dL_areSamplesRight_122 (by decide) (fun c9 => absurd c9 (by decide)) (fun _ => ?_)
          refine lv_iconst (v := 1) hx hb dL_areSamplesRight_125 (by decide) ?_
          refine lv_goto (tgt := 130) hx hb dL_areSamplesRight_126 (by decide) ?_
          refine lv_iadd hx hb dL_areSamplesRight_130 ?_
          refine rc_topi (nI (smR (fun k => cK v k) k + 1)) (nI_add (smR (fun k => cK v k) k) 1) ?_
          refine rc_topi (nI (smR (fun k => cK v k) (k + 1))) (congrArg nI (show smR (fun k => cK v k) k + 1 = smR (fun k => cK v k) k + cK v k by omega)) ?_
          refine lv_istore_n (lv' := [(3, .int (nI (smR (fun k => cK v k) (k + 1)))), (6, .int 1), (0, .ref (ad 8)), (1, .ref qa), (2, .ref qb), (4, .ref qc), (5, .int (nI k))]) hx hb dL_areSamplesRight_131 rfl hl (by decide) rfl (fun ls hl => ?_)
          refine lv_aload hx hb dL_areSamplesRight_132 (lv_at hl 5 rfl) ?_
          refine lv_aload_n hx hb dL_areSamplesRight_134 rfl (lv_at hl 2 rfl) ?_
          refine lv_iload hx hb dL_areSamplesRight_135 (lv_at hl 6 rfl) ?_
          refine lv_iconst (v := 1) hx hb dL_areSamplesRight_137 (by decide) ?_
          refine tg_callRi (va_runV (As := [.int (nI k), .int 1]) (rest := [.ref qc]) (Ts := []) ⟨hx, hb, hml, hown, fun _ h9 => absurd h9 List.not_mem_nil⟩ (pu_ofRun1 l E _ ad v G_66 hI k (by omega)) (rc_cwV hAm qw_757 qw_1 qw_760 qw_758 qw_759 rfl rfl hd_X6_ofRun ⟨Nat.le_of_ble_eq_true rfl, Nat.le_of_ble_eq_true rfl⟩) (tg_preV hAm hA hw hco (q := vwCl[7]) rfl) rfl rfl hl.1 rfl (lv_room (Nat.le_of_ble_eq_true rfl)) dL_areSamplesRight_138 ⟨Nat.le_of_ble_eq_true rfl, Nat.le_of_ble_eq_true rfl⟩) hA hw (fun H locs hw => ?_)
          refine lv_dup2_11 hx hb dL_areSamplesRight_141 rfl rfl ?_
          refine tg_iald hx hb hAm hw ha3 (vp_in_nI (n := (vR v k).2.1) (N := 2) (by omega) (by omega)) dL_areSamplesRight_142 ?_
          refine rc_topi (h (vR v k).2.1) (by rw [nI_clamp (by omega)]) ?_
          refine rc_topi (nI (pmN v k (vR v k).2.1)) (hh _ (by omega)) ?_
          refine lv_iconst (v := 1) hx hb dL_areSamplesRight_143 (by decide) ?_
          refine lv_iadd hx hb dL_areSamplesRight_144 ?_
          refine rc_topi (nI (pmN v k (vR v k).2.1 + 1)) (nI_add (pmN v k (vR v k).2.1) 1) ?_
          refine tg_iast hx hb hAm hw ha3 (vp_in_nI (n := (vR v k).2.1) (N := 2) (by omega) (by omega)) dL_areSamplesRight_145 (fun G_69 H locs g_70 o_71 hw => ?_)
          rw [nI_clamp (by omega)] at g_70
          have hco := (o_71 _ (by decide)).trans hco
          have ha1 := (o_71 _ (by decide)).trans ha1
          have ha2 := (o_71 _ (by decide)).trans ha2
          have ha3 : G_69 2 = some (qc, .inl (E.2.1 0, 2, .inl (upd h (vR v k).2.1 (nI (pmN v k (vR v k).2.1 + 1))))) := g_70
          have hI := hI.ge8 (fun t9 h9 => o_71 t9 (by omega))
          have HO := fun (t9 : Nat) (h9 : 8 ≤ t9) => (o_71 t9 (by omega)).trans (HO t9 h9)
          have hh : ∀ c, c < 2 → upd h (vR v k).2.1 (nI (pmN v k (vR v k).2.1 + 1)) c = nI (pmN v (k + 1) c) := up_sum (F := fun c => pmN v k c) hh
          refine lv_iinc (v := nI (k + 1)) (lv' := [(5, .int (nI (k + 1))), (3, .int (nI (smR (fun k => cK v k) (k + 1)))), (6, .int 1), (0, .ref (ad 8)), (1, .ref qa), (2, .ref qb), (4, .ref qc)]) hx hb dL_areSamplesRight_146 hl (k := 6) rfl (nI_1 _) (by decide) rfl (fun ls hl => ?_)
          refine lv_goto (tgt := 20) hx hb dL_areSamplesRight_149 (by decide) ?_
          exact ih (k + 1) qa qb qc _ _ _ ls _ _ _ (by omega) hf hg hh ha1 ha2 ha3 HO hw (lv_sub hl [3, 4, 5, 1, 6, 0] rfl)
  have hco := hI.2.1
  refine lv_bipush (v := 6) hx hb dL_areSamplesRight_0 (by decide) ?_
  refine tg_inew 0 hx hb hAm hA hw qw_96 6 (by decide) (by decide) (Nat.le_of_ble_eq_true rfl) (Nat.le_of_ble_eq_true rfl) (Nat.le_of_ble_eq_true rfl) dL_areSamplesRight_2 (fun q_72 G_73 H g_74 o_75 hw => ?_)
  have hco := (o_75 _ (by decide)).trans hco
  have kq_72 : G_73 0 = some (q_72, .inl (E.2.1 0, 6, .inl (fun _ => 0))) := g_74
  refine lv_astore_n (lv' := [(1, .ref q_72), (0, .ref (ad 8))]) hx hb dL_areSamplesRight_4 rfl hl (by decide) rfl (fun ls hl => ?_)
  refine lv_bipush (v := 6) hx hb dL_areSamplesRight_5 (by decide) ?_
  refine tg_inew 1 hx hb hAm hA hw qw_96 6 (by decide) (by decide) (Nat.le_of_ble_eq_true rfl) (Nat.le_of_ble_eq_true rfl) (Nat.le_of_ble_eq_true rfl) dL_areSamplesRight_7 (fun q_76 G_77 H g_78 o_79 hw => ?_)
  have hco := (o_79 _ (by decide)).trans hco
  have kq_72 := (o_79 _ (by decide)).trans kq_72
  have kq_76 : G_77 1 = some (q_76, .inl (E.2.1 0, 6, .inl (fun _ => 0))) := g_78
  refine lv_astore_n (lv' := [(2, .ref q_76), (1, .ref q_72), (0, .ref (ad 8))]) hx hb dL_areSamplesRight_9 rfl hl (by decide) rfl (fun ls hl => ?_)
  refine lv_iconst (v := 0) hx hb dL_areSamplesRight_10 (by decide) ?_
  refine lv_istore_n (lv' := [(3, .int 0), (2, .ref q_76), (1, .ref q_72), (0, .ref (ad 8))]) hx hb dL_areSamplesRight_11 rfl hl (by decide) rfl (fun ls hl => ?_)
  refine lv_iconst (v := 2) hx hb dL_areSamplesRight_12 (by decide) ?_
  refine tg_inew 2 hx hb hAm hA hw qw_96 2 (by decide) (by decide) (Nat.le_of_ble_eq_true rfl) (Nat.le_of_ble_eq_true rfl) (Nat.le_of_ble_eq_true rfl) dL_areSamplesRight_13 (fun q_80 G_81 H g_82 o_83 hw => ?_)
  have hco := (o_83 _ (by decide)).trans hco
  have kq_72 := (o_83 _ (by decide)).trans kq_72
  have kq_76 := (o_83 _ (by decide)).trans kq_76
  have kq_80 : G_81 2 = some (q_80, .inl (E.2.1 0, 2, .inl (fun _ => 0))) := g_82
  refine lv_astore (lv' := [(4, .ref q_80), (3, .int 0), (2, .ref q_76), (1, .ref q_72), (0, .ref (ad 8))]) hx hb dL_areSamplesRight_15 hl (by decide) rfl (fun ls hl => ?_)
  refine lv_iconst (v := 0) hx hb dL_areSamplesRight_17 (by decide) ?_
  refine lv_istore (lv' := [(5, .int 0), (4, .ref q_80), (3, .int 0), (2, .ref q_76), (1, .ref q_72), (0, .ref (ad 8))]) hx hb dL_areSamplesRight_18 hl (by decide) rfl (fun ls hl => ?_)
  exact loop1 (vn v) 0 q_72 q_76 q_80 _ _ _ ls _ _ _ (Nat.zero_add _) (fun _ _ => rfl) (fun _ _ => rfl) (fun _ _ => rfl) kq_72 kq_76 kq_80 (fun t9 h9 => (o_83 t9 (by omega)).trans ((o_79 t9 (by omega)).trans ((o_75 t9 (by omega))))) hw (lv_sub hl [5, 4, 3, 2, 1, 0] rfl)
