/-! the digest, as one function of the state -/
def dgS (d : Int64) (x : Int32) : Int64 := d * 31 + x.toInt64
def dgM (v : av_V) (d : Int64) (k : Nat) : Int64 := dgS (dgS (dgS (dgS (dgS (dgS d (nI (vMN v k 1))) (nI (vMN v k 2))) (vMI v k 7)) (nI (vMN v k 6))) (vMI v k 5)) (nI (smR (fun c => hW v k c) 6))
def dgMR (v : av_V) (d : Int64) : Nat → Int64
  | 0 => d
  | k + 1 => dgM v (dgMR v d k) k
def dgC (v : av_V) (d : Int64) (k : Nat) : Int64 := dgS (dgS (dgS (dgS (dgS (dgS (dgS d (nI ((ixs v k).length))) (nI ((samp v k).length))) (wAt (samp v k) (((samp v k).length - 1) / 2))) (wAt (samp v k) 0)) (wAt (samp v k) ((samp v k).length - 1))) (chE v k)) (mtF v k)
def dgCR (v : av_V) (d : Int64) : Nat → Int64
  | 0 => d
  | k + 1 => dgC v (dgCR v d k) k
def dgR (v : av_V) (d : Int64) (k : Nat) : Int64 := dgS (dgS (dgS (dgS (dgS (dgS d (nI (vR v k).1)) (nI (vR v k).2.1)) (vT v k).1) (nI (vR v k).2.2)) (nI (cK v k))) (nI (isR v (ixs v (vR v k).1) k (ixs v (vR v k).1).length 0))
def dgRR (v : av_V) (d : Int64) : Nat → Int64
  | 0 => d
  | k + 1 => dgR v (dgRR v d k) k
def dgV (v : av_V) (d : Int64) (k : Nat) : Int64 := dgS (dgS (dgS (dgS (dgS d (nI (outD v (samp v k) (samp v (k + 1))))) (scI (samp v k) (samp v (k + 1)))) (nI (hiN (samp v k) (samp v (k + 1))))) (nI (loN (samp v k) (samp v (k + 1))))) (nI (alN (samp v k) (samp v (k + 1))))
def dgVR (v : av_V) (d : Int64) : Nat → Int64
  | 0 => d
  | k + 1 => dgV v (dgVR v d k) k
theorem hd_X6_changesHurtWithout : yX6_changesHurtWithout.cls ≠ "java/lang/invoke/MethodHandle" ∧ yX6_changesHurtWithout.cls ≠ "java/lang/invoke/VarHandle" ∧ (parseMethodDescriptor yX6_changesHurtWithout.desc).map (fun d => d.parameters.length) = some 1 := by decide +kernel
set_option maxHeartbeats 4000000 in
set_option maxRecDepth 100000 in
theorem dg_machines (l : Launch) (E : rc_E) (sz : Nat) (ad : Nat → Nat) (v : av_V) (G : tg_G) (hI : ssH E ad v G) (d0 : Int64) : tg_M l yX6_digestOfMachines [Cond.code yX6_digestOfMachines cX6_digestOfMachines 6 (some FieldType.long)] { frames := 5, cells := 0, slots := 0, locals := 112 } E [.ref (ad 8), .long d0] G sz (tg_Ql E (fun r u => r = dgMR v d0 2 ∧ u = G)) 0 0 := by
  refine tg_in (cc := cX6_digestOfMachines) (maxL := 6) (ret := (some FieldType.long)) (tg_Ql E (fun r u => r = dgMR v d0 2 ∧ u = G)) (by decide) rfl (Nat.le_of_ble_eq_true rfl) ?_
  intro p e s m args below meth cd ls A hx hb hr hml hown hlocks hin hA hAm hw hl
  have hown : s.vm.findClass RX6 = some m.cls := hown
  have hl : lv_has ls 6 [(0, .ref (ad 8)), (1, .long d0)] := hl
  obtain ⟨h0, hco, ⟨hLm, hLc, hLr⟩, hbi, hma, hch, hru⟩ := id hI
  have hn60 := h0.1
  have loop : ∀ (r k : Nat) (d : Int64) (ls : Array Slot) (H : Heap) (locs : List Loc), k + r = 2 → d = dgMR v d0 k → tg_W E A s G H locs → lv_has ls 6 [(3, .int (nI k)), (1, .long d), (0, .ref (ad 8))] → W p l e { frames := 5, cells := 0, slots := 0, locals := 112 } s m args below meth cd H locs 0 0 (MQ below ((tg_Ql E (fun r u => r = dgMR v d0 2 ∧ u = G)) A) args s 0 0 A) (F0 m 2 ls []) := by
    intro r
    induction r with
    | zero =>
      intro k d ls H locs hk hd hw hl
      obtain ⟨mc9, la9, hl9, -⟩ := id hLm
      refine lv_iload_n hx hb dX6_digestOfMachines_2 rfl (lv_at hl 0 rfl) ?_
      refine lv_aload_n hx hb dX6_digestOfMachines_3 rfl (lv_at hl 2 rfl) ?_
      refine tg_get (v := .ref (ad 9)) hx hb hown hAm hw lyX6 hco rfl 0 (by decide) qw_225 (fun _ h9 => h9) rfl dX6_digestOfMachines_4 ?_
      refine tg_callRi (va_runV (As := []) (rest := [.int (nI k)]) (Ts := []) ⟨hx, hb, hml, hown, fun _ h9 => absurd h9 List.not_mem_nil⟩ (lf_size l E _ G (n := 2) hl9) (rc_cwV hAm qw_343 qw_4 qw_346 qw_344 qw_345 rfl rfl hd_Jx4a65c_size_8abf5 ⟨Nat.le_of_ble_eq_true rfl, Nat.le_of_ble_eq_true rfl⟩) (tg_preV hAm hA hw hl9 (q := vwCl[0]) rfl) rfl rfl hl.1 rfl (lv_room (Nat.le_of_ble_eq_true rfl)) dX6_digestOfMachines_7 ⟨Nat.le_of_ble_eq_true rfl, Nat.le_of_ble_eq_true rfl⟩) hA hw (fun H locs hw => ?_)
      refine lv_icmp_ge (tgt := 77) hx hb dX6_digestOfMachines_10 (by decide) (fun _ => ?_) (fun c9 => absurd ((nI_leI (a := 2) (b := k) (by omega) (by omega)).mpr (by omega)) c9)
      refine lv_lload_n hx hb dX6_digestOfMachines_77 rfl (lv_at hl 1 rfl) ?_
      exact tg_lret hx hb hr hlocks hw (⟨by rw [hd, show 2 = k by omega], rfl⟩) (Nat.le_of_ble_eq_true rfl) (Nat.le_of_ble_eq_true rfl) dX6_digestOfMachines_78
    | succ r ih =>
      intro k d ls H locs hk hd hw hl
      obtain ⟨mcm, lam, capm, fm, hlm, hrm, hpm, hqm, hfm⟩ := ltH.pos hLm (by omega)
      have hm_k : G (32 + k) = some (ad (32 + k), .inr (4, [.int (nI k), .int (nI (vMN v k 1)), .int (nI (vMN v k 2)), .int (vMI v k 3), .int (vMI v k 4), .int (vMI v k 5), .int (nI (vMN v k 6)), .int (vMI v k 7)])) := hma k (by omega)
      refine lv_iload_n hx hb dX6_digestOfMachines_2 rfl (lv_at hl 0 rfl) ?_
      refine lv_aload_n hx hb dX6_digestOfMachines_3 rfl (lv_at hl 2 rfl) ?_
      refine tg_get (v := .ref (ad 9)) hx hb hown hAm hw lyX6 hco rfl 0 (by decide) qw_225 (fun _ h9 => h9) rfl dX6_digestOfMachines_4 ?_
      refine tg_callRi (va_runV (As := []) (rest := [.int (nI k)]) (Ts := []) ⟨hx, hb, hml, hown, fun _ h9 => absurd h9 List.not_mem_nil⟩ (lf_size l E _ G (n := 2) hlm) (rc_cwV hAm qw_343 qw_4 qw_346 qw_344 qw_345 rfl rfl hd_Jx4a65c_size_8abf5 ⟨Nat.le_of_ble_eq_true rfl, Nat.le_of_ble_eq_true rfl⟩) (tg_preV hAm hA hw hlm (q := vwCl[0]) rfl) rfl rfl hl.1 rfl (lv_room (Nat.le_of_ble_eq_true rfl)) dX6_digestOfMachines_7 ⟨Nat.le_of_ble_eq_true rfl, Nat.le_of_ble_eq_true rfl⟩) hA hw (fun H locs hw => ?_)
      refine lv_icmp_ge (tgt := 77) hx hb dX6_digestOfMachines_10 (by decide) (fun c9 => absurd c9 (fun z9 => absurd ((nI_leI (a := 2) (b := k) (by omega) (by omega)).mp z9) (by omega))) (fun _ => ?_)
      refine lv_aload_n hx hb dX6_digestOfMachines_13 rfl (lv_at hl 2 rfl) ?_
      refine tg_get (v := .ref (ad 9)) hx hb hown hAm hw lyX6 hco rfl 0 (by decide) qw_225 (fun _ h9 => h9) rfl dX6_digestOfMachines_14 ?_
      refine lv_iload_n hx hb dX6_digestOfMachines_17 rfl (lv_at hl 0 rfl) ?_
      refine tg_callRr (va_runV (As := [.int (nI k)]) (rest := []) (Ts := []) ⟨hx, hb, hml, hown, fun _ h9 => absurd h9 List.not_mem_nil⟩ (lf_get l E _ G (k := k) (n := 2) (y := ad (32 + k)) (by omega) (by omega) (by omega) (hfm k (by omega)) hlm hrm) (rc_cwV hAm qw_436 qw_4 qw_439 qw_437 qw_438 rfl rfl hd_Jx4a65c_get_915e3 ⟨Nat.le_of_ble_eq_true rfl, Nat.le_of_ble_eq_true rfl⟩) (tg_preV hAm hA hw hlm (q := vwCl[0]) rfl) rfl rfl hl.1 rfl (lv_room (Nat.le_of_ble_eq_true rfl)) dX6_digestOfMachines_18 ⟨Nat.le_of_ble_eq_true rfl, Nat.le_of_ble_eq_true rfl⟩) hA hw (fun H locs hw => ?_)
      refine tg_castS (C := RX3) hx hb hown hAm hw qw_363 hm_k rfl dX6_digestOfMachines_21 ?_
      refine lv_astore (lv' := [(4, .ref (ad (32 + k))), (3, .int (nI k)), (1, .long d), (0, .ref (ad 8))]) hx hb dX6_digestOfMachines_24 hl (by decide) rfl (fun ls hl => ?_)
      refine lv_iconst (v := 0) hx hb dX6_digestOfMachines_26 (by decide) ?_
      refine lv_istore (lv' := [(5, .int 0), (4, .ref (ad (32 + k))), (3, .int (nI k)), (1, .long d), (0, .ref (ad 8))]) hx hb dX6_digestOfMachines_27 hl (by decide) rfl (fun ls hl => ?_)
      refine lv_iload hx hb dX6_digestOfMachines_29 (lv_at hl 0 rfl) ?_
      refine lv_iconst (v := 4) hx hb dX6_digestOfMachines_31 (by decide) ?_
      refine lv_icmp_gt (tgt := 57) hx hb dX6_digestOfMachines_32 (by decide) (fun c9 => absurd c9 (by decide)) (fun _ => ?_)
      refine lv_lload_n hx hb dX6_digestOfMachines_35 rfl (lv_at hl 3 rfl) ?_
      refine lv_ldc2 (v := 31) hx hb hown (hAm.wd qw_542 rfl rfl) dX6_digestOfMachines_36 ?_
      refine lv_lmul hx hb dX6_digestOfMachines_39 ?_
      refine lv_aload_n hx hb dX6_digestOfMachines_40 rfl (lv_at hl 4 rfl) ?_
      refine lv_aload hx hb dX6_digestOfMachines_41 (lv_at hl 1 rfl) ?_
      refine lv_iload hx hb dX6_digestOfMachines_43 (lv_at hl 0 rfl) ?_
      refine tg_callRi (va_runV (As := [.ref (ad (32 + k)), .int 0]) (rest := [.long (d * 31)]) (Ts := []) ⟨hx, hb, hml, hown, fun _ h9 => absurd h9 List.not_mem_nil⟩ (co_machineFact0 l E _ ad v G hI k (by omega)) (rc_cwV hAm qw_547 qw_1 qw_550 qw_549 qs_29 rfl rfl hd_X6_machineFact ⟨Nat.le_of_ble_eq_true rfl, Nat.le_of_ble_eq_true rfl⟩) (tg_preV hAm hA hw hco (q := vwCl[7]) rfl) rfl rfl hl.1 rfl (lv_room (Nat.le_of_ble_eq_true rfl)) dX6_digestOfMachines_45 ⟨Nat.le_of_ble_eq_true rfl, Nat.le_of_ble_eq_true rfl⟩) hA hw (fun H locs hw => ?_)
      refine lv_i2l (v := ((nI (vMN v k 1))).toInt64) hx hb dX6_digestOfMachines_48 rfl ?_
      refine lv_ladd hx hb dX6_digestOfMachines_49 ?_
      refine rc_topl (dgS d (nI (vMN v k 1))) rfl ?_
      refine lv_lstore_n (lv' := [(1, .long (dgS d (nI (vMN v k 1)))), (5, .int 0), (4, .ref (ad (32 + k))), (3, .int (nI k)), (0, .ref (ad 8))]) hx hb dX6_digestOfMachines_50 rfl hl (by decide) rfl (fun ls hl => ?_)
      refine lv_iinc (v := 1) (lv' := [(5, .int 1), (1, .long (dgS d (nI (vMN v k 1)))), (4, .ref (ad (32 + k))), (3, .int (nI k)), (0, .ref (ad 8))]) hx hb dX6_digestOfMachines_51 hl (k := 1) rfl (by decide) (by decide) rfl (fun ls hl => ?_)
      refine lv_goto (tgt := 29) hx hb dX6_digestOfMachines_54 (by decide) ?_
      refine lv_iload hx hb dX6_digestOfMachines_29 (lv_at hl 0 rfl) ?_
      refine lv_iconst (v := 4) hx hb dX6_digestOfMachines_31 (by decide) ?_
      refine lv_icmp_gt (tgt := 57) hx hb dX6_digestOfMachines_32 (by decide) (fun c9 => absurd c9 (by decide)) (fun _ => ?_)
      refine lv_lload_n hx hb dX6_digestOfMachines_35 rfl (lv_at hl 1 rfl) ?_
      refine lv_ldc2 (v := 31) hx hb hown (hAm.wd qw_542 rfl rfl) dX6_digestOfMachines_36 ?_
      refine lv_lmul hx hb dX6_digestOfMachines_39 ?_
      refine lv_aload_n hx hb dX6_digestOfMachines_40 rfl (lv_at hl 4 rfl) ?_
      refine lv_aload hx hb dX6_digestOfMachines_41 (lv_at hl 2 rfl) ?_
      refine lv_iload hx hb dX6_digestOfMachines_43 (lv_at hl 0 rfl) ?_
      refine tg_callRi (va_runV (As := [.ref (ad (32 + k)), .int 1]) (rest := [.long ((dgS d (nI (vMN v k 1))) * 31)]) (Ts := []) ⟨hx, hb, hml, hown, fun _ h9 => absurd h9 List.not_mem_nil⟩ (co_machineFact1 l E _ ad v G hI k (by omega)) (rc_cwV hAm qw_547 qw_1 qw_550 qw_549 qs_29 rfl rfl hd_X6_machineFact ⟨Nat.le_of_ble_eq_true rfl, Nat.le_of_ble_eq_true rfl⟩) (tg_preV hAm hA hw hco (q := vwCl[7]) rfl) rfl rfl hl.1 rfl (lv_room (Nat.le_of_ble_eq_true rfl)) dX6_digestOfMachines_45 ⟨Nat.le_of_ble_eq_true rfl, Nat.le_of_ble_eq_true rfl⟩) hA hw (fun H locs hw => ?_)
      refine lv_i2l (v := ((nI (vMN v k 2))).toInt64) hx hb dX6_digestOfMachines_48 rfl ?_
      refine lv_ladd hx hb dX6_digestOfMachines_49 ?_
      refine rc_topl (dgS (dgS d (nI (vMN v k 1))) (nI (vMN v k 2))) rfl ?_
      refine lv_lstore_n (lv' := [(1, .long (dgS (dgS d (nI (vMN v k 1))) (nI (vMN v k 2)))), (5, .int 1), (4, .ref (ad (32 + k))), (3, .int (nI k)), (0, .ref (ad 8))]) hx hb dX6_digestOfMachines_50 rfl hl (by decide) rfl (fun ls hl => ?_)
      refine lv_iinc (v := 2) (lv' := [(5, .int 2), (1, .long (dgS (dgS d (nI (vMN v k 1))) (nI (vMN v k 2)))), (4, .ref (ad (32 + k))), (3, .int (nI k)), (0, .ref (ad 8))]) hx hb dX6_digestOfMachines_51 hl (k := 1) rfl (by decide) (by decide) rfl (fun ls hl => ?_)
      refine lv_goto (tgt := 29) hx hb dX6_digestOfMachines_54 (by decide) ?_
      refine lv_iload hx hb dX6_digestOfMachines_29 (lv_at hl 0 rfl) ?_
      refine lv_iconst (v := 4) hx hb dX6_digestOfMachines_31 (by decide) ?_
      refine lv_icmp_gt (tgt := 57) hx hb dX6_digestOfMachines_32 (by decide) (fun c9 => absurd c9 (by decide)) (fun _ => ?_)
      refine lv_lload_n hx hb dX6_digestOfMachines_35 rfl (lv_at hl 1 rfl) ?_
      refine lv_ldc2 (v := 31) hx hb hown (hAm.wd qw_542 rfl rfl) dX6_digestOfMachines_36 ?_
      refine lv_lmul hx hb dX6_digestOfMachines_39 ?_
      refine lv_aload_n hx hb dX6_digestOfMachines_40 rfl (lv_at hl 4 rfl) ?_
      refine lv_aload hx hb dX6_digestOfMachines_41 (lv_at hl 2 rfl) ?_
      refine lv_iload hx hb dX6_digestOfMachines_43 (lv_at hl 0 rfl) ?_
      refine tg_callRi (va_runV (As := [.ref (ad (32 + k)), .int 2]) (rest := [.long ((dgS (dgS d (nI (vMN v k 1))) (nI (vMN v k 2))) * 31)]) (Ts := []) ⟨hx, hb, hml, hown, fun _ h9 => absurd h9 List.not_mem_nil⟩ (co_machineFact2 l E _ ad v G hI k (by omega)) (rc_cwV hAm qw_547 qw_1 qw_550 qw_549 qs_29 rfl rfl hd_X6_machineFact ⟨Nat.le_of_ble_eq_true rfl, Nat.le_of_ble_eq_true rfl⟩) (tg_preV hAm hA hw hco (q := vwCl[7]) rfl) rfl rfl hl.1 rfl (lv_room (Nat.le_of_ble_eq_true rfl)) dX6_digestOfMachines_45 ⟨Nat.le_of_ble_eq_true rfl, Nat.le_of_ble_eq_true rfl⟩) hA hw (fun H locs hw => ?_)
      refine lv_i2l (v := ((vMI v k 7)).toInt64) hx hb dX6_digestOfMachines_48 rfl ?_
      refine lv_ladd hx hb dX6_digestOfMachines_49 ?_
      refine rc_topl (dgS (dgS (dgS d (nI (vMN v k 1))) (nI (vMN v k 2))) (vMI v k 7)) rfl ?_
      refine lv_lstore_n (lv' := [(1, .long (dgS (dgS (dgS d (nI (vMN v k 1))) (nI (vMN v k 2))) (vMI v k 7))), (5, .int 2), (4, .ref (ad (32 + k))), (3, .int (nI k)), (0, .ref (ad 8))]) hx hb dX6_digestOfMachines_50 rfl hl (by decide) rfl (fun ls hl => ?_)
      refine lv_iinc (v := 3) (lv' := [(5, .int 3), (1, .long (dgS (dgS (dgS d (nI (vMN v k 1))) (nI (vMN v k 2))) (vMI v k 7))), (4, .ref (ad (32 + k))), (3, .int (nI k)), (0, .ref (ad 8))]) hx hb dX6_digestOfMachines_51 hl (k := 1) rfl (by decide) (by decide) rfl (fun ls hl => ?_)
      refine lv_goto (tgt := 29) hx hb dX6_digestOfMachines_54 (by decide) ?_
      refine lv_iload hx hb dX6_digestOfMachines_29 (lv_at hl 0 rfl) ?_
      refine lv_iconst (v := 4) hx hb dX6_digestOfMachines_31 (by decide) ?_
      refine lv_icmp_gt (tgt := 57) hx hb dX6_digestOfMachines_32 (by decide) (fun c9 => absurd c9 (by decide)) (fun _ => ?_)
      refine lv_lload_n hx hb dX6_digestOfMachines_35 rfl (lv_at hl 1 rfl) ?_
      refine lv_ldc2 (v := 31) hx hb hown (hAm.wd qw_542 rfl rfl) dX6_digestOfMachines_36 ?_
      refine lv_lmul hx hb dX6_digestOfMachines_39 ?_
      refine lv_aload_n hx hb dX6_digestOfMachines_40 rfl (lv_at hl 4 rfl) ?_
      refine lv_aload hx hb dX6_digestOfMachines_41 (lv_at hl 2 rfl) ?_
      refine lv_iload hx hb dX6_digestOfMachines_43 (lv_at hl 0 rfl) ?_
      refine tg_callRi (va_runV (As := [.ref (ad (32 + k)), .int 3]) (rest := [.long ((dgS (dgS (dgS d (nI (vMN v k 1))) (nI (vMN v k 2))) (vMI v k 7)) * 31)]) (Ts := []) ⟨hx, hb, hml, hown, fun _ h9 => absurd h9 List.not_mem_nil⟩ (co_machineFact3 l E _ ad v G hI k (by omega)) (rc_cwV hAm qw_547 qw_1 qw_550 qw_549 qs_29 rfl rfl hd_X6_machineFact ⟨Nat.le_of_ble_eq_true rfl, Nat.le_of_ble_eq_true rfl⟩) (tg_preV hAm hA hw hco (q := vwCl[7]) rfl) rfl rfl hl.1 rfl (lv_room (Nat.le_of_ble_eq_true rfl)) dX6_digestOfMachines_45 ⟨Nat.le_of_ble_eq_true rfl, Nat.le_of_ble_eq_true rfl⟩) hA hw (fun H locs hw => ?_)
      refine lv_i2l (v := ((nI (vMN v k 6))).toInt64) hx hb dX6_digestOfMachines_48 rfl ?_
      refine lv_ladd hx hb dX6_digestOfMachines_49 ?_
      refine rc_topl (dgS (dgS (dgS (dgS d (nI (vMN v k 1))) (nI (vMN v k 2))) (vMI v k 7)) (nI (vMN v k 6))) rfl ?_
      refine lv_lstore_n (lv' := [(1, .long (dgS (dgS (dgS (dgS d (nI (vMN v k 1))) (nI (vMN v k 2))) (vMI v k 7)) (nI (vMN v k 6)))), (5, .int 3), (4, .ref (ad (32 + k))), (3, .int (nI k)), (0, .ref (ad 8))]) hx hb dX6_digestOfMachines_50 rfl hl (by decide) rfl (fun ls hl => ?_)
      refine lv_iinc (v := 4) (lv' := [(5, .int 4), (1, .long (dgS (dgS (dgS (dgS d (nI (vMN v k 1))) (nI (vMN v k 2))) (vMI v k 7)) (nI (vMN v k 6)))), (4, .ref (ad (32 + k))), (3, .int (nI k)), (0, .ref (ad 8))]) hx hb dX6_digestOfMachines_51 hl (k := 1) rfl (by decide) (by decide) rfl (fun ls hl => ?_)
      refine lv_goto (tgt := 29) hx hb dX6_digestOfMachines_54 (by decide) ?_
      refine lv_iload hx hb dX6_digestOfMachines_29 (lv_at hl 0 rfl) ?_
      refine lv_iconst (v := 4) hx hb dX6_digestOfMachines_31 (by decide) ?_
      refine lv_icmp_gt (tgt := 57) hx hb dX6_digestOfMachines_32 (by decide) (fun c9 => absurd c9 (by decide)) (fun _ => ?_)
      refine lv_lload_n hx hb dX6_digestOfMachines_35 rfl (lv_at hl 1 rfl) ?_
      refine lv_ldc2 (v := 31) hx hb hown (hAm.wd qw_542 rfl rfl) dX6_digestOfMachines_36 ?_
      refine lv_lmul hx hb dX6_digestOfMachines_39 ?_
      refine lv_aload_n hx hb dX6_digestOfMachines_40 rfl (lv_at hl 4 rfl) ?_
      refine lv_aload hx hb dX6_digestOfMachines_41 (lv_at hl 2 rfl) ?_
      refine lv_iload hx hb dX6_digestOfMachines_43 (lv_at hl 0 rfl) ?_
      refine tg_callRi (va_runV (As := [.ref (ad (32 + k)), .int 4]) (rest := [.long ((dgS (dgS (dgS (dgS d (nI (vMN v k 1))) (nI (vMN v k 2))) (vMI v k 7)) (nI (vMN v k 6))) * 31)]) (Ts := []) ⟨hx, hb, hml, hown, fun _ h9 => absurd h9 List.not_mem_nil⟩ (co_machineFact4 l E _ ad v G hI k (by omega)) (rc_cwV hAm qw_547 qw_1 qw_550 qw_549 qs_29 rfl rfl hd_X6_machineFact ⟨Nat.le_of_ble_eq_true rfl, Nat.le_of_ble_eq_true rfl⟩) (tg_preV hAm hA hw hco (q := vwCl[7]) rfl) rfl rfl hl.1 rfl (lv_room (Nat.le_of_ble_eq_true rfl)) dX6_digestOfMachines_45 ⟨Nat.le_of_ble_eq_true rfl, Nat.le_of_ble_eq_true rfl⟩) hA hw (fun H locs hw => ?_)
      refine lv_i2l (v := ((vMI v k 5)).toInt64) hx hb dX6_digestOfMachines_48 rfl ?_
      refine lv_ladd hx hb dX6_digestOfMachines_49 ?_
      refine rc_topl (dgS (dgS (dgS (dgS (dgS d (nI (vMN v k 1))) (nI (vMN v k 2))) (vMI v k 7)) (nI (vMN v k 6))) (vMI v k 5)) rfl ?_
      refine lv_lstore_n (lv' := [(1, .long (dgS (dgS (dgS (dgS (dgS d (nI (vMN v k 1))) (nI (vMN v k 2))) (vMI v k 7)) (nI (vMN v k 6))) (vMI v k 5))), (5, .int 4), (4, .ref (ad (32 + k))), (3, .int (nI k)), (0, .ref (ad 8))]) hx hb dX6_digestOfMachines_50 rfl hl (by decide) rfl (fun ls hl => ?_)
      refine lv_iinc (v := 5) (lv' := [(5, .int 5), (1, .long (dgS (dgS (dgS (dgS (dgS d (nI (vMN v k 1))) (nI (vMN v k 2))) (vMI v k 7)) (nI (vMN v k 6))) (vMI v k 5))), (4, .ref (ad (32 + k))), (3, .int (nI k)), (0, .ref (ad 8))]) hx hb dX6_digestOfMachines_51 hl (k := 1) rfl (by decide) (by decide) rfl (fun ls hl => ?_)
      refine lv_goto (tgt := 29) hx hb dX6_digestOfMachines_54 (by decide) ?_
      refine lv_iload hx hb dX6_digestOfMachines_29 (lv_at hl 0 rfl) ?_
      refine lv_iconst (v := 4) hx hb dX6_digestOfMachines_31 (by decide) ?_
      refine lv_icmp_gt (tgt := 57) hx hb dX6_digestOfMachines_32 (by decide) (fun _ => ?_) (fun c9 => absurd (by decide) c9)
      refine lv_lload_n hx hb dX6_digestOfMachines_57 rfl (lv_at hl 1 rfl) ?_
      refine lv_ldc2 (v := 31) hx hb hown (hAm.wd qw_542 rfl rfl) dX6_digestOfMachines_58 ?_
      refine lv_lmul hx hb dX6_digestOfMachines_61 ?_
      refine lv_aload_n hx hb dX6_digestOfMachines_62 rfl (lv_at hl 4 rfl) ?_
      refine lv_aload hx hb dX6_digestOfMachines_63 (lv_at hl 2 rfl) ?_
      refine tg_callRi (va_runV (As := [.ref (ad (32 + k))]) (rest := [.long ((dgS (dgS (dgS (dgS (dgS d (nI (vMN v k 1))) (nI (vMN v k 2))) (vMI v k 7)) (nI (vMN v k 6))) (vMI v k 5)) * 31)]) (Ts := []) ⟨hx, hb, hml, hown, fun _ h9 => absurd h9 List.not_mem_nil⟩ (co_hurt l E _ ad v G hI k (by omega)) (rc_cwV hAm qw_551 qw_1 qw_554 qw_553 qs_30 rfl rfl hd_X6_changesHurtWithout ⟨Nat.le_of_ble_eq_true rfl, Nat.le_of_ble_eq_true rfl⟩) (tg_preV hAm hA hw hco (q := vwCl[7]) rfl) rfl rfl hl.1 rfl (lv_room (Nat.le_of_ble_eq_true rfl)) dX6_digestOfMachines_65 ⟨Nat.le_of_ble_eq_true rfl, Nat.le_of_ble_eq_true rfl⟩) hA hw (fun H locs hw => ?_)
      refine lv_i2l (v := ((nI (smR (fun c => hW v k c) 6))).toInt64) hx hb dX6_digestOfMachines_68 rfl ?_
      refine lv_ladd hx hb dX6_digestOfMachines_69 ?_
      refine rc_topl (dgS (dgS (dgS (dgS (dgS (dgS d (nI (vMN v k 1))) (nI (vMN v k 2))) (vMI v k 7)) (nI (vMN v k 6))) (vMI v k 5)) (nI (smR (fun c => hW v k c) 6))) rfl ?_
      refine lv_lstore_n (lv' := [(1, .long (dgS (dgS (dgS (dgS (dgS (dgS d (nI (vMN v k 1))) (nI (vMN v k 2))) (vMI v k 7)) (nI (vMN v k 6))) (vMI v k 5)) (nI (smR (fun c => hW v k c) 6)))), (5, .int 5), (4, .ref (ad (32 + k))), (3, .int (nI k)), (0, .ref (ad 8))]) hx hb dX6_digestOfMachines_70 rfl hl (by decide) rfl (fun ls hl => ?_)
      refine lv_iinc (v := nI (k + 1)) (lv' := [(3, .int (nI (k + 1))), (1, .long (dgS (dgS (dgS (dgS (dgS (dgS d (nI (vMN v k 1))) (nI (vMN v k 2))) (vMI v k 7)) (nI (vMN v k 6))) (vMI v k 5)) (nI (smR (fun c => hW v k c) 6)))), (5, .int 5), (4, .ref (ad (32 + k))), (0, .ref (ad 8))]) hx hb dX6_digestOfMachines_71 hl (k := 3) rfl (nI_1 _) (by decide) rfl (fun ls hl => ?_)
      refine lv_goto (tgt := 2) hx hb dX6_digestOfMachines_74 (by decide) ?_
      exact ih (k + 1) _ ls _ _ (by omega) (by subst hd; rfl) hw (lv_sub hl [0, 1, 4] rfl)
  refine lv_iconst (v := 0) hx hb dX6_digestOfMachines_0 (by decide) ?_
  refine lv_istore_n (lv' := [(3, .int 0), (0, .ref (ad 8)), (1, .long d0)]) hx hb dX6_digestOfMachines_1 rfl hl (by decide) rfl (fun ls hl => ?_)
  exact loop (2) 0 d0 ls _ _ (by omega) rfl hw (lv_sub hl [0, 2, 1] rfl)
set_option maxHeartbeats 4000000 in
set_option maxRecDepth 100000 in
theorem dg_runs (l : Launch) (E : rc_E) (sz : Nat) (ad : Nat → Nat) (v : av_V) (G : tg_G) (hI : ssH E ad v G) (d0 : Int64) : tg_M l yX6_digestOfRuns [Cond.code yX6_digestOfRuns cX6_digestOfRuns 6 (some FieldType.long)] { frames := 5, cells := 0, slots := 0, locals := 110 } E [.ref (ad 8), .long d0] G sz (tg_Ql E (fun r u => r = dgRR v d0 (vn v) ∧ u = G)) 0 0 := by
  refine tg_in (cc := cX6_digestOfRuns) (maxL := 6) (ret := (some FieldType.long)) (tg_Ql E (fun r u => r = dgRR v d0 (vn v) ∧ u = G)) (by decide) rfl (Nat.le_of_ble_eq_true rfl) ?_
  intro p e s m args below meth cd ls A hx hb hr hml hown hlocks hin hA hAm hw hl
  have hown : s.vm.findClass RX6 = some m.cls := hown
  have hl : lv_has ls 6 [(0, .ref (ad 8)), (1, .long d0)] := hl
  obtain ⟨h0, hco, ⟨hLm, hLc, hLr⟩, hbi, hma, hch, hru⟩ := id hI
  have hn60 := h0.1
  have loop : ∀ (r k : Nat) (d : Int64) (ls : Array Slot) (H : Heap) (locs : List Loc), k + r = vn v → d = dgRR v d0 k → tg_W E A s G H locs → lv_has ls 6 [(3, .int (nI k)), (1, .long d), (0, .ref (ad 8))] → W p l e { frames := 5, cells := 0, slots := 0, locals := 110 } s m args below meth cd H locs 0 0 (MQ below ((tg_Ql E (fun r u => r = dgRR v d0 (vn v) ∧ u = G)) A) args s 0 0 A) (F0 m 2 ls []) := by
    intro r
    induction r with
    | zero =>
      intro k d ls H locs hk hd hw hl
      obtain ⟨mc9, la9, hl9, -⟩ := id hLr
      refine lv_iload_n hx hb dX6_digestOfRuns_2 rfl (lv_at hl 0 rfl) ?_
      refine lv_aload_n hx hb dX6_digestOfRuns_3 rfl (lv_at hl 2 rfl) ?_
      refine tg_get (v := .ref (ad 13)) hx hb hown hAm hw lyX6 hco rfl 2 (by decide) qw_227 (fun _ h9 => h9) rfl dX6_digestOfRuns_4 ?_
      refine tg_callRi (va_runV (As := []) (rest := [.int (nI k)]) (Ts := []) ⟨hx, hb, hml, hown, fun _ h9 => absurd h9 List.not_mem_nil⟩ (lf_size l E _ G (n := vn v) hl9) (rc_cwV hAm qw_343 qw_4 qw_346 qw_344 qw_345 rfl rfl hd_Jx4a65c_size_8abf5 ⟨Nat.le_of_ble_eq_true rfl, Nat.le_of_ble_eq_true rfl⟩) (tg_preV hAm hA hw hl9 (q := vwCl[0]) rfl) rfl rfl hl.1 rfl (lv_room (Nat.le_of_ble_eq_true rfl)) dX6_digestOfRuns_7 ⟨Nat.le_of_ble_eq_true rfl, Nat.le_of_ble_eq_true rfl⟩) hA hw (fun H locs hw => ?_)
      refine lv_icmp_ge (tgt := 63) hx hb dX6_digestOfRuns_10 (by decide) (fun _ => ?_) (fun c9 => absurd ((nI_leI (a := vn v) (b := k) (by omega) (by omega)).mpr (by omega)) c9)
      refine lv_lload_n hx hb dX6_digestOfRuns_63 rfl (lv_at hl 1 rfl) ?_
      exact tg_lret hx hb hr hlocks hw (⟨by rw [hd, show vn v = k by omega], rfl⟩) (Nat.le_of_ble_eq_true rfl) (Nat.le_of_ble_eq_true rfl) dX6_digestOfRuns_64
    | succ r ih =>
      intro k d ls H locs hk hd hw hl
      obtain ⟨mcr, lar, capr, fr, hlr, hrr, hpr, hqr, hfr⟩ := ltH.pos hLr (by omega)
      obtain ⟨hb1, hb2, hb3⟩ := h0.2.1 k (by omega)
      have hr9 : G (64 + k) = some (ad (64 + k), .inr (5, [.int (nI (vR v k).1), .ref (ad (32 + (vR v k).2.1)), .int (vT v k).1, .int (nI (vR v k).2.2), .int (vT v k).2])) := hru k (by omega)
      have hm9 : G (32 + (vR v k).2.1) = some (ad (32 + (vR v k).2.1), .inr (4, [.int (nI (vR v k).2.1), .int (nI (vMN v (vR v k).2.1 1)), .int (nI (vMN v (vR v k).2.1 2)), .int (vMI v (vR v k).2.1 3), .int (vMI v (vR v k).2.1 4), .int (vMI v (vR v k).2.1 5), .int (nI (vMN v (vR v k).2.1 6)), .int (vMI v (vR v k).2.1 7)])) := hma _ hb2
      refine lv_iload_n hx hb dX6_digestOfRuns_2 rfl (lv_at hl 0 rfl) ?_
      refine lv_aload_n hx hb dX6_digestOfRuns_3 rfl (lv_at hl 2 rfl) ?_
      refine tg_get (v := .ref (ad 13)) hx hb hown hAm hw lyX6 hco rfl 2 (by decide) qw_227 (fun _ h9 => h9) rfl dX6_digestOfRuns_4 ?_
      refine tg_callRi (va_runV (As := []) (rest := [.int (nI k)]) (Ts := []) ⟨hx, hb, hml, hown, fun _ h9 => absurd h9 List.not_mem_nil⟩ (lf_size l E _ G (n := vn v) hlr) (rc_cwV hAm qw_343 qw_4 qw_346 qw_344 qw_345 rfl rfl hd_Jx4a65c_size_8abf5 ⟨Nat.le_of_ble_eq_true rfl, Nat.le_of_ble_eq_true rfl⟩) (tg_preV hAm hA hw hlr (q := vwCl[0]) rfl) rfl rfl hl.1 rfl (lv_room (Nat.le_of_ble_eq_true rfl)) dX6_digestOfRuns_7 ⟨Nat.le_of_ble_eq_true rfl, Nat.le_of_ble_eq_true rfl⟩) hA hw (fun H locs hw => ?_)
      refine lv_icmp_ge (tgt := 63) hx hb dX6_digestOfRuns_10 (by decide) (fun c9 => absurd c9 (fun z9 => absurd ((nI_leI (a := vn v) (b := k) (by omega) (by omega)).mp z9) (by omega))) (fun _ => ?_)
      refine lv_aload_n hx hb dX6_digestOfRuns_13 rfl (lv_at hl 2 rfl) ?_
      refine tg_get (v := .ref (ad 13)) hx hb hown hAm hw lyX6 hco rfl 2 (by decide) qw_227 (fun _ h9 => h9) rfl dX6_digestOfRuns_14 ?_
      refine lv_iload_n hx hb dX6_digestOfRuns_17 rfl (lv_at hl 0 rfl) ?_
      refine tg_callRr (va_runV (As := [.int (nI k)]) (rest := []) (Ts := []) ⟨hx, hb, hml, hown, fun _ h9 => absurd h9 List.not_mem_nil⟩ (lf_get l E _ G (k := k) (n := vn v) (y := ad (64 + k)) (by omega) (by omega) (by omega) (hfr k (by omega)) hlr hrr) (rc_cwV hAm qw_436 qw_4 qw_439 qw_437 qw_438 rfl rfl hd_Jx4a65c_get_915e3 ⟨Nat.le_of_ble_eq_true rfl, Nat.le_of_ble_eq_true rfl⟩) (tg_preV hAm hA hw hlr (q := vwCl[0]) rfl) rfl rfl hl.1 rfl (lv_room (Nat.le_of_ble_eq_true rfl)) dX6_digestOfRuns_18 ⟨Nat.le_of_ble_eq_true rfl, Nat.le_of_ble_eq_true rfl⟩) hA hw (fun H locs hw => ?_)
      refine tg_castS (C := RX4) hx hb hown hAm hw qw_524 hr9 rfl dX6_digestOfRuns_21 ?_
      refine lv_astore (lv' := [(4, .ref (ad (64 + k))), (3, .int (nI k)), (1, .long d), (0, .ref (ad 8))]) hx hb dX6_digestOfRuns_24 hl (by decide) rfl (fun ls hl => ?_)
      refine lv_iconst (v := 0) hx hb dX6_digestOfRuns_26 (by decide) ?_
      refine lv_istore (lv' := [(5, .int 0), (4, .ref (ad (64 + k))), (3, .int (nI k)), (1, .long d), (0, .ref (ad 8))]) hx hb dX6_digestOfRuns_27 hl (by decide) rfl (fun ls hl => ?_)
      refine lv_iload hx hb dX6_digestOfRuns_29 (lv_at hl 0 rfl) ?_
      refine lv_iconst (v := 5) hx hb dX6_digestOfRuns_31 (by decide) ?_
      refine lv_icmp_gt (tgt := 57) hx hb dX6_digestOfRuns_32 (by decide) (fun c9 => absurd c9 (by decide)) (fun _ => ?_)
      refine lv_lload_n hx hb dX6_digestOfRuns_35 rfl (lv_at hl 3 rfl) ?_
      refine lv_ldc2 (v := 31) hx hb hown (hAm.wd qw_542 rfl rfl) dX6_digestOfRuns_36 ?_
      refine lv_lmul hx hb dX6_digestOfRuns_39 ?_
      refine lv_aload_n hx hb dX6_digestOfRuns_40 rfl (lv_at hl 4 rfl) ?_
      refine lv_aload hx hb dX6_digestOfRuns_41 (lv_at hl 1 rfl) ?_
      refine lv_iload hx hb dX6_digestOfRuns_43 (lv_at hl 0 rfl) ?_
      refine tg_callRi (va_runV (As := [.ref (ad (64 + k)), .int 0]) (rest := [.long (d * 31)]) (Ts := []) ⟨hx, hb, hml, hown, fun _ h9 => absurd h9 List.not_mem_nil⟩ (co_runFact0 l E _ ad v G hI k (by omega)) (rc_cwV hAm qw_590 qw_1 qw_593 qw_592 qs_38 rfl rfl hd_X6_runFact ⟨Nat.le_of_ble_eq_true rfl, Nat.le_of_ble_eq_true rfl⟩) (tg_preV hAm hA hw hco (q := vwCl[7]) rfl) rfl rfl hl.1 rfl (lv_room (Nat.le_of_ble_eq_true rfl)) dX6_digestOfRuns_45 ⟨Nat.le_of_ble_eq_true rfl, Nat.le_of_ble_eq_true rfl⟩) hA hw (fun H locs hw => ?_)
      refine lv_i2l (v := ((nI (vR v k).1)).toInt64) hx hb dX6_digestOfRuns_48 rfl ?_
      refine lv_ladd hx hb dX6_digestOfRuns_49 ?_
      refine rc_topl (dgS d (nI (vR v k).1)) rfl ?_
      refine lv_lstore_n (lv' := [(1, .long (dgS d (nI (vR v k).1))), (5, .int 0), (4, .ref (ad (64 + k))), (3, .int (nI k)), (0, .ref (ad 8))]) hx hb dX6_digestOfRuns_50 rfl hl (by decide) rfl (fun ls hl => ?_)
      refine lv_iinc (v := 1) (lv' := [(5, .int 1), (1, .long (dgS d (nI (vR v k).1))), (4, .ref (ad (64 + k))), (3, .int (nI k)), (0, .ref (ad 8))]) hx hb dX6_digestOfRuns_51 hl (k := 1) rfl (by decide) (by decide) rfl (fun ls hl => ?_)
      refine lv_goto (tgt := 29) hx hb dX6_digestOfRuns_54 (by decide) ?_
      refine lv_iload hx hb dX6_digestOfRuns_29 (lv_at hl 0 rfl) ?_
      refine lv_iconst (v := 5) hx hb dX6_digestOfRuns_31 (by decide) ?_
      refine lv_icmp_gt (tgt := 57) hx hb dX6_digestOfRuns_32 (by decide) (fun c9 => absurd c9 (by decide)) (fun _ => ?_)
      refine lv_lload_n hx hb dX6_digestOfRuns_35 rfl (lv_at hl 1 rfl) ?_
      refine lv_ldc2 (v := 31) hx hb hown (hAm.wd qw_542 rfl rfl) dX6_digestOfRuns_36 ?_
      refine lv_lmul hx hb dX6_digestOfRuns_39 ?_
      refine lv_aload_n hx hb dX6_digestOfRuns_40 rfl (lv_at hl 4 rfl) ?_
      refine lv_aload hx hb dX6_digestOfRuns_41 (lv_at hl 2 rfl) ?_
      refine lv_iload hx hb dX6_digestOfRuns_43 (lv_at hl 0 rfl) ?_
      refine tg_callRi (va_runV (As := [.ref (ad (64 + k)), .int 1]) (rest := [.long ((dgS d (nI (vR v k).1)) * 31)]) (Ts := []) ⟨hx, hb, hml, hown, fun _ h9 => absurd h9 List.not_mem_nil⟩ (co_runFact1 l E _ ad v G hI k (by omega)) (rc_cwV hAm qw_590 qw_1 qw_593 qw_592 qs_38 rfl rfl hd_X6_runFact ⟨Nat.le_of_ble_eq_true rfl, Nat.le_of_ble_eq_true rfl⟩) (tg_preV hAm hA hw hco (q := vwCl[7]) rfl) rfl rfl hl.1 rfl (lv_room (Nat.le_of_ble_eq_true rfl)) dX6_digestOfRuns_45 ⟨Nat.le_of_ble_eq_true rfl, Nat.le_of_ble_eq_true rfl⟩) hA hw (fun H locs hw => ?_)
      refine lv_i2l (v := ((nI (vR v k).2.1)).toInt64) hx hb dX6_digestOfRuns_48 rfl ?_
      refine lv_ladd hx hb dX6_digestOfRuns_49 ?_
      refine rc_topl (dgS (dgS d (nI (vR v k).1)) (nI (vR v k).2.1)) rfl ?_
      refine lv_lstore_n (lv' := [(1, .long (dgS (dgS d (nI (vR v k).1)) (nI (vR v k).2.1))), (5, .int 1), (4, .ref (ad (64 + k))), (3, .int (nI k)), (0, .ref (ad 8))]) hx hb dX6_digestOfRuns_50 rfl hl (by decide) rfl (fun ls hl => ?_)
      refine lv_iinc (v := 2) (lv' := [(5, .int 2), (1, .long (dgS (dgS d (nI (vR v k).1)) (nI (vR v k).2.1))), (4, .ref (ad (64 + k))), (3, .int (nI k)), (0, .ref (ad 8))]) hx hb dX6_digestOfRuns_51 hl (k := 1) rfl (by decide) (by decide) rfl (fun ls hl => ?_)
      refine lv_goto (tgt := 29) hx hb dX6_digestOfRuns_54 (by decide) ?_
      refine lv_iload hx hb dX6_digestOfRuns_29 (lv_at hl 0 rfl) ?_
      refine lv_iconst (v := 5) hx hb dX6_digestOfRuns_31 (by decide) ?_
      refine lv_icmp_gt (tgt := 57) hx hb dX6_digestOfRuns_32 (by decide) (fun c9 => absurd c9 (by decide)) (fun _ => ?_)
      refine lv_lload_n hx hb dX6_digestOfRuns_35 rfl (lv_at hl 1 rfl) ?_
      refine lv_ldc2 (v := 31) hx hb hown (hAm.wd qw_542 rfl rfl) dX6_digestOfRuns_36 ?_
      refine lv_lmul hx hb dX6_digestOfRuns_39 ?_
      refine lv_aload_n hx hb dX6_digestOfRuns_40 rfl (lv_at hl 4 rfl) ?_
      refine lv_aload hx hb dX6_digestOfRuns_41 (lv_at hl 2 rfl) ?_
      refine lv_iload hx hb dX6_digestOfRuns_43 (lv_at hl 0 rfl) ?_
      refine tg_callRi (va_runV (As := [.ref (ad (64 + k)), .int 2]) (rest := [.long ((dgS (dgS d (nI (vR v k).1)) (nI (vR v k).2.1)) * 31)]) (Ts := []) ⟨hx, hb, hml, hown, fun _ h9 => absurd h9 List.not_mem_nil⟩ (co_runFact2 l E _ ad v G hI k (by omega)) (rc_cwV hAm qw_590 qw_1 qw_593 qw_592 qs_38 rfl rfl hd_X6_runFact ⟨Nat.le_of_ble_eq_true rfl, Nat.le_of_ble_eq_true rfl⟩) (tg_preV hAm hA hw hco (q := vwCl[7]) rfl) rfl rfl hl.1 rfl (lv_room (Nat.le_of_ble_eq_true rfl)) dX6_digestOfRuns_45 ⟨Nat.le_of_ble_eq_true rfl, Nat.le_of_ble_eq_true rfl⟩) hA hw (fun H locs hw => ?_)
      refine lv_i2l (v := ((vT v k).1).toInt64) hx hb dX6_digestOfRuns_48 rfl ?_
      refine lv_ladd hx hb dX6_digestOfRuns_49 ?_
      refine rc_topl (dgS (dgS (dgS d (nI (vR v k).1)) (nI (vR v k).2.1)) (vT v k).1) rfl ?_
      refine lv_lstore_n (lv' := [(1, .long (dgS (dgS (dgS d (nI (vR v k).1)) (nI (vR v k).2.1)) (vT v k).1)), (5, .int 2), (4, .ref (ad (64 + k))), (3, .int (nI k)), (0, .ref (ad 8))]) hx hb dX6_digestOfRuns_50 rfl hl (by decide) rfl (fun ls hl => ?_)
      refine lv_iinc (v := 3) (lv' := [(5, .int 3), (1, .long (dgS (dgS (dgS d (nI (vR v k).1)) (nI (vR v k).2.1)) (vT v k).1)), (4, .ref (ad (64 + k))), (3, .int (nI k)), (0, .ref (ad 8))]) hx hb dX6_digestOfRuns_51 hl (k := 1) rfl (by decide) (by decide) rfl (fun ls hl => ?_)
      refine lv_goto (tgt := 29) hx hb dX6_digestOfRuns_54 (by decide) ?_
      refine lv_iload hx hb dX6_digestOfRuns_29 (lv_at hl 0 rfl) ?_
      refine lv_iconst (v := 5) hx hb dX6_digestOfRuns_31 (by decide) ?_
      refine lv_icmp_gt (tgt := 57) hx hb dX6_digestOfRuns_32 (by decide) (fun c9 => absurd c9 (by decide)) (fun _ => ?_)
      refine lv_lload_n hx hb dX6_digestOfRuns_35 rfl (lv_at hl 1 rfl) ?_
      refine lv_ldc2 (v := 31) hx hb hown (hAm.wd qw_542 rfl rfl) dX6_digestOfRuns_36 ?_
      refine lv_lmul hx hb dX6_digestOfRuns_39 ?_
      refine lv_aload_n hx hb dX6_digestOfRuns_40 rfl (lv_at hl 4 rfl) ?_
      refine lv_aload hx hb dX6_digestOfRuns_41 (lv_at hl 2 rfl) ?_
      refine lv_iload hx hb dX6_digestOfRuns_43 (lv_at hl 0 rfl) ?_
      refine tg_callRi (va_runV (As := [.ref (ad (64 + k)), .int 3]) (rest := [.long ((dgS (dgS (dgS d (nI (vR v k).1)) (nI (vR v k).2.1)) (vT v k).1) * 31)]) (Ts := []) ⟨hx, hb, hml, hown, fun _ h9 => absurd h9 List.not_mem_nil⟩ (co_runFact3 l E _ ad v G hI k (by omega)) (rc_cwV hAm qw_590 qw_1 qw_593 qw_592 qs_38 rfl rfl hd_X6_runFact ⟨Nat.le_of_ble_eq_true rfl, Nat.le_of_ble_eq_true rfl⟩) (tg_preV hAm hA hw hco (q := vwCl[7]) rfl) rfl rfl hl.1 rfl (lv_room (Nat.le_of_ble_eq_true rfl)) dX6_digestOfRuns_45 ⟨Nat.le_of_ble_eq_true rfl, Nat.le_of_ble_eq_true rfl⟩) hA hw (fun H locs hw => ?_)
      refine lv_i2l (v := ((nI (vR v k).2.2)).toInt64) hx hb dX6_digestOfRuns_48 rfl ?_
      refine lv_ladd hx hb dX6_digestOfRuns_49 ?_
      refine rc_topl (dgS (dgS (dgS (dgS d (nI (vR v k).1)) (nI (vR v k).2.1)) (vT v k).1) (nI (vR v k).2.2)) rfl ?_
      refine lv_lstore_n (lv' := [(1, .long (dgS (dgS (dgS (dgS d (nI (vR v k).1)) (nI (vR v k).2.1)) (vT v k).1) (nI (vR v k).2.2))), (5, .int 3), (4, .ref (ad (64 + k))), (3, .int (nI k)), (0, .ref (ad 8))]) hx hb dX6_digestOfRuns_50 rfl hl (by decide) rfl (fun ls hl => ?_)
      refine lv_iinc (v := 4) (lv' := [(5, .int 4), (1, .long (dgS (dgS (dgS (dgS d (nI (vR v k).1)) (nI (vR v k).2.1)) (vT v k).1) (nI (vR v k).2.2))), (4, .ref (ad (64 + k))), (3, .int (nI k)), (0, .ref (ad 8))]) hx hb dX6_digestOfRuns_51 hl (k := 1) rfl (by decide) (by decide) rfl (fun ls hl => ?_)
      refine lv_goto (tgt := 29) hx hb dX6_digestOfRuns_54 (by decide) ?_
      refine lv_iload hx hb dX6_digestOfRuns_29 (lv_at hl 0 rfl) ?_
      refine lv_iconst (v := 5) hx hb dX6_digestOfRuns_31 (by decide) ?_
      refine lv_icmp_gt (tgt := 57) hx hb dX6_digestOfRuns_32 (by decide) (fun c9 => absurd c9 (by decide)) (fun _ => ?_)
      refine lv_lload_n hx hb dX6_digestOfRuns_35 rfl (lv_at hl 1 rfl) ?_
      refine lv_ldc2 (v := 31) hx hb hown (hAm.wd qw_542 rfl rfl) dX6_digestOfRuns_36 ?_
      refine lv_lmul hx hb dX6_digestOfRuns_39 ?_
      refine lv_aload_n hx hb dX6_digestOfRuns_40 rfl (lv_at hl 4 rfl) ?_
      refine lv_aload hx hb dX6_digestOfRuns_41 (lv_at hl 2 rfl) ?_
      refine lv_iload hx hb dX6_digestOfRuns_43 (lv_at hl 0 rfl) ?_
      refine tg_callRi (va_runV (As := [.ref (ad (64 + k)), .int 4]) (rest := [.long ((dgS (dgS (dgS (dgS d (nI (vR v k).1)) (nI (vR v k).2.1)) (vT v k).1) (nI (vR v k).2.2)) * 31)]) (Ts := []) ⟨hx, hb, hml, hown, fun _ h9 => absurd h9 List.not_mem_nil⟩ (co_runFact4 l E _ ad v G hI k (by omega)) (rc_cwV hAm qw_590 qw_1 qw_593 qw_592 qs_38 rfl rfl hd_X6_runFact ⟨Nat.le_of_ble_eq_true rfl, Nat.le_of_ble_eq_true rfl⟩) (tg_preV hAm hA hw hco (q := vwCl[7]) rfl) rfl rfl hl.1 rfl (lv_room (Nat.le_of_ble_eq_true rfl)) dX6_digestOfRuns_45 ⟨Nat.le_of_ble_eq_true rfl, Nat.le_of_ble_eq_true rfl⟩) hA hw (fun H locs hw => ?_)
      refine lv_i2l (v := ((nI (cK v k))).toInt64) hx hb dX6_digestOfRuns_48 rfl ?_
      refine lv_ladd hx hb dX6_digestOfRuns_49 ?_
      refine rc_topl (dgS (dgS (dgS (dgS (dgS d (nI (vR v k).1)) (nI (vR v k).2.1)) (vT v k).1) (nI (vR v k).2.2)) (nI (cK v k))) rfl ?_
      refine lv_lstore_n (lv' := [(1, .long (dgS (dgS (dgS (dgS (dgS d (nI (vR v k).1)) (nI (vR v k).2.1)) (vT v k).1) (nI (vR v k).2.2)) (nI (cK v k)))), (5, .int 4), (4, .ref (ad (64 + k))), (3, .int (nI k)), (0, .ref (ad 8))]) hx hb dX6_digestOfRuns_50 rfl hl (by decide) rfl (fun ls hl => ?_)
      refine lv_iinc (v := 5) (lv' := [(5, .int 5), (1, .long (dgS (dgS (dgS (dgS (dgS d (nI (vR v k).1)) (nI (vR v k).2.1)) (vT v k).1) (nI (vR v k).2.2)) (nI (cK v k)))), (4, .ref (ad (64 + k))), (3, .int (nI k)), (0, .ref (ad 8))]) hx hb dX6_digestOfRuns_51 hl (k := 1) rfl (by decide) (by decide) rfl (fun ls hl => ?_)
      refine lv_goto (tgt := 29) hx hb dX6_digestOfRuns_54 (by decide) ?_
      refine lv_iload hx hb dX6_digestOfRuns_29 (lv_at hl 0 rfl) ?_
      refine lv_iconst (v := 5) hx hb dX6_digestOfRuns_31 (by decide) ?_
      refine lv_icmp_gt (tgt := 57) hx hb dX6_digestOfRuns_32 (by decide) (fun c9 => absurd c9 (by decide)) (fun _ => ?_)
      refine lv_lload_n hx hb dX6_digestOfRuns_35 rfl (lv_at hl 1 rfl) ?_
      refine lv_ldc2 (v := 31) hx hb hown (hAm.wd qw_542 rfl rfl) dX6_digestOfRuns_36 ?_
      refine lv_lmul hx hb dX6_digestOfRuns_39 ?_
      refine lv_aload_n hx hb dX6_digestOfRuns_40 rfl (lv_at hl 4 rfl) ?_
      refine lv_aload hx hb dX6_digestOfRuns_41 (lv_at hl 2 rfl) ?_
      refine lv_iload hx hb dX6_digestOfRuns_43 (lv_at hl 0 rfl) ?_
      refine tg_callRi (va_runV (As := [.ref (ad (64 + k)), .int 5]) (rest := [.long ((dgS (dgS (dgS (dgS (dgS d (nI (vR v k).1)) (nI (vR v k).2.1)) (vT v k).1) (nI (vR v k).2.2)) (nI (cK v k))) * 31)]) (Ts := []) ⟨hx, hb, hml, hown, fun _ h9 => absurd h9 List.not_mem_nil⟩ (co_runFact5 l E _ ad v G hI k (by omega)) (rc_cwV hAm qw_590 qw_1 qw_593 qw_592 qs_38 rfl rfl hd_X6_runFact ⟨Nat.le_of_ble_eq_true rfl, Nat.le_of_ble_eq_true rfl⟩) (tg_preV hAm hA hw hco (q := vwCl[7]) rfl) rfl rfl hl.1 rfl (lv_room (Nat.le_of_ble_eq_true rfl)) dX6_digestOfRuns_45 ⟨Nat.le_of_ble_eq_true rfl, Nat.le_of_ble_eq_true rfl⟩) hA hw (fun H locs hw => ?_)
      refine lv_i2l (v := ((nI (isR v (ixs v (vR v k).1) k (ixs v (vR v k).1).length 0))).toInt64) hx hb dX6_digestOfRuns_48 rfl ?_
      refine lv_ladd hx hb dX6_digestOfRuns_49 ?_
      refine rc_topl (dgS (dgS (dgS (dgS (dgS (dgS d (nI (vR v k).1)) (nI (vR v k).2.1)) (vT v k).1) (nI (vR v k).2.2)) (nI (cK v k))) (nI (isR v (ixs v (vR v k).1) k (ixs v (vR v k).1).length 0))) rfl ?_
      refine lv_lstore_n (lv' := [(1, .long (dgS (dgS (dgS (dgS (dgS (dgS d (nI (vR v k).1)) (nI (vR v k).2.1)) (vT v k).1) (nI (vR v k).2.2)) (nI (cK v k))) (nI (isR v (ixs v (vR v k).1) k (ixs v (vR v k).1).length 0)))), (5, .int 5), (4, .ref (ad (64 + k))), (3, .int (nI k)), (0, .ref (ad 8))]) hx hb dX6_digestOfRuns_50 rfl hl (by decide) rfl (fun ls hl => ?_)
      refine lv_iinc (v := 6) (lv' := [(5, .int 6), (1, .long (dgS (dgS (dgS (dgS (dgS (dgS d (nI (vR v k).1)) (nI (vR v k).2.1)) (vT v k).1) (nI (vR v k).2.2)) (nI (cK v k))) (nI (isR v (ixs v (vR v k).1) k (ixs v (vR v k).1).length 0)))), (4, .ref (ad (64 + k))), (3, .int (nI k)), (0, .ref (ad 8))]) hx hb dX6_digestOfRuns_51 hl (k := 1) rfl (by decide) (by decide) rfl (fun ls hl => ?_)
      refine lv_goto (tgt := 29) hx hb dX6_digestOfRuns_54 (by decide) ?_
      refine lv_iload hx hb dX6_digestOfRuns_29 (lv_at hl 0 rfl) ?_
      refine lv_iconst (v := 5) hx hb dX6_digestOfRuns_31 (by decide) ?_
      refine lv_icmp_gt (tgt := 57) hx hb dX6_digestOfRuns_32 (by decide) (fun _ => ?_) (fun c9 => absurd (by decide) c9)
      refine lv_iinc (v := nI (k + 1)) (lv' := [(3, .int (nI (k + 1))), (5, .int 6), (1, .long (dgS (dgS (dgS (dgS (dgS (dgS d (nI (vR v k).1)) (nI (vR v k).2.1)) (vT v k).1) (nI (vR v k).2.2)) (nI (cK v k))) (nI (isR v (ixs v (vR v k).1) k (ixs v (vR v k).1).length 0)))), (4, .ref (ad (64 + k))), (0, .ref (ad 8))]) hx hb dX6_digestOfRuns_57 hl (k := 3) rfl (nI_1 _) (by decide) rfl (fun ls hl => ?_)
      refine lv_goto (tgt := 2) hx hb dX6_digestOfRuns_60 (by decide) ?_
      exact ih (k + 1) _ ls _ _ (by omega) (by subst hd; rfl) hw (lv_sub hl [0, 2, 4] rfl)
  refine lv_iconst (v := 0) hx hb dX6_digestOfRuns_0 (by decide) ?_
  refine lv_istore_n (lv' := [(3, .int 0), (0, .ref (ad 8)), (1, .long d0)]) hx hb dX6_digestOfRuns_1 rfl hl (by decide) rfl (fun ls hl => ?_)
  exact loop (vn v) 0 d0 ls _ _ (by omega) rfl hw (lv_sub hl [0, 2, 1] rfl)
set_option maxHeartbeats 4000000 in
set_option maxRecDepth 100000 in
theorem dg_changes (l : Launch) (E : rc_E) (sz : Nat) (ad : Nat → Nat) (v : av_V) (G : tg_G) (hI : ssH E ad v G) (hS : scH E ad G) (d0 : Int64) : tg_M l yX6_digestOfChanges [Cond.code yX6_digestOfChanges cX6_digestOfChanges 6 (some FieldType.long)] { frames := 5, cells := 0, slots := 0, locals := 110 } E [.ref (ad 8), .long d0] G sz (tg_Ql E (fun r u => r = dgCR v d0 6 ∧ scH E ad u ∧ ∀ t9, t9 < 15 ∨ 31 ≤ t9 → u t9 = G t9)) 0 0 := by
  refine tg_in (cc := cX6_digestOfChanges) (maxL := 6) (ret := (some FieldType.long)) (tg_Ql E (fun r u => r = dgCR v d0 6 ∧ scH E ad u ∧ ∀ t9, t9 < 15 ∨ 31 ≤ t9 → u t9 = G t9)) (by decide) rfl (Nat.le_of_ble_eq_true rfl) ?_
  intro p e s m args below meth cd ls A hx hb hr hml hown hlocks hin hA hAm hw hl
  have hown : s.vm.findClass RX6 = some m.cls := hown
  have hl : lv_has ls 6 [(0, .ref (ad 8)), (1, .long d0)] := hl
  obtain ⟨h0, hco, ⟨hLm, hLc, hLr⟩, hbi, hma, hch, hru⟩ := id hI
  have hn60 := h0.1
  have loop : ∀ (r k : Nat) (d : Int64) (ls : Array Slot) (G1 : tg_G) (H : Heap) (locs : List Loc), k + r = 6 → d = dgCR v d0 k → ssH E ad v G1 → scH E ad G1 → (∀ t9, t9 < 15 ∨ 31 ≤ t9 → G1 t9 = G t9) → tg_W E A s G1 H locs → lv_has ls 6 [(3, .int (nI k)), (1, .long d), (0, .ref (ad 8))] → W p l e { frames := 5, cells := 0, slots := 0, locals := 110 } s m args below meth cd H locs 0 0 (MQ below ((tg_Ql E (fun r u => r = dgCR v d0 6 ∧ scH E ad u ∧ ∀ t9, t9 < 15 ∨ 31 ≤ t9 → u t9 = G t9)) A) args s 0 0 A) (F0 m 2 ls []) := by
    intro r
    induction r with
    | zero =>
      intro k d ls G1 H locs hk hd hI hS HO hw hl
      obtain ⟨-, hco, ⟨-, hLc, -⟩, hbi, hma, hch, hru⟩ := id hI
      obtain ⟨mc9, la9, hl9, -⟩ := id hLc
      refine lv_iload_n hx hb dX6_digestOfChanges_2 rfl (lv_at hl 0 rfl) ?_
      refine lv_aload_n hx hb dX6_digestOfChanges_3 rfl (lv_at hl 2 rfl) ?_
      refine tg_get (v := .ref (ad 11)) hx hb hown hAm hw lyX6 hco rfl 1 (by decide) qw_226 (fun _ h9 => h9) rfl dX6_digestOfChanges_4 ?_
      refine tg_callRi (va_runV (As := []) (rest := [.int (nI k)]) (Ts := []) ⟨hx, hb, hml, hown, fun _ h9 => absurd h9 List.not_mem_nil⟩ (lf_size l E _ G1 (n := 6) hl9) (rc_cwV hAm qw_343 qw_4 qw_346 qw_344 qw_345 rfl rfl hd_Jx4a65c_size_8abf5 ⟨Nat.le_of_ble_eq_true rfl, Nat.le_of_ble_eq_true rfl⟩) (tg_preV hAm hA hw hl9 (q := vwCl[0]) rfl) rfl rfl hl.1 rfl (lv_room (Nat.le_of_ble_eq_true rfl)) dX6_digestOfChanges_7 ⟨Nat.le_of_ble_eq_true rfl, Nat.le_of_ble_eq_true rfl⟩) hA hw (fun H locs hw => ?_)
      refine lv_icmp_ge (tgt := 77) hx hb dX6_digestOfChanges_10 (by decide) (fun _ => ?_) (fun c9 => absurd ((nI_leI (a := 6) (b := k) (by omega) (by omega)).mpr (by omega)) c9)
      refine lv_lload_n hx hb dX6_digestOfChanges_77 rfl (lv_at hl 1 rfl) ?_
      exact tg_lret hx hb hr hlocks hw (⟨by rw [hd, show 6 = k by omega], hS, HO⟩) (Nat.le_of_ble_eq_true rfl) (Nat.le_of_ble_eq_true rfl) dX6_digestOfChanges_78
    | succ r ih =>
      intro k d ls G1 H locs hk hd hI hS HO hw hl
      obtain ⟨-, hco, ⟨-, hLc, -⟩, hbi, hma, hch, hru⟩ := id hI
      obtain ⟨mcc, lac, capc, fc, hlc, hrc, hpc, hqc, hfc⟩ := ltH.pos hLc (by omega)
      have hc9 : G1 (40 + 3 * k) = some (ad (40 + 3 * k), .inr (2, [.ref (ad (41 + 3 * k)), .int (vC v k).1, .int (vC v k).2])) := (hch k (by omega)).1
      refine lv_iload_n hx hb dX6_digestOfChanges_2 rfl (lv_at hl 0 rfl) ?_
      refine lv_aload_n hx hb dX6_digestOfChanges_3 rfl (lv_at hl 2 rfl) ?_
      refine tg_get (v := .ref (ad 11)) hx hb hown hAm hw lyX6 hco rfl 1 (by decide) qw_226 (fun _ h9 => h9) rfl dX6_digestOfChanges_4 ?_
      refine tg_callRi (va_runV (As := []) (rest := [.int (nI k)]) (Ts := []) ⟨hx, hb, hml, hown, fun _ h9 => absurd h9 List.not_mem_nil⟩ (lf_size l E _ G1 (n := 6) hlc) (rc_cwV hAm qw_343 qw_4 qw_346 qw_344 qw_345 rfl rfl hd_Jx4a65c_size_8abf5 ⟨Nat.le_of_ble_eq_true rfl, Nat.le_of_ble_eq_true rfl⟩) (tg_preV hAm hA hw hlc (q := vwCl[0]) rfl) rfl rfl hl.1 rfl (lv_room (Nat.le_of_ble_eq_true rfl)) dX6_digestOfChanges_7 ⟨Nat.le_of_ble_eq_true rfl, Nat.le_of_ble_eq_true rfl⟩) hA hw (fun H locs hw => ?_)
      refine lv_icmp_ge (tgt := 77) hx hb dX6_digestOfChanges_10 (by decide) (fun c9 => absurd c9 (fun z9 => absurd ((nI_leI (a := 6) (b := k) (by omega) (by omega)).mp z9) (by omega))) (fun _ => ?_)
      refine lv_aload_n hx hb dX6_digestOfChanges_13 rfl (lv_at hl 2 rfl) ?_
      refine tg_get (v := .ref (ad 11)) hx hb hown hAm hw lyX6 hco rfl 1 (by decide) qw_226 (fun _ h9 => h9) rfl dX6_digestOfChanges_14 ?_
      refine lv_iload_n hx hb dX6_digestOfChanges_17 rfl (lv_at hl 0 rfl) ?_
      refine tg_callRr (va_runV (As := [.int (nI k)]) (rest := []) (Ts := []) ⟨hx, hb, hml, hown, fun _ h9 => absurd h9 List.not_mem_nil⟩ (lf_get l E _ G1 (k := k) (n := 6) (y := ad (40 + 3 * k)) (by omega) (by omega) (by omega) (hfc k (by omega)) hlc hrc) (rc_cwV hAm qw_436 qw_4 qw_439 qw_437 qw_438 rfl rfl hd_Jx4a65c_get_915e3 ⟨Nat.le_of_ble_eq_true rfl, Nat.le_of_ble_eq_true rfl⟩) (tg_preV hAm hA hw hlc (q := vwCl[0]) rfl) rfl rfl hl.1 rfl (lv_room (Nat.le_of_ble_eq_true rfl)) dX6_digestOfChanges_18 ⟨Nat.le_of_ble_eq_true rfl, Nat.le_of_ble_eq_true rfl⟩) hA hw (fun H locs hw => ?_)
      refine tg_castS (C := RX1) hx hb hown hAm hw qw_59 hc9 rfl dX6_digestOfChanges_21 ?_
      refine lv_astore (lv' := [(4, .ref (ad (40 + 3 * k))), (3, .int (nI k)), (1, .long d), (0, .ref (ad 8))]) hx hb dX6_digestOfChanges_24 hl (by decide) rfl (fun ls hl => ?_)
      refine lv_iconst (v := 0) hx hb dX6_digestOfChanges_26 (by decide) ?_
      refine lv_istore (lv' := [(5, .int 0), (4, .ref (ad (40 + 3 * k))), (3, .int (nI k)), (1, .long d), (0, .ref (ad 8))]) hx hb dX6_digestOfChanges_27 hl (by decide) rfl (fun ls hl => ?_)
      refine lv_iload hx hb dX6_digestOfChanges_29 (lv_at hl 0 rfl) ?_
      refine lv_iconst (v := 5) hx hb dX6_digestOfChanges_31 (by decide) ?_
      refine lv_icmp_gt (tgt := 57) hx hb dX6_digestOfChanges_32 (by decide) (fun c9 => absurd c9 (by decide)) (fun _ => ?_)
      refine lv_lload_n hx hb dX6_digestOfChanges_35 rfl (lv_at hl 3 rfl) ?_
      refine lv_ldc2 (v := 31) hx hb hown (hAm.wd qw_542 rfl rfl) dX6_digestOfChanges_36 ?_
      refine lv_lmul hx hb dX6_digestOfChanges_39 ?_
      refine lv_aload_n hx hb dX6_digestOfChanges_40 rfl (lv_at hl 4 rfl) ?_
      refine lv_aload hx hb dX6_digestOfChanges_41 (lv_at hl 1 rfl) ?_
      refine lv_iload hx hb dX6_digestOfChanges_43 (lv_at hl 0 rfl) ?_
      refine tg_calli (va_runV (As := [.ref (ad (40 + 3 * k)), .int 0]) (rest := [.long (d * 31)]) (Ts := []) ⟨hx, hb, hml, hown, fun _ h9 => absurd h9 List.not_mem_nil⟩ (co_changeFact0 l E _ ad v G1 hI hS k (by omega)) (rc_cwV hAm qw_573 qw_1 qw_576 qw_575 qs_34 rfl rfl hd_X6_changeFact ⟨Nat.le_of_ble_eq_true rfl, Nat.le_of_ble_eq_true rfl⟩) (tg_preV hAm hA hw hco (q := vwCl[7]) rfl) rfl rfl hl.1 rfl (lv_room (Nat.le_of_ble_eq_true rfl)) dX6_digestOfChanges_45 ⟨Nat.le_of_ble_eq_true rfl, Nat.le_of_ble_eq_true rfl⟩) hA hw (fun r_2 G_1 H locs hp hw => ?_)
      obtain ⟨hr9, hm15, hu⟩ := hp
      rw [hr9]
      have hS := scH_one hS hm15 hu
      have hco := (hu 8 (by omega)).trans hco
      have hlc := (hu 11 (by omega)).trans hlc
      have hrc := (hu 12 (by omega)).trans hrc
      have hc9 := (hu (40 + 3 * k) (by omega)).trans hc9
      have hI := hI.scr (fun t9 h9 => hu t9 (by omega))
      have HO := fun (t9 : Nat) (h9 : t9 < 15 ∨ 31 ≤ t9) => (hu t9 (by omega)).trans (HO t9 h9)
      refine lv_i2l (v := ((nI ((ixs v k).length))).toInt64) hx hb dX6_digestOfChanges_48 rfl ?_
      refine lv_ladd hx hb dX6_digestOfChanges_49 ?_
      refine rc_topl (dgS d (nI ((ixs v k).length))) rfl ?_
      refine lv_lstore_n (lv' := [(1, .long (dgS d (nI ((ixs v k).length)))), (5, .int 0), (4, .ref (ad (40 + 3 * k))), (3, .int (nI k)), (0, .ref (ad 8))]) hx hb dX6_digestOfChanges_50 rfl hl (by decide) rfl (fun ls hl => ?_)
      refine lv_iinc (v := 1) (lv' := [(5, .int 1), (1, .long (dgS d (nI ((ixs v k).length)))), (4, .ref (ad (40 + 3 * k))), (3, .int (nI k)), (0, .ref (ad 8))]) hx hb dX6_digestOfChanges_51 hl (k := 1) rfl (by decide) (by decide) rfl (fun ls hl => ?_)
      refine lv_goto (tgt := 29) hx hb dX6_digestOfChanges_54 (by decide) ?_
      refine lv_iload hx hb dX6_digestOfChanges_29 (lv_at hl 0 rfl) ?_
      refine lv_iconst (v := 5) hx hb dX6_digestOfChanges_31 (by decide) ?_
      refine lv_icmp_gt (tgt := 57) hx hb dX6_digestOfChanges_32 (by decide) (fun c9 => absurd c9 (by decide)) (fun _ => ?_)
      refine lv_lload_n hx hb dX6_digestOfChanges_35 rfl (lv_at hl 1 rfl) ?_
      refine lv_ldc2 (v := 31) hx hb hown (hAm.wd qw_542 rfl rfl) dX6_digestOfChanges_36 ?_
      refine lv_lmul hx hb dX6_digestOfChanges_39 ?_
      refine lv_aload_n hx hb dX6_digestOfChanges_40 rfl (lv_at hl 4 rfl) ?_
      refine lv_aload hx hb dX6_digestOfChanges_41 (lv_at hl 2 rfl) ?_
      refine lv_iload hx hb dX6_digestOfChanges_43 (lv_at hl 0 rfl) ?_
      refine tg_calli (va_runV (As := [.ref (ad (40 + 3 * k)), .int 1]) (rest := [.long ((dgS d (nI ((ixs v k).length))) * 31)]) (Ts := []) ⟨hx, hb, hml, hown, fun _ h9 => absurd h9 List.not_mem_nil⟩ (co_changeFact1 l E _ ad v G_1 hI hS k (by omega)) (rc_cwV hAm qw_573 qw_1 qw_576 qw_575 qs_34 rfl rfl hd_X6_changeFact ⟨Nat.le_of_ble_eq_true rfl, Nat.le_of_ble_eq_true rfl⟩) (tg_preV hAm hA hw hco (q := vwCl[7]) rfl) rfl rfl hl.1 rfl (lv_room (Nat.le_of_ble_eq_true rfl)) dX6_digestOfChanges_45 ⟨Nat.le_of_ble_eq_true rfl, Nat.le_of_ble_eq_true rfl⟩) hA hw (fun r_4 G_3 H locs hp hw => ?_)
      obtain ⟨hr9, hm15, hu⟩ := hp
      rw [hr9]
      have hS := scH_one hS hm15 hu
      have hco := (hu 8 (by omega)).trans hco
      have hlc := (hu 11 (by omega)).trans hlc
      have hrc := (hu 12 (by omega)).trans hrc
      have hc9 := (hu (40 + 3 * k) (by omega)).trans hc9
      have hI := hI.scr (fun t9 h9 => hu t9 (by omega))
      have HO := fun (t9 : Nat) (h9 : t9 < 15 ∨ 31 ≤ t9) => (hu t9 (by omega)).trans (HO t9 h9)
      refine lv_i2l (v := ((nI ((samp v k).length))).toInt64) hx hb dX6_digestOfChanges_48 rfl ?_
      refine lv_ladd hx hb dX6_digestOfChanges_49 ?_
      refine rc_topl (dgS (dgS d (nI ((ixs v k).length))) (nI ((samp v k).length))) rfl ?_
      refine lv_lstore_n (lv' := [(1, .long (dgS (dgS d (nI ((ixs v k).length))) (nI ((samp v k).length)))), (5, .int 1), (4, .ref (ad (40 + 3 * k))), (3, .int (nI k)), (0, .ref (ad 8))]) hx hb dX6_digestOfChanges_50 rfl hl (by decide) rfl (fun ls hl => ?_)
      refine lv_iinc (v := 2) (lv' := [(5, .int 2), (1, .long (dgS (dgS d (nI ((ixs v k).length))) (nI ((samp v k).length)))), (4, .ref (ad (40 + 3 * k))), (3, .int (nI k)), (0, .ref (ad 8))]) hx hb dX6_digestOfChanges_51 hl (k := 1) rfl (by decide) (by decide) rfl (fun ls hl => ?_)
      refine lv_goto (tgt := 29) hx hb dX6_digestOfChanges_54 (by decide) ?_
      refine lv_iload hx hb dX6_digestOfChanges_29 (lv_at hl 0 rfl) ?_
      refine lv_iconst (v := 5) hx hb dX6_digestOfChanges_31 (by decide) ?_
      refine lv_icmp_gt (tgt := 57) hx hb dX6_digestOfChanges_32 (by decide) (fun c9 => absurd c9 (by decide)) (fun _ => ?_)
      refine lv_lload_n hx hb dX6_digestOfChanges_35 rfl (lv_at hl 1 rfl) ?_
      refine lv_ldc2 (v := 31) hx hb hown (hAm.wd qw_542 rfl rfl) dX6_digestOfChanges_36 ?_
      refine lv_lmul hx hb dX6_digestOfChanges_39 ?_
      refine lv_aload_n hx hb dX6_digestOfChanges_40 rfl (lv_at hl 4 rfl) ?_
      refine lv_aload hx hb dX6_digestOfChanges_41 (lv_at hl 2 rfl) ?_
      refine lv_iload hx hb dX6_digestOfChanges_43 (lv_at hl 0 rfl) ?_
      refine tg_calli (va_runV (As := [.ref (ad (40 + 3 * k)), .int 2]) (rest := [.long ((dgS (dgS d (nI ((ixs v k).length))) (nI ((samp v k).length))) * 31)]) (Ts := []) ⟨hx, hb, hml, hown, fun _ h9 => absurd h9 List.not_mem_nil⟩ (co_changeFact2 l E _ ad v G_3 hI hS k (by omega)) (rc_cwV hAm qw_573 qw_1 qw_576 qw_575 qs_34 rfl rfl hd_X6_changeFact ⟨Nat.le_of_ble_eq_true rfl, Nat.le_of_ble_eq_true rfl⟩) (tg_preV hAm hA hw hco (q := vwCl[7]) rfl) rfl rfl hl.1 rfl (lv_room (Nat.le_of_ble_eq_true rfl)) dX6_digestOfChanges_45 ⟨Nat.le_of_ble_eq_true rfl, Nat.le_of_ble_eq_true rfl⟩) hA hw (fun r_6 G_5 H locs hp hw => ?_)
      obtain ⟨hr9, hm15, hu⟩ := hp
      rw [hr9]
      have hS := scH_one hS hm15 hu
      have hco := (hu 8 (by omega)).trans hco
      have hlc := (hu 11 (by omega)).trans hlc
      have hrc := (hu 12 (by omega)).trans hrc
      have hc9 := (hu (40 + 3 * k) (by omega)).trans hc9
      have hI := hI.scr (fun t9 h9 => hu t9 (by omega))
      have HO := fun (t9 : Nat) (h9 : t9 < 15 ∨ 31 ≤ t9) => (hu t9 (by omega)).trans (HO t9 h9)
      refine lv_i2l (v := ((wAt (samp v k) (((samp v k).length - 1) / 2))).toInt64) hx hb dX6_digestOfChanges_48 rfl ?_
      refine lv_ladd hx hb dX6_digestOfChanges_49 ?_
      refine rc_topl (dgS (dgS (dgS d (nI ((ixs v k).length))) (nI ((samp v k).length))) (wAt (samp v k) (((samp v k).length - 1) / 2))) rfl ?_
      refine lv_lstore_n (lv' := [(1, .long (dgS (dgS (dgS d (nI ((ixs v k).length))) (nI ((samp v k).length))) (wAt (samp v k) (((samp v k).length - 1) / 2)))), (5, .int 2), (4, .ref (ad (40 + 3 * k))), (3, .int (nI k)), (0, .ref (ad 8))]) hx hb dX6_digestOfChanges_50 rfl hl (by decide) rfl (fun ls hl => ?_)
      refine lv_iinc (v := 3) (lv' := [(5, .int 3), (1, .long (dgS (dgS (dgS d (nI ((ixs v k).length))) (nI ((samp v k).length))) (wAt (samp v k) (((samp v k).length - 1) / 2)))), (4, .ref (ad (40 + 3 * k))), (3, .int (nI k)), (0, .ref (ad 8))]) hx hb dX6_digestOfChanges_51 hl (k := 1) rfl (by decide) (by decide) rfl (fun ls hl => ?_)
      refine lv_goto (tgt := 29) hx hb dX6_digestOfChanges_54 (by decide) ?_
      refine lv_iload hx hb dX6_digestOfChanges_29 (lv_at hl 0 rfl) ?_
      refine lv_iconst (v := 5) hx hb dX6_digestOfChanges_31 (by decide) ?_
      refine lv_icmp_gt (tgt := 57) hx hb dX6_digestOfChanges_32 (by decide) (fun c9 => absurd c9 (by decide)) (fun _ => ?_)
      refine lv_lload_n hx hb dX6_digestOfChanges_35 rfl (lv_at hl 1 rfl) ?_
      refine lv_ldc2 (v := 31) hx hb hown (hAm.wd qw_542 rfl rfl) dX6_digestOfChanges_36 ?_
      refine lv_lmul hx hb dX6_digestOfChanges_39 ?_
      refine lv_aload_n hx hb dX6_digestOfChanges_40 rfl (lv_at hl 4 rfl) ?_
      refine lv_aload hx hb dX6_digestOfChanges_41 (lv_at hl 2 rfl) ?_
      refine lv_iload hx hb dX6_digestOfChanges_43 (lv_at hl 0 rfl) ?_
      refine tg_calli (va_runV (As := [.ref (ad (40 + 3 * k)), .int 3]) (rest := [.long ((dgS (dgS (dgS d (nI ((ixs v k).length))) (nI ((samp v k).length))) (wAt (samp v k) (((samp v k).length - 1) / 2))) * 31)]) (Ts := []) ⟨hx, hb, hml, hown, fun _ h9 => absurd h9 List.not_mem_nil⟩ (co_changeFact3 l E _ ad v G_5 hI hS k (by omega)) (rc_cwV hAm qw_573 qw_1 qw_576 qw_575 qs_34 rfl rfl hd_X6_changeFact ⟨Nat.le_of_ble_eq_true rfl, Nat.le_of_ble_eq_true rfl⟩) (tg_preV hAm hA hw hco (q := vwCl[7]) rfl) rfl rfl hl.1 rfl (lv_room (Nat.le_of_ble_eq_true rfl)) dX6_digestOfChanges_45 ⟨Nat.le_of_ble_eq_true rfl, Nat.le_of_ble_eq_true rfl⟩) hA hw (fun r_8 G_7 H locs hp hw => ?_)
      obtain ⟨hr9, hm15, hu⟩ := hp
      rw [hr9]
      have hS := scH_one hS hm15 hu
      have hco := (hu 8 (by omega)).trans hco
      have hlc := (hu 11 (by omega)).trans hlc
      have hrc := (hu 12 (by omega)).trans hrc
      have hc9 := (hu (40 + 3 * k) (by omega)).trans hc9
      have hI := hI.scr (fun t9 h9 => hu t9 (by omega))
      have HO := fun (t9 : Nat) (h9 : t9 < 15 ∨ 31 ≤ t9) => (hu t9 (by omega)).trans (HO t9 h9)
      refine lv_i2l (v := ((wAt (samp v k) 0)).toInt64) hx hb dX6_digestOfChanges_48 rfl ?_
      refine lv_ladd hx hb dX6_digestOfChanges_49 ?_
      refine rc_topl (dgS (dgS (dgS (dgS d (nI ((ixs v k).length))) (nI ((samp v k).length))) (wAt (samp v k) (((samp v k).length - 1) / 2))) (wAt (samp v k) 0)) rfl ?_
      refine lv_lstore_n (lv' := [(1, .long (dgS (dgS (dgS (dgS d (nI ((ixs v k).length))) (nI ((samp v k).length))) (wAt (samp v k) (((samp v k).length - 1) / 2))) (wAt (samp v k) 0))), (5, .int 3), (4, .ref (ad (40 + 3 * k))), (3, .int (nI k)), (0, .ref (ad 8))]) hx hb dX6_digestOfChanges_50 rfl hl (by decide) rfl (fun ls hl => ?_)
      refine lv_iinc (v := 4) (lv' := [(5, .int 4), (1, .long (dgS (dgS (dgS (dgS d (nI ((ixs v k).length))) (nI ((samp v k).length))) (wAt (samp v k) (((samp v k).length - 1) / 2))) (wAt (samp v k) 0))), (4, .ref (ad (40 + 3 * k))), (3, .int (nI k)), (0, .ref (ad 8))]) hx hb dX6_digestOfChanges_51 hl (k := 1) rfl (by decide) (by decide) rfl (fun ls hl => ?_)
      refine lv_goto (tgt := 29) hx hb dX6_digestOfChanges_54 (by decide) ?_
      refine lv_iload hx hb dX6_digestOfChanges_29 (lv_at hl 0 rfl) ?_
      refine lv_iconst (v := 5) hx hb dX6_digestOfChanges_31 (by decide) ?_
      refine lv_icmp_gt (tgt := 57) hx hb dX6_digestOfChanges_32 (by decide) (fun c9 => absurd c9 (by decide)) (fun _ => ?_)
      refine lv_lload_n hx hb dX6_digestOfChanges_35 rfl (lv_at hl 1 rfl) ?_
      refine lv_ldc2 (v := 31) hx hb hown (hAm.wd qw_542 rfl rfl) dX6_digestOfChanges_36 ?_
      refine lv_lmul hx hb dX6_digestOfChanges_39 ?_
      refine lv_aload_n hx hb dX6_digestOfChanges_40 rfl (lv_at hl 4 rfl) ?_
      refine lv_aload hx hb dX6_digestOfChanges_41 (lv_at hl 2 rfl) ?_
      refine lv_iload hx hb dX6_digestOfChanges_43 (lv_at hl 0 rfl) ?_
      refine tg_calli (va_runV (As := [.ref (ad (40 + 3 * k)), .int 4]) (rest := [.long ((dgS (dgS (dgS (dgS d (nI ((ixs v k).length))) (nI ((samp v k).length))) (wAt (samp v k) (((samp v k).length - 1) / 2))) (wAt (samp v k) 0)) * 31)]) (Ts := []) ⟨hx, hb, hml, hown, fun _ h9 => absurd h9 List.not_mem_nil⟩ (co_changeFact4 l E _ ad v G_7 hI hS k (by omega)) (rc_cwV hAm qw_573 qw_1 qw_576 qw_575 qs_34 rfl rfl hd_X6_changeFact ⟨Nat.le_of_ble_eq_true rfl, Nat.le_of_ble_eq_true rfl⟩) (tg_preV hAm hA hw hco (q := vwCl[7]) rfl) rfl rfl hl.1 rfl (lv_room (Nat.le_of_ble_eq_true rfl)) dX6_digestOfChanges_45 ⟨Nat.le_of_ble_eq_true rfl, Nat.le_of_ble_eq_true rfl⟩) hA hw (fun r_10 G_9 H locs hp hw => ?_)
      obtain ⟨hr9, hm15, hu⟩ := hp
      rw [hr9]
      have hS := scH_one hS hm15 hu
      have hco := (hu 8 (by omega)).trans hco
      have hlc := (hu 11 (by omega)).trans hlc
      have hrc := (hu 12 (by omega)).trans hrc
      have hc9 := (hu (40 + 3 * k) (by omega)).trans hc9
      have hI := hI.scr (fun t9 h9 => hu t9 (by omega))
      have HO := fun (t9 : Nat) (h9 : t9 < 15 ∨ 31 ≤ t9) => (hu t9 (by omega)).trans (HO t9 h9)
      refine lv_i2l (v := ((wAt (samp v k) ((samp v k).length - 1))).toInt64) hx hb dX6_digestOfChanges_48 rfl ?_
      refine lv_ladd hx hb dX6_digestOfChanges_49 ?_
      refine rc_topl (dgS (dgS (dgS (dgS (dgS d (nI ((ixs v k).length))) (nI ((samp v k).length))) (wAt (samp v k) (((samp v k).length - 1) / 2))) (wAt (samp v k) 0)) (wAt (samp v k) ((samp v k).length - 1))) rfl ?_
      refine lv_lstore_n (lv' := [(1, .long (dgS (dgS (dgS (dgS (dgS d (nI ((ixs v k).length))) (nI ((samp v k).length))) (wAt (samp v k) (((samp v k).length - 1) / 2))) (wAt (samp v k) 0)) (wAt (samp v k) ((samp v k).length - 1)))), (5, .int 4), (4, .ref (ad (40 + 3 * k))), (3, .int (nI k)), (0, .ref (ad 8))]) hx hb dX6_digestOfChanges_50 rfl hl (by decide) rfl (fun ls hl => ?_)
      refine lv_iinc (v := 5) (lv' := [(5, .int 5), (1, .long (dgS (dgS (dgS (dgS (dgS d (nI ((ixs v k).length))) (nI ((samp v k).length))) (wAt (samp v k) (((samp v k).length - 1) / 2))) (wAt (samp v k) 0)) (wAt (samp v k) ((samp v k).length - 1)))), (4, .ref (ad (40 + 3 * k))), (3, .int (nI k)), (0, .ref (ad 8))]) hx hb dX6_digestOfChanges_51 hl (k := 1) rfl (by decide) (by decide) rfl (fun ls hl => ?_)
      refine lv_goto (tgt := 29) hx hb dX6_digestOfChanges_54 (by decide) ?_
      refine lv_iload hx hb dX6_digestOfChanges_29 (lv_at hl 0 rfl) ?_
      refine lv_iconst (v := 5) hx hb dX6_digestOfChanges_31 (by decide) ?_
      refine lv_icmp_gt (tgt := 57) hx hb dX6_digestOfChanges_32 (by decide) (fun c9 => absurd c9 (by decide)) (fun _ => ?_)
      refine lv_lload_n hx hb dX6_digestOfChanges_35 rfl (lv_at hl 1 rfl) ?_
      refine lv_ldc2 (v := 31) hx hb hown (hAm.wd qw_542 rfl rfl) dX6_digestOfChanges_36 ?_
      refine lv_lmul hx hb dX6_digestOfChanges_39 ?_
      refine lv_aload_n hx hb dX6_digestOfChanges_40 rfl (lv_at hl 4 rfl) ?_
      refine lv_aload hx hb dX6_digestOfChanges_41 (lv_at hl 2 rfl) ?_
      refine lv_iload hx hb dX6_digestOfChanges_43 (lv_at hl 0 rfl) ?_
      refine tg_calli (va_runV (As := [.ref (ad (40 + 3 * k)), .int 5]) (rest := [.long ((dgS (dgS (dgS (dgS (dgS d (nI ((ixs v k).length))) (nI ((samp v k).length))) (wAt (samp v k) (((samp v k).length - 1) / 2))) (wAt (samp v k) 0)) (wAt (samp v k) ((samp v k).length - 1))) * 31)]) (Ts := []) ⟨hx, hb, hml, hown, fun _ h9 => absurd h9 List.not_mem_nil⟩ (co_changeFact5 l E _ ad v G_9 hI hS k (by omega)) (rc_cwV hAm qw_573 qw_1 qw_576 qw_575 qs_34 rfl rfl hd_X6_changeFact ⟨Nat.le_of_ble_eq_true rfl, Nat.le_of_ble_eq_true rfl⟩) (tg_preV hAm hA hw hco (q := vwCl[7]) rfl) rfl rfl hl.1 rfl (lv_room (Nat.le_of_ble_eq_true rfl)) dX6_digestOfChanges_45 ⟨Nat.le_of_ble_eq_true rfl, Nat.le_of_ble_eq_true rfl⟩) hA hw (fun r_12 G_11 H locs hp hw => ?_)
      obtain ⟨hr9, hm15, hu⟩ := hp
      rw [hr9]
      have hS := scH_one hS hm15 hu
      have hco := (hu 8 (by omega)).trans hco
      have hlc := (hu 11 (by omega)).trans hlc
      have hrc := (hu 12 (by omega)).trans hrc
      have hc9 := (hu (40 + 3 * k) (by omega)).trans hc9
      have hI := hI.scr (fun t9 h9 => hu t9 (by omega))
      have HO := fun (t9 : Nat) (h9 : t9 < 15 ∨ 31 ≤ t9) => (hu t9 (by omega)).trans (HO t9 h9)
      refine lv_i2l (v := ((chE v k)).toInt64) hx hb dX6_digestOfChanges_48 rfl ?_
      refine lv_ladd hx hb dX6_digestOfChanges_49 ?_
      refine rc_topl (dgS (dgS (dgS (dgS (dgS (dgS d (nI ((ixs v k).length))) (nI ((samp v k).length))) (wAt (samp v k) (((samp v k).length - 1) / 2))) (wAt (samp v k) 0)) (wAt (samp v k) ((samp v k).length - 1))) (chE v k)) rfl ?_
      refine lv_lstore_n (lv' := [(1, .long (dgS (dgS (dgS (dgS (dgS (dgS d (nI ((ixs v k).length))) (nI ((samp v k).length))) (wAt (samp v k) (((samp v k).length - 1) / 2))) (wAt (samp v k) 0)) (wAt (samp v k) ((samp v k).length - 1))) (chE v k))), (5, .int 5), (4, .ref (ad (40 + 3 * k))), (3, .int (nI k)), (0, .ref (ad 8))]) hx hb dX6_digestOfChanges_50 rfl hl (by decide) rfl (fun ls hl => ?_)
      refine lv_iinc (v := 6) (lv' := [(5, .int 6), (1, .long (dgS (dgS (dgS (dgS (dgS (dgS d (nI ((ixs v k).length))) (nI ((samp v k).length))) (wAt (samp v k) (((samp v k).length - 1) / 2))) (wAt (samp v k) 0)) (wAt (samp v k) ((samp v k).length - 1))) (chE v k))), (4, .ref (ad (40 + 3 * k))), (3, .int (nI k)), (0, .ref (ad 8))]) hx hb dX6_digestOfChanges_51 hl (k := 1) rfl (by decide) (by decide) rfl (fun ls hl => ?_)
      refine lv_goto (tgt := 29) hx hb dX6_digestOfChanges_54 (by decide) ?_
      refine lv_iload hx hb dX6_digestOfChanges_29 (lv_at hl 0 rfl) ?_
      refine lv_iconst (v := 5) hx hb dX6_digestOfChanges_31 (by decide) ?_
      refine lv_icmp_gt (tgt := 57) hx hb dX6_digestOfChanges_32 (by decide) (fun _ => ?_) (fun c9 => absurd (by decide) c9)
      refine lv_lload_n hx hb dX6_digestOfChanges_57 rfl (lv_at hl 1 rfl) ?_
      refine lv_ldc2 (v := 31) hx hb hown (hAm.wd qw_542 rfl rfl) dX6_digestOfChanges_58 ?_
      refine lv_lmul hx hb dX6_digestOfChanges_61 ?_
      refine lv_aload_n hx hb dX6_digestOfChanges_62 rfl (lv_at hl 4 rfl) ?_
      refine lv_aload hx hb dX6_digestOfChanges_63 (lv_at hl 2 rfl) ?_
      refine tg_callRi (va_runV (As := [.ref (ad (40 + 3 * k))]) (rest := [.long ((dgS (dgS (dgS (dgS (dgS (dgS d (nI ((ixs v k).length))) (nI ((samp v k).length))) (wAt (samp v k) (((samp v k).length - 1) / 2))) (wAt (samp v k) 0)) (wAt (samp v k) ((samp v k).length - 1))) (chE v k)) * 31)]) (Ts := []) ⟨hx, hb, hml, hown, fun _ h9 => absurd h9 List.not_mem_nil⟩ (co_minutesToFill l E _ ad v G_11 hI k (by omega)) (rc_cwV hAm qw_578 qw_1 qw_581 qw_580 qs_35 rfl rfl hd_X6_minutesToFill ⟨Nat.le_of_ble_eq_true rfl, Nat.le_of_ble_eq_true rfl⟩) (tg_preV hAm hA hw hco (q := vwCl[7]) rfl) rfl rfl hl.1 rfl (lv_room (Nat.le_of_ble_eq_true rfl)) dX6_digestOfChanges_65 ⟨Nat.le_of_ble_eq_true rfl, Nat.le_of_ble_eq_true rfl⟩) hA hw (fun H locs hw => ?_)
      refine lv_i2l (v := ((mtF v k)).toInt64) hx hb dX6_digestOfChanges_68 rfl ?_
      refine lv_ladd hx hb dX6_digestOfChanges_69 ?_
      refine rc_topl (dgS (dgS (dgS (dgS (dgS (dgS (dgS d (nI ((ixs v k).length))) (nI ((samp v k).length))) (wAt (samp v k) (((samp v k).length - 1) / 2))) (wAt (samp v k) 0)) (wAt (samp v k) ((samp v k).length - 1))) (chE v k)) (mtF v k)) rfl ?_
      refine lv_lstore_n (lv' := [(1, .long (dgS (dgS (dgS (dgS (dgS (dgS (dgS d (nI ((ixs v k).length))) (nI ((samp v k).length))) (wAt (samp v k) (((samp v k).length - 1) / 2))) (wAt (samp v k) 0)) (wAt (samp v k) ((samp v k).length - 1))) (chE v k)) (mtF v k))), (5, .int 6), (4, .ref (ad (40 + 3 * k))), (3, .int (nI k)), (0, .ref (ad 8))]) hx hb dX6_digestOfChanges_70 rfl hl (by decide) rfl (fun ls hl => ?_)
      refine lv_iinc (v := nI (k + 1)) (lv' := [(3, .int (nI (k + 1))), (1, .long (dgS (dgS (dgS (dgS (dgS (dgS (dgS d (nI ((ixs v k).length))) (nI ((samp v k).length))) (wAt (samp v k) (((samp v k).length - 1) / 2))) (wAt (samp v k) 0)) (wAt (samp v k) ((samp v k).length - 1))) (chE v k)) (mtF v k))), (5, .int 6), (4, .ref (ad (40 + 3 * k))), (0, .ref (ad 8))]) hx hb dX6_digestOfChanges_71 hl (k := 3) rfl (nI_1 _) (by decide) rfl (fun ls hl => ?_)
      refine lv_goto (tgt := 2) hx hb dX6_digestOfChanges_74 (by decide) ?_
      exact ih (k + 1) _ ls _ _ _ (by omega) (by subst hd; rfl) hI hS HO hw (lv_sub hl [0, 1, 4] rfl)
  refine lv_iconst (v := 0) hx hb dX6_digestOfChanges_0 (by decide) ?_
  refine lv_istore_n (lv' := [(3, .int 0), (0, .ref (ad 8)), (1, .long d0)]) hx hb dX6_digestOfChanges_1 rfl hl (by decide) rfl (fun ls hl => ?_)
  exact loop (6) 0 d0 ls G _ _ (by omega) rfl hI hS (fun _ _ => rfl) hw (lv_sub hl [0, 2, 1] rfl)
set_option maxHeartbeats 4000000 in
set_option maxRecDepth 100000 in
theorem dg_verdicts (l : Launch) (E : rc_E) (sz : Nat) (ad : Nat → Nat) (v : av_V) (G : tg_G) (hI : ssH E ad v G) (hS : scH E ad G) (d0 : Int64) : tg_M l yX6_digestOfVerdicts [Cond.code yX6_digestOfVerdicts cX6_digestOfVerdicts 5 (some FieldType.long)] { frames := 5, cells := 0, slots := 0, locals := 109 } E [.ref (ad 8), .long d0] G sz (tg_Ql E (fun r u => r = dgVR v d0 5 ∧ scH E ad u ∧ ∀ t9, t9 < 15 ∨ 31 ≤ t9 → u t9 = G t9)) 0 0 := by
  refine tg_in (cc := cX6_digestOfVerdicts) (maxL := 5) (ret := (some FieldType.long)) (tg_Ql E (fun r u => r = dgVR v d0 5 ∧ scH E ad u ∧ ∀ t9, t9 < 15 ∨ 31 ≤ t9 → u t9 = G t9)) (by decide) rfl (Nat.le_of_ble_eq_true rfl) ?_
  intro p e s m args below meth cd ls A hx hb hr hml hown hlocks hin hA hAm hw hl
  have hown : s.vm.findClass RX6 = some m.cls := hown
  have hl : lv_has ls 5 [(0, .ref (ad 8)), (1, .long d0)] := hl
  obtain ⟨h0, hco, ⟨hLm, hLc, hLr⟩, hbi, hma, hch, hru⟩ := id hI
  have hn60 := h0.1
  have loop : ∀ (r k : Nat) (d : Int64) (ls : Array Slot) (G1 : tg_G) (H : Heap) (locs : List Loc), k + r = 5 → d = dgVR v d0 k → ssH E ad v G1 → scH E ad G1 → (∀ t9, t9 < 15 ∨ 31 ≤ t9 → G1 t9 = G t9) → tg_W E A s G1 H locs → lv_has ls 5 [(3, .int (nI (k + 1))), (1, .long d), (0, .ref (ad 8))] → W p l e { frames := 5, cells := 0, slots := 0, locals := 109 } s m args below meth cd H locs 0 0 (MQ below ((tg_Ql E (fun r u => r = dgVR v d0 5 ∧ scH E ad u ∧ ∀ t9, t9 < 15 ∨ 31 ≤ t9 → u t9 = G t9)) A) args s 0 0 A) (F0 m 2 ls []) := by
    intro r
    induction r with
    | zero =>
      intro k d ls G1 H locs hk hd hI hS HO hw hl
      obtain ⟨-, hco, ⟨-, hLc, -⟩, hbi, hma, hch, hru⟩ := id hI
      obtain ⟨mc9, la9, hl9, -⟩ := id hLc
      refine lv_iload_n hx hb dX6_digestOfVerdicts_2 rfl (lv_at hl 0 rfl) ?_
      refine lv_aload_n hx hb dX6_digestOfVerdicts_3 rfl (lv_at hl 2 rfl) ?_
      refine tg_get (v := .ref (ad 11)) hx hb hown hAm hw lyX6 hco rfl 1 (by decide) qw_226 (fun _ h9 => h9) rfl dX6_digestOfVerdicts_4 ?_
      refine tg_callRi (va_runV (As := []) (rest := [.int (nI (k + 1))]) (Ts := []) ⟨hx, hb, hml, hown, fun _ h9 => absurd h9 List.not_mem_nil⟩ (lf_size l E _ G1 (n := 6) hl9) (rc_cwV hAm qw_343 qw_4 qw_346 qw_344 qw_345 rfl rfl hd_Jx4a65c_size_8abf5 ⟨Nat.le_of_ble_eq_true rfl, Nat.le_of_ble_eq_true rfl⟩) (tg_preV hAm hA hw hl9 (q := vwCl[0]) rfl) rfl rfl hl.1 rfl (lv_room (Nat.le_of_ble_eq_true rfl)) dX6_digestOfVerdicts_7 ⟨Nat.le_of_ble_eq_true rfl, Nat.le_of_ble_eq_true rfl⟩) hA hw (fun H locs hw => ?_)
      refine lv_icmp_ge (tgt := 56) hx hb dX6_digestOfVerdicts_10 (by decide) (fun _ => ?_) (fun c9 => absurd ((nI_leI (a := 6) (b := k + 1) (by omega) (by omega)).mpr (by omega)) c9)
      refine lv_lload_n hx hb dX6_digestOfVerdicts_56 rfl (lv_at hl 1 rfl) ?_
      exact tg_lret hx hb hr hlocks hw (⟨by rw [hd, show 5 = k by omega], hS, HO⟩) (Nat.le_of_ble_eq_true rfl) (Nat.le_of_ble_eq_true rfl) dX6_digestOfVerdicts_57
    | succ r ih =>
      intro k d ls G1 H locs hk hd hI hS HO hw hl
      obtain ⟨-, hco, ⟨-, hLc, -⟩, hbi, hma, hch, hru⟩ := id hI
      obtain ⟨mcc, lac, capc, fc, hlc, hrc, hpc, hqc, hfc⟩ := ltH.pos hLc (by omega)

      refine lv_iload_n hx hb dX6_digestOfVerdicts_2 rfl (lv_at hl 0 rfl) ?_
      refine lv_aload_n hx hb dX6_digestOfVerdicts_3 rfl (lv_at hl 2 rfl) ?_
      refine tg_get (v := .ref (ad 11)) hx hb hown hAm hw lyX6 hco rfl 1 (by decide) qw_226 (fun _ h9 => h9) rfl dX6_digestOfVerdicts_4 ?_
      refine tg_callRi (va_runV (As := []) (rest := [.int (nI (k + 1))]) (Ts := []) ⟨hx, hb, hml, hown, fun _ h9 => absurd h9 List.not_mem_nil⟩ (lf_size l E _ G1 (n := 6) hlc) (rc_cwV hAm qw_343 qw_4 qw_346 qw_344 qw_345 rfl rfl hd_Jx4a65c_size_8abf5 ⟨Nat.le_of_ble_eq_true rfl, Nat.le_of_ble_eq_true rfl⟩) (tg_preV hAm hA hw hlc (q := vwCl[0]) rfl) rfl rfl hl.1 rfl (lv_room (Nat.le_of_ble_eq_true rfl)) dX6_digestOfVerdicts_7 ⟨Nat.le_of_ble_eq_true rfl, Nat.le_of_ble_eq_true rfl⟩) hA hw (fun H locs hw => ?_)
      refine lv_icmp_ge (tgt := 56) hx hb dX6_digestOfVerdicts_10 (by decide) (fun c9 => absurd c9 (fun z9 => absurd ((nI_leI (a := 6) (b := k + 1) (by omega) (by omega)).mp z9) (by omega))) (fun _ => ?_)
      refine lv_aload_n hx hb dX6_digestOfVerdicts_13 rfl (lv_at hl 2 rfl) ?_
      refine lv_iload_n hx hb dX6_digestOfVerdicts_14 rfl (lv_at hl 0 rfl) ?_
      refine lv_iconst (v := 1) hx hb dX6_digestOfVerdicts_15 (by decide) ?_
      refine lv_isub hx hb dX6_digestOfVerdicts_16 ?_
      refine rc_topi (nI k) (nI_pred _) ?_
      refine lv_iload_n hx hb dX6_digestOfVerdicts_17 rfl (lv_at hl 0 rfl) ?_
      refine tg_callv (va_runV (As := [.int (nI k), .int (nI (k + 1))]) (rest := []) (Ts := []) ⟨hx, hb, hml, hown, fun _ h9 => absurd h9 List.not_mem_nil⟩ (co_meet l E _ ad v G1 hI hS k (k + 1) (by omega) (by omega)) (rc_cwV hAm qw_424 qw_1 qw_427 qw_426 qs_7 rfl rfl hd_X6_meet ⟨Nat.le_of_ble_eq_true rfl, Nat.le_of_ble_eq_true rfl⟩) (tg_preV hAm hA hw hco (q := vwCl[7]) rfl) rfl rfl hl.1 rfl (lv_room (Nat.le_of_ble_eq_true rfl)) dX6_digestOfVerdicts_18 ⟨Nat.le_of_ble_eq_true rfl, Nat.le_of_ble_eq_true rfl⟩) hA hw (fun G_1 H locs hp hw => ?_)
      obtain ⟨hD, hu⟩ := hp
      have hS := scH_meet hS hD hu
      have hco := (hu 8 (by omega)).trans hco
      have hlc := (hu 11 (by omega)).trans hlc
      have hrc := (hu 12 (by omega)).trans hrc
      have hI := hI.scr (fun t9 h9 => hu t9 (by omega))
      have HO := fun (t9 : Nat) (h9 : t9 < 15 ∨ 31 ≤ t9) => (hu t9 (by omega)).trans (HO t9 h9)
      refine lv_iconst (v := 0) hx hb dX6_digestOfVerdicts_21 (by decide) ?_
      refine lv_istore (lv' := [(4, .int 0), (3, .int (nI (k + 1))), (1, .long d), (0, .ref (ad 8))]) hx hb dX6_digestOfVerdicts_22 hl (by decide) rfl (fun ls hl => ?_)
      refine lv_iload hx hb dX6_digestOfVerdicts_24 (lv_at hl 0 rfl) ?_
      refine lv_iconst (v := 4) hx hb dX6_digestOfVerdicts_26 (by decide) ?_
      refine lv_icmp_gt (tgt := 50) hx hb dX6_digestOfVerdicts_27 (by decide) (fun c9 => absurd c9 (by decide)) (fun _ => ?_)
      refine lv_lload_n hx hb dX6_digestOfVerdicts_30 rfl (lv_at hl 2 rfl) ?_
      refine lv_ldc2 (v := 31) hx hb hown (hAm.wd qw_542 rfl rfl) dX6_digestOfVerdicts_31 ?_
      refine lv_lmul hx hb dX6_digestOfVerdicts_34 ?_
      refine lv_aload_n hx hb dX6_digestOfVerdicts_35 rfl (lv_at hl 3 rfl) ?_
      refine lv_iload hx hb dX6_digestOfVerdicts_36 (lv_at hl 0 rfl) ?_
      refine tg_callRi (va_runV (As := [.int 0]) (rest := [.long (d * 31)]) (Ts := []) ⟨hx, hb, hml, hown, fun _ h9 => absurd h9 List.not_mem_nil⟩ (co_duelFact0 l E _ ad v G_1 hI hD) (rc_cwV hAm qw_602 qw_1 qw_605 qw_604 qs_41 rfl rfl hd_X6_duelFact ⟨Nat.le_of_ble_eq_true rfl, Nat.le_of_ble_eq_true rfl⟩) (tg_preV hAm hA hw hco (q := vwCl[7]) rfl) rfl rfl hl.1 rfl (lv_room (Nat.le_of_ble_eq_true rfl)) dX6_digestOfVerdicts_38 ⟨Nat.le_of_ble_eq_true rfl, Nat.le_of_ble_eq_true rfl⟩) hA hw (fun H locs hw => ?_)
      refine lv_i2l (v := ((nI (outD v (samp v k) (samp v (k + 1))))).toInt64) hx hb dX6_digestOfVerdicts_41 rfl ?_
      refine lv_ladd hx hb dX6_digestOfVerdicts_42 ?_
      refine rc_topl (dgS d (nI (outD v (samp v k) (samp v (k + 1))))) rfl ?_
      refine lv_lstore_n (lv' := [(1, .long (dgS d (nI (outD v (samp v k) (samp v (k + 1)))))), (4, .int 0), (3, .int (nI (k + 1))), (0, .ref (ad 8))]) hx hb dX6_digestOfVerdicts_43 rfl hl (by decide) rfl (fun ls hl => ?_)
      refine lv_iinc (v := 1) (lv' := [(4, .int 1), (1, .long (dgS d (nI (outD v (samp v k) (samp v (k + 1)))))), (3, .int (nI (k + 1))), (0, .ref (ad 8))]) hx hb dX6_digestOfVerdicts_44 hl (k := 1) rfl (by decide) (by decide) rfl (fun ls hl => ?_)
      refine lv_goto (tgt := 24) hx hb dX6_digestOfVerdicts_47 (by decide) ?_
      refine lv_iload hx hb dX6_digestOfVerdicts_24 (lv_at hl 0 rfl) ?_
      refine lv_iconst (v := 4) hx hb dX6_digestOfVerdicts_26 (by decide) ?_
      refine lv_icmp_gt (tgt := 50) hx hb dX6_digestOfVerdicts_27 (by decide) (fun c9 => absurd c9 (by decide)) (fun _ => ?_)
      refine lv_lload_n hx hb dX6_digestOfVerdicts_30 rfl (lv_at hl 1 rfl) ?_
      refine lv_ldc2 (v := 31) hx hb hown (hAm.wd qw_542 rfl rfl) dX6_digestOfVerdicts_31 ?_
      refine lv_lmul hx hb dX6_digestOfVerdicts_34 ?_
      refine lv_aload_n hx hb dX6_digestOfVerdicts_35 rfl (lv_at hl 3 rfl) ?_
      refine lv_iload hx hb dX6_digestOfVerdicts_36 (lv_at hl 0 rfl) ?_
      refine tg_callRi (va_runV (As := [.int 1]) (rest := [.long ((dgS d (nI (outD v (samp v k) (samp v (k + 1))))) * 31)]) (Ts := []) ⟨hx, hb, hml, hown, fun _ h9 => absurd h9 List.not_mem_nil⟩ (co_duelFact1 l E _ ad v G_1 hI hD) (rc_cwV hAm qw_602 qw_1 qw_605 qw_604 qs_41 rfl rfl hd_X6_duelFact ⟨Nat.le_of_ble_eq_true rfl, Nat.le_of_ble_eq_true rfl⟩) (tg_preV hAm hA hw hco (q := vwCl[7]) rfl) rfl rfl hl.1 rfl (lv_room (Nat.le_of_ble_eq_true rfl)) dX6_digestOfVerdicts_38 ⟨Nat.le_of_ble_eq_true rfl, Nat.le_of_ble_eq_true rfl⟩) hA hw (fun H locs hw => ?_)
      refine lv_i2l (v := ((scI (samp v k) (samp v (k + 1)))).toInt64) hx hb dX6_digestOfVerdicts_41 rfl ?_
      refine lv_ladd hx hb dX6_digestOfVerdicts_42 ?_
      refine rc_topl (dgS (dgS d (nI (outD v (samp v k) (samp v (k + 1))))) (scI (samp v k) (samp v (k + 1)))) rfl ?_
      refine lv_lstore_n (lv' := [(1, .long (dgS (dgS d (nI (outD v (samp v k) (samp v (k + 1))))) (scI (samp v k) (samp v (k + 1))))), (4, .int 1), (3, .int (nI (k + 1))), (0, .ref (ad 8))]) hx hb dX6_digestOfVerdicts_43 rfl hl (by decide) rfl (fun ls hl => ?_)
      refine lv_iinc (v := 2) (lv' := [(4, .int 2), (1, .long (dgS (dgS d (nI (outD v (samp v k) (samp v (k + 1))))) (scI (samp v k) (samp v (k + 1))))), (3, .int (nI (k + 1))), (0, .ref (ad 8))]) hx hb dX6_digestOfVerdicts_44 hl (k := 1) rfl (by decide) (by decide) rfl (fun ls hl => ?_)
      refine lv_goto (tgt := 24) hx hb dX6_digestOfVerdicts_47 (by decide) ?_
      refine lv_iload hx hb dX6_digestOfVerdicts_24 (lv_at hl 0 rfl) ?_
      refine lv_iconst (v := 4) hx hb dX6_digestOfVerdicts_26 (by decide) ?_
      refine lv_icmp_gt (tgt := 50) hx hb dX6_digestOfVerdicts_27 (by decide) (fun c9 => absurd c9 (by decide)) (fun _ => ?_)
      refine lv_lload_n hx hb dX6_digestOfVerdicts_30 rfl (lv_at hl 1 rfl) ?_
      refine lv_ldc2 (v := 31) hx hb hown (hAm.wd qw_542 rfl rfl) dX6_digestOfVerdicts_31 ?_
      refine lv_lmul hx hb dX6_digestOfVerdicts_34 ?_
      refine lv_aload_n hx hb dX6_digestOfVerdicts_35 rfl (lv_at hl 3 rfl) ?_
      refine lv_iload hx hb dX6_digestOfVerdicts_36 (lv_at hl 0 rfl) ?_
      refine tg_callRi (va_runV (As := [.int 2]) (rest := [.long ((dgS (dgS d (nI (outD v (samp v k) (samp v (k + 1))))) (scI (samp v k) (samp v (k + 1)))) * 31)]) (Ts := []) ⟨hx, hb, hml, hown, fun _ h9 => absurd h9 List.not_mem_nil⟩ (co_duelFact2 l E _ ad v G_1 hI hD) (rc_cwV hAm qw_602 qw_1 qw_605 qw_604 qs_41 rfl rfl hd_X6_duelFact ⟨Nat.le_of_ble_eq_true rfl, Nat.le_of_ble_eq_true rfl⟩) (tg_preV hAm hA hw hco (q := vwCl[7]) rfl) rfl rfl hl.1 rfl (lv_room (Nat.le_of_ble_eq_true rfl)) dX6_digestOfVerdicts_38 ⟨Nat.le_of_ble_eq_true rfl, Nat.le_of_ble_eq_true rfl⟩) hA hw (fun H locs hw => ?_)
      refine lv_i2l (v := ((nI (hiN (samp v k) (samp v (k + 1))))).toInt64) hx hb dX6_digestOfVerdicts_41 rfl ?_
      refine lv_ladd hx hb dX6_digestOfVerdicts_42 ?_
      refine rc_topl (dgS (dgS (dgS d (nI (outD v (samp v k) (samp v (k + 1))))) (scI (samp v k) (samp v (k + 1)))) (nI (hiN (samp v k) (samp v (k + 1))))) rfl ?_
      refine lv_lstore_n (lv' := [(1, .long (dgS (dgS (dgS d (nI (outD v (samp v k) (samp v (k + 1))))) (scI (samp v k) (samp v (k + 1)))) (nI (hiN (samp v k) (samp v (k + 1)))))), (4, .int 2), (3, .int (nI (k + 1))), (0, .ref (ad 8))]) hx hb dX6_digestOfVerdicts_43 rfl hl (by decide) rfl (fun ls hl => ?_)
      refine lv_iinc (v := 3) (lv' := [(4, .int 3), (1, .long (dgS (dgS (dgS d (nI (outD v (samp v k) (samp v (k + 1))))) (scI (samp v k) (samp v (k + 1)))) (nI (hiN (samp v k) (samp v (k + 1)))))), (3, .int (nI (k + 1))), (0, .ref (ad 8))]) hx hb dX6_digestOfVerdicts_44 hl (k := 1) rfl (by decide) (by decide) rfl (fun ls hl => ?_)
      refine lv_goto (tgt := 24) hx hb dX6_digestOfVerdicts_47 (by decide) ?_
      refine lv_iload hx hb dX6_digestOfVerdicts_24 (lv_at hl 0 rfl) ?_
      refine lv_iconst (v := 4) hx hb dX6_digestOfVerdicts_26 (by decide) ?_
      refine lv_icmp_gt (tgt := 50) hx hb dX6_digestOfVerdicts_27 (by decide) (fun c9 => absurd c9 (by decide)) (fun _ => ?_)
      refine lv_lload_n hx hb dX6_digestOfVerdicts_30 rfl (lv_at hl 1 rfl) ?_
      refine lv_ldc2 (v := 31) hx hb hown (hAm.wd qw_542 rfl rfl) dX6_digestOfVerdicts_31 ?_
      refine lv_lmul hx hb dX6_digestOfVerdicts_34 ?_
      refine lv_aload_n hx hb dX6_digestOfVerdicts_35 rfl (lv_at hl 3 rfl) ?_
      refine lv_iload hx hb dX6_digestOfVerdicts_36 (lv_at hl 0 rfl) ?_
      refine tg_callRi (va_runV (As := [.int 3]) (rest := [.long ((dgS (dgS (dgS d (nI (outD v (samp v k) (samp v (k + 1))))) (scI (samp v k) (samp v (k + 1)))) (nI (hiN (samp v k) (samp v (k + 1))))) * 31)]) (Ts := []) ⟨hx, hb, hml, hown, fun _ h9 => absurd h9 List.not_mem_nil⟩ (co_duelFact3 l E _ ad v G_1 hI hD) (rc_cwV hAm qw_602 qw_1 qw_605 qw_604 qs_41 rfl rfl hd_X6_duelFact ⟨Nat.le_of_ble_eq_true rfl, Nat.le_of_ble_eq_true rfl⟩) (tg_preV hAm hA hw hco (q := vwCl[7]) rfl) rfl rfl hl.1 rfl (lv_room (Nat.le_of_ble_eq_true rfl)) dX6_digestOfVerdicts_38 ⟨Nat.le_of_ble_eq_true rfl, Nat.le_of_ble_eq_true rfl⟩) hA hw (fun H locs hw => ?_)
      refine lv_i2l (v := ((nI (loN (samp v k) (samp v (k + 1))))).toInt64) hx hb dX6_digestOfVerdicts_41 rfl ?_
      refine lv_ladd hx hb dX6_digestOfVerdicts_42 ?_
      refine rc_topl (dgS (dgS (dgS (dgS d (nI (outD v (samp v k) (samp v (k + 1))))) (scI (samp v k) (samp v (k + 1)))) (nI (hiN (samp v k) (samp v (k + 1))))) (nI (loN (samp v k) (samp v (k + 1))))) rfl ?_
      refine lv_lstore_n (lv' := [(1, .long (dgS (dgS (dgS (dgS d (nI (outD v (samp v k) (samp v (k + 1))))) (scI (samp v k) (samp v (k + 1)))) (nI (hiN (samp v k) (samp v (k + 1))))) (nI (loN (samp v k) (samp v (k + 1)))))), (4, .int 3), (3, .int (nI (k + 1))), (0, .ref (ad 8))]) hx hb dX6_digestOfVerdicts_43 rfl hl (by decide) rfl (fun ls hl => ?_)
      refine lv_iinc (v := 4) (lv' := [(4, .int 4), (1, .long (dgS (dgS (dgS (dgS d (nI (outD v (samp v k) (samp v (k + 1))))) (scI (samp v k) (samp v (k + 1)))) (nI (hiN (samp v k) (samp v (k + 1))))) (nI (loN (samp v k) (samp v (k + 1)))))), (3, .int (nI (k + 1))), (0, .ref (ad 8))]) hx hb dX6_digestOfVerdicts_44 hl (k := 1) rfl (by decide) (by decide) rfl (fun ls hl => ?_)
      refine lv_goto (tgt := 24) hx hb dX6_digestOfVerdicts_47 (by decide) ?_
      refine lv_iload hx hb dX6_digestOfVerdicts_24 (lv_at hl 0 rfl) ?_
      refine lv_iconst (v := 4) hx hb dX6_digestOfVerdicts_26 (by decide) ?_
      refine lv_icmp_gt (tgt := 50) hx hb dX6_digestOfVerdicts_27 (by decide) (fun c9 => absurd c9 (by decide)) (fun _ => ?_)
      refine lv_lload_n hx hb dX6_digestOfVerdicts_30 rfl (lv_at hl 1 rfl) ?_
      refine lv_ldc2 (v := 31) hx hb hown (hAm.wd qw_542 rfl rfl) dX6_digestOfVerdicts_31 ?_
      refine lv_lmul hx hb dX6_digestOfVerdicts_34 ?_
      refine lv_aload_n hx hb dX6_digestOfVerdicts_35 rfl (lv_at hl 3 rfl) ?_
      refine lv_iload hx hb dX6_digestOfVerdicts_36 (lv_at hl 0 rfl) ?_
      refine tg_callRi (va_runV (As := [.int 4]) (rest := [.long ((dgS (dgS (dgS (dgS d (nI (outD v (samp v k) (samp v (k + 1))))) (scI (samp v k) (samp v (k + 1)))) (nI (hiN (samp v k) (samp v (k + 1))))) (nI (loN (samp v k) (samp v (k + 1))))) * 31)]) (Ts := []) ⟨hx, hb, hml, hown, fun _ h9 => absurd h9 List.not_mem_nil⟩ (co_duelFact4 l E _ ad v G_1 hI hD) (rc_cwV hAm qw_602 qw_1 qw_605 qw_604 qs_41 rfl rfl hd_X6_duelFact ⟨Nat.le_of_ble_eq_true rfl, Nat.le_of_ble_eq_true rfl⟩) (tg_preV hAm hA hw hco (q := vwCl[7]) rfl) rfl rfl hl.1 rfl (lv_room (Nat.le_of_ble_eq_true rfl)) dX6_digestOfVerdicts_38 ⟨Nat.le_of_ble_eq_true rfl, Nat.le_of_ble_eq_true rfl⟩) hA hw (fun H locs hw => ?_)
      refine lv_i2l (v := ((nI (alN (samp v k) (samp v (k + 1))))).toInt64) hx hb dX6_digestOfVerdicts_41 rfl ?_
      refine lv_ladd hx hb dX6_digestOfVerdicts_42 ?_
      refine rc_topl (dgS (dgS (dgS (dgS (dgS d (nI (outD v (samp v k) (samp v (k + 1))))) (scI (samp v k) (samp v (k + 1)))) (nI (hiN (samp v k) (samp v (k + 1))))) (nI (loN (samp v k) (samp v (k + 1))))) (nI (alN (samp v k) (samp v (k + 1))))) rfl ?_
      refine lv_lstore_n (lv' := [(1, .long (dgS (dgS (dgS (dgS (dgS d (nI (outD v (samp v k) (samp v (k + 1))))) (scI (samp v k) (samp v (k + 1)))) (nI (hiN (samp v k) (samp v (k + 1))))) (nI (loN (samp v k) (samp v (k + 1))))) (nI (alN (samp v k) (samp v (k + 1)))))), (4, .int 4), (3, .int (nI (k + 1))), (0, .ref (ad 8))]) hx hb dX6_digestOfVerdicts_43 rfl hl (by decide) rfl (fun ls hl => ?_)
      refine lv_iinc (v := 5) (lv' := [(4, .int 5), (1, .long (dgS (dgS (dgS (dgS (dgS d (nI (outD v (samp v k) (samp v (k + 1))))) (scI (samp v k) (samp v (k + 1)))) (nI (hiN (samp v k) (samp v (k + 1))))) (nI (loN (samp v k) (samp v (k + 1))))) (nI (alN (samp v k) (samp v (k + 1)))))), (3, .int (nI (k + 1))), (0, .ref (ad 8))]) hx hb dX6_digestOfVerdicts_44 hl (k := 1) rfl (by decide) (by decide) rfl (fun ls hl => ?_)
      refine lv_goto (tgt := 24) hx hb dX6_digestOfVerdicts_47 (by decide) ?_
      refine lv_iload hx hb dX6_digestOfVerdicts_24 (lv_at hl 0 rfl) ?_
      refine lv_iconst (v := 4) hx hb dX6_digestOfVerdicts_26 (by decide) ?_
      refine lv_icmp_gt (tgt := 50) hx hb dX6_digestOfVerdicts_27 (by decide) (fun _ => ?_) (fun c9 => absurd (by decide) c9)
      refine lv_iinc (v := nI (k + 1 + 1)) (lv' := [(3, .int (nI (k + 1 + 1))), (4, .int 5), (1, .long (dgS (dgS (dgS (dgS (dgS d (nI (outD v (samp v k) (samp v (k + 1))))) (scI (samp v k) (samp v (k + 1)))) (nI (hiN (samp v k) (samp v (k + 1))))) (nI (loN (samp v k) (samp v (k + 1))))) (nI (alN (samp v k) (samp v (k + 1)))))), (0, .ref (ad 8))]) hx hb dX6_digestOfVerdicts_50 hl (k := 2) rfl (nI_1 _) (by decide) rfl (fun ls hl => ?_)
      refine lv_goto (tgt := 2) hx hb dX6_digestOfVerdicts_53 (by decide) ?_
      exact ih (k + 1) _ ls _ _ _ (by omega) (by subst hd; rfl) hI hS HO hw (lv_sub hl [0, 2, 3] rfl)
  refine lv_iconst (v := 1) hx hb dX6_digestOfVerdicts_0 (by decide) ?_
  refine lv_istore_n (lv' := [(3, .int 1), (0, .ref (ad 8)), (1, .long d0)]) hx hb dX6_digestOfVerdicts_1 rfl hl (by decide) rfl (fun ls hl => ?_)
  exact loop (5) 0 d0 ls G _ _ (by omega) rfl hI hS (fun _ _ => rfl) hw (lv_sub hl [0, 2, 1] rfl)
def digF (v : av_V) : Int64 := dgS (dgS (dgS (dgS (dgS (dgVR v (dgRR v (dgCR v (dgMR v (dgS (dgS (dgS (dgS (dgS (dgS (dgS (dgS (dgS 5750 (nI 2)) (nI 6)) (nI (vn v))) (nI (smR (fun k => cK v k) (vn v)))) (nI (vN v 2))) (nI (vN v 3))) (nI (vN v 4))) (nI (smR (fun c => bN (vC v c).1) 6))) (nI (smR (fun j => bN (vMI v j 7)) 2))) 2) 6) (vn v)) 5) (vI v 2)) (vI v 3)) (vI v 4)) (vI v 0)) (nI (wm v 6 (vN v 4)))
theorem hd_X6_digestOfMachines : yX6_digestOfMachines.cls ≠ "java/lang/invoke/MethodHandle" ∧ yX6_digestOfMachines.cls ≠ "java/lang/invoke/VarHandle" ∧ (parseMethodDescriptor yX6_digestOfMachines.desc).map (fun d => d.parameters.length) = some 1 := by decide +kernel
theorem hd_X6_digestOfChanges : yX6_digestOfChanges.cls ≠ "java/lang/invoke/MethodHandle" ∧ yX6_digestOfChanges.cls ≠ "java/lang/invoke/VarHandle" ∧ (parseMethodDescriptor yX6_digestOfChanges.desc).map (fun d => d.parameters.length) = some 1 := by decide +kernel
theorem hd_X6_digestOfRuns : yX6_digestOfRuns.cls ≠ "java/lang/invoke/MethodHandle" ∧ yX6_digestOfRuns.cls ≠ "java/lang/invoke/VarHandle" ∧ (parseMethodDescriptor yX6_digestOfRuns.desc).map (fun d => d.parameters.length) = some 1 := by decide +kernel
theorem hd_X6_digestOfVerdicts : yX6_digestOfVerdicts.cls ≠ "java/lang/invoke/MethodHandle" ∧ yX6_digestOfVerdicts.cls ≠ "java/lang/invoke/VarHandle" ∧ (parseMethodDescriptor yX6_digestOfVerdicts.desc).map (fun d => d.parameters.length) = some 1 := by decide +kernel
theorem hd_X6_wouldMove : yX6_wouldMove.cls ≠ "java/lang/invoke/MethodHandle" ∧ yX6_wouldMove.cls ≠ "java/lang/invoke/VarHandle" ∧ (parseMethodDescriptor yX6_wouldMove.desc).map (fun d => d.parameters.length) = some 0 := by decide +kernel
set_option maxHeartbeats 4000000 in
set_option maxRecDepth 100000 in
theorem pu_digest (l : Launch) (E : rc_E) (sz : Nat) (ad : Nat → Nat) (v : av_V) (G : tg_G) (hI : ssH E ad v G) (hS : scH E ad G) : tg_M l yX6_digest [Cond.code yX6_digest cX6_digest 4 (some FieldType.long)] { frames := 7, cells := 0, slots := 0, locals := 152 } E [.ref (ad 8)] G sz (tg_Ql E (fun r u => r = digF v ∧ scH E ad u ∧ ∀ t9, t9 < 15 ∨ 31 ≤ t9 → u t9 = G t9)) 0 0 := by
  refine tg_in (cc := cX6_digest) (maxL := 4) (ret := (some FieldType.long)) (tg_Ql E (fun r u => r = digF v ∧ scH E ad u ∧ ∀ t9, t9 < 15 ∨ 31 ≤ t9 → u t9 = G t9)) (by decide) rfl (Nat.le_of_ble_eq_true rfl) ?_
  intro p e s m args below meth cd ls A hx hb hr hml hown hlocks hin hA hAm hw hl
  have hown : s.vm.findClass RX6 = some m.cls := hown
  have hl : lv_has ls 4 [(0, .ref (ad 8))] := hl
  obtain ⟨h0, hco, ⟨hLm, hLc, hLr⟩, hbi, hma, hch, hru⟩ := id hI
  have hn60 := h0.1
  have HO := fun (t9 : Nat) (_ : t9 < 15 ∨ 31 ≤ t9) => (rfl : G t9 = G t9)
  refine lv_ldc2 (v := 5750) hx hb hown (hAm.wd qw_541 rfl rfl) dX6_digest_0 ?_
  refine lv_lstore_n (lv' := [(1, .long 5750), (0, .ref (ad 8))]) hx hb dX6_digest_3 rfl hl (by decide) rfl (fun ls hl => ?_)
  refine lv_iconst (v := 0) hx hb dX6_digest_4 (by decide) ?_
  refine lv_istore_n (lv' := [(3, .int 0), (1, .long 5750), (0, .ref (ad 8))]) hx hb dX6_digest_5 rfl hl (by decide) rfl (fun ls hl => ?_)
  refine lv_iload_n hx hb dX6_digest_6 rfl (lv_at hl 0 rfl) ?_
  refine lv_bipush (v := 8) hx hb dX6_digest_7 (by decide) ?_
  refine lv_icmp_gt (tgt := 31) hx hb dX6_digest_9 (by decide) (fun c9 => absurd c9 (by decide)) (fun _ => ?_)
  refine lv_lload_n hx hb dX6_digest_12 rfl (lv_at hl 1 rfl) ?_
  refine lv_ldc2 (v := 31) hx hb hown (hAm.wd qw_542 rfl rfl) dX6_digest_13 ?_
  refine lv_lmul hx hb dX6_digest_16 ?_
  refine rc_topl 178250 (by decide) ?_
  refine lv_aload_n hx hb dX6_digest_17 rfl (lv_at hl 2 rfl) ?_
  refine lv_iload_n hx hb dX6_digest_18 rfl (lv_at hl 0 rfl) ?_
  refine tg_callRi (va_runV (As := [.int 0]) (rest := [.long 178250]) (Ts := []) ⟨hx, hb, hml, hown, fun _ h9 => absurd h9 List.not_mem_nil⟩ (co_courtFact0 l E _ ad v G hI) (rc_cwV hAm qw_516 qw_1 qw_519 qw_518 qs_24 rfl rfl hd_X6_courtFact ⟨Nat.le_of_ble_eq_true rfl, Nat.le_of_ble_eq_true rfl⟩) (tg_preV hAm hA hw hco (q := vwCl[7]) rfl) rfl rfl hl.1 rfl (lv_room (Nat.le_of_ble_eq_true rfl)) dX6_digest_19 ⟨Nat.le_of_ble_eq_true rfl, Nat.le_of_ble_eq_true rfl⟩) hA hw (fun H locs hw => ?_)
  refine lv_i2l (v := ((nI 2)).toInt64) hx hb dX6_digest_22 rfl ?_
  refine lv_ladd hx hb dX6_digest_23 ?_
  refine rc_topl (dgS 5750 (nI 2)) rfl ?_
  refine lv_lstore_n (lv' := [(1, .long (dgS 5750 (nI 2))), (3, .int 0), (0, .ref (ad 8))]) hx hb dX6_digest_24 rfl hl (by decide) rfl (fun ls hl => ?_)
  refine lv_iinc (v := 1) (lv' := [(3, .int 1), (1, .long (dgS 5750 (nI 2))), (0, .ref (ad 8))]) hx hb dX6_digest_25 hl (k := 1) rfl (by decide) (by decide) rfl (fun ls hl => ?_)
  refine lv_goto (tgt := 6) hx hb dX6_digest_28 (by decide) ?_
  refine lv_iload_n hx hb dX6_digest_6 rfl (lv_at hl 0 rfl) ?_
  refine lv_bipush (v := 8) hx hb dX6_digest_7 (by decide) ?_
  refine lv_icmp_gt (tgt := 31) hx hb dX6_digest_9 (by decide) (fun c9 => absurd c9 (by decide)) (fun _ => ?_)
  refine lv_lload_n hx hb dX6_digest_12 rfl (lv_at hl 1 rfl) ?_
  refine lv_ldc2 (v := 31) hx hb hown (hAm.wd qw_542 rfl rfl) dX6_digest_13 ?_
  refine lv_lmul hx hb dX6_digest_16 ?_
  refine lv_aload_n hx hb dX6_digest_17 rfl (lv_at hl 2 rfl) ?_
  refine lv_iload_n hx hb dX6_digest_18 rfl (lv_at hl 0 rfl) ?_
  refine tg_callRi (va_runV (As := [.int 1]) (rest := [.long ((dgS 5750 (nI 2)) * 31)]) (Ts := []) ⟨hx, hb, hml, hown, fun _ h9 => absurd h9 List.not_mem_nil⟩ (co_courtFact1 l E _ ad v G hI) (rc_cwV hAm qw_516 qw_1 qw_519 qw_518 qs_24 rfl rfl hd_X6_courtFact ⟨Nat.le_of_ble_eq_true rfl, Nat.le_of_ble_eq_true rfl⟩) (tg_preV hAm hA hw hco (q := vwCl[7]) rfl) rfl rfl hl.1 rfl (lv_room (Nat.le_of_ble_eq_true rfl)) dX6_digest_19 ⟨Nat.le_of_ble_eq_true rfl, Nat.le_of_ble_eq_true rfl⟩) hA hw (fun H locs hw => ?_)
  refine lv_i2l (v := ((nI 6)).toInt64) hx hb dX6_digest_22 rfl ?_
  refine lv_ladd hx hb dX6_digest_23 ?_
  refine rc_topl (dgS (dgS 5750 (nI 2)) (nI 6)) rfl ?_
  refine lv_lstore_n (lv' := [(1, .long (dgS (dgS 5750 (nI 2)) (nI 6))), (3, .int 1), (0, .ref (ad 8))]) hx hb dX6_digest_24 rfl hl (by decide) rfl (fun ls hl => ?_)
  refine lv_iinc (v := 2) (lv' := [(3, .int 2), (1, .long (dgS (dgS 5750 (nI 2)) (nI 6))), (0, .ref (ad 8))]) hx hb dX6_digest_25 hl (k := 1) rfl (by decide) (by decide) rfl (fun ls hl => ?_)
  refine lv_goto (tgt := 6) hx hb dX6_digest_28 (by decide) ?_
  refine lv_iload_n hx hb dX6_digest_6 rfl (lv_at hl 0 rfl) ?_
  refine lv_bipush (v := 8) hx hb dX6_digest_7 (by decide) ?_
  refine lv_icmp_gt (tgt := 31) hx hb dX6_digest_9 (by decide) (fun c9 => absurd c9 (by decide)) (fun _ => ?_)
  refine lv_lload_n hx hb dX6_digest_12 rfl (lv_at hl 1 rfl) ?_
  refine lv_ldc2 (v := 31) hx hb hown (hAm.wd qw_542 rfl rfl) dX6_digest_13 ?_
  refine lv_lmul hx hb dX6_digest_16 ?_
  refine lv_aload_n hx hb dX6_digest_17 rfl (lv_at hl 2 rfl) ?_
  refine lv_iload_n hx hb dX6_digest_18 rfl (lv_at hl 0 rfl) ?_
  refine tg_callRi (va_runV (As := [.int 2]) (rest := [.long ((dgS (dgS 5750 (nI 2)) (nI 6)) * 31)]) (Ts := []) ⟨hx, hb, hml, hown, fun _ h9 => absurd h9 List.not_mem_nil⟩ (co_courtFact2 l E _ ad v G hI) (rc_cwV hAm qw_516 qw_1 qw_519 qw_518 qs_24 rfl rfl hd_X6_courtFact ⟨Nat.le_of_ble_eq_true rfl, Nat.le_of_ble_eq_true rfl⟩) (tg_preV hAm hA hw hco (q := vwCl[7]) rfl) rfl rfl hl.1 rfl (lv_room (Nat.le_of_ble_eq_true rfl)) dX6_digest_19 ⟨Nat.le_of_ble_eq_true rfl, Nat.le_of_ble_eq_true rfl⟩) hA hw (fun H locs hw => ?_)
  refine lv_i2l (v := ((nI (vn v))).toInt64) hx hb dX6_digest_22 rfl ?_
  refine lv_ladd hx hb dX6_digest_23 ?_
  refine rc_topl (dgS (dgS (dgS 5750 (nI 2)) (nI 6)) (nI (vn v))) rfl ?_
  refine lv_lstore_n (lv' := [(1, .long (dgS (dgS (dgS 5750 (nI 2)) (nI 6)) (nI (vn v)))), (3, .int 2), (0, .ref (ad 8))]) hx hb dX6_digest_24 rfl hl (by decide) rfl (fun ls hl => ?_)
  refine lv_iinc (v := 3) (lv' := [(3, .int 3), (1, .long (dgS (dgS (dgS 5750 (nI 2)) (nI 6)) (nI (vn v)))), (0, .ref (ad 8))]) hx hb dX6_digest_25 hl (k := 1) rfl (by decide) (by decide) rfl (fun ls hl => ?_)
  refine lv_goto (tgt := 6) hx hb dX6_digest_28 (by decide) ?_
  refine lv_iload_n hx hb dX6_digest_6 rfl (lv_at hl 0 rfl) ?_
  refine lv_bipush (v := 8) hx hb dX6_digest_7 (by decide) ?_
  refine lv_icmp_gt (tgt := 31) hx hb dX6_digest_9 (by decide) (fun c9 => absurd c9 (by decide)) (fun _ => ?_)
  refine lv_lload_n hx hb dX6_digest_12 rfl (lv_at hl 1 rfl) ?_
  refine lv_ldc2 (v := 31) hx hb hown (hAm.wd qw_542 rfl rfl) dX6_digest_13 ?_
  refine lv_lmul hx hb dX6_digest_16 ?_
  refine lv_aload_n hx hb dX6_digest_17 rfl (lv_at hl 2 rfl) ?_
  refine lv_iload_n hx hb dX6_digest_18 rfl (lv_at hl 0 rfl) ?_
  refine tg_callRi (va_runV (As := [.int 3]) (rest := [.long ((dgS (dgS (dgS 5750 (nI 2)) (nI 6)) (nI (vn v))) * 31)]) (Ts := []) ⟨hx, hb, hml, hown, fun _ h9 => absurd h9 List.not_mem_nil⟩ (co_courtFact3 l E _ ad v G hI) (rc_cwV hAm qw_516 qw_1 qw_519 qw_518 qs_24 rfl rfl hd_X6_courtFact ⟨Nat.le_of_ble_eq_true rfl, Nat.le_of_ble_eq_true rfl⟩) (tg_preV hAm hA hw hco (q := vwCl[7]) rfl) rfl rfl hl.1 rfl (lv_room (Nat.le_of_ble_eq_true rfl)) dX6_digest_19 ⟨Nat.le_of_ble_eq_true rfl, Nat.le_of_ble_eq_true rfl⟩) hA hw (fun H locs hw => ?_)
  refine lv_i2l (v := ((nI (smR (fun k => cK v k) (vn v)))).toInt64) hx hb dX6_digest_22 rfl ?_
  refine lv_ladd hx hb dX6_digest_23 ?_
  refine rc_topl (dgS (dgS (dgS (dgS 5750 (nI 2)) (nI 6)) (nI (vn v))) (nI (smR (fun k => cK v k) (vn v)))) rfl ?_
  refine lv_lstore_n (lv' := [(1, .long (dgS (dgS (dgS (dgS 5750 (nI 2)) (nI 6)) (nI (vn v))) (nI (smR (fun k => cK v k) (vn v))))), (3, .int 3), (0, .ref (ad 8))]) hx hb dX6_digest_24 rfl hl (by decide) rfl (fun ls hl => ?_)
  refine lv_iinc (v := 4) (lv' := [(3, .int 4), (1, .long (dgS (dgS (dgS (dgS 5750 (nI 2)) (nI 6)) (nI (vn v))) (nI (smR (fun k => cK v k) (vn v))))), (0, .ref (ad 8))]) hx hb dX6_digest_25 hl (k := 1) rfl (by decide) (by decide) rfl (fun ls hl => ?_)
  refine lv_goto (tgt := 6) hx hb dX6_digest_28 (by decide) ?_
  refine lv_iload_n hx hb dX6_digest_6 rfl (lv_at hl 0 rfl) ?_
  refine lv_bipush (v := 8) hx hb dX6_digest_7 (by decide) ?_
  refine lv_icmp_gt (tgt := 31) hx hb dX6_digest_9 (by decide) (fun c9 => absurd c9 (by decide)) (fun _ => ?_)
  refine lv_lload_n hx hb dX6_digest_12 rfl (lv_at hl 1 rfl) ?_
  refine lv_ldc2 (v := 31) hx hb hown (hAm.wd qw_542 rfl rfl) dX6_digest_13 ?_
  refine lv_lmul hx hb dX6_digest_16 ?_
  refine lv_aload_n hx hb dX6_digest_17 rfl (lv_at hl 2 rfl) ?_
  refine lv_iload_n hx hb dX6_digest_18 rfl (lv_at hl 0 rfl) ?_
  refine tg_callRi (va_runV (As := [.int 4]) (rest := [.long ((dgS (dgS (dgS (dgS 5750 (nI 2)) (nI 6)) (nI (vn v))) (nI (smR (fun k => cK v k) (vn v)))) * 31)]) (Ts := []) ⟨hx, hb, hml, hown, fun _ h9 => absurd h9 List.not_mem_nil⟩ (co_courtFact4 l E _ ad v G hI) (rc_cwV hAm qw_516 qw_1 qw_519 qw_518 qs_24 rfl rfl hd_X6_courtFact ⟨Nat.le_of_ble_eq_true rfl, Nat.le_of_ble_eq_true rfl⟩) (tg_preV hAm hA hw hco (q := vwCl[7]) rfl) rfl rfl hl.1 rfl (lv_room (Nat.le_of_ble_eq_true rfl)) dX6_digest_19 ⟨Nat.le_of_ble_eq_true rfl, Nat.le_of_ble_eq_true rfl⟩) hA hw (fun H locs hw => ?_)
  refine lv_i2l (v := ((nI (vN v 2))).toInt64) hx hb dX6_digest_22 rfl ?_
  refine lv_ladd hx hb dX6_digest_23 ?_
  refine rc_topl (dgS (dgS (dgS (dgS (dgS 5750 (nI 2)) (nI 6)) (nI (vn v))) (nI (smR (fun k => cK v k) (vn v)))) (nI (vN v 2))) rfl ?_
  refine lv_lstore_n (lv' := [(1, .long (dgS (dgS (dgS (dgS (dgS 5750 (nI 2)) (nI 6)) (nI (vn v))) (nI (smR (fun k => cK v k) (vn v)))) (nI (vN v 2)))), (3, .int 4), (0, .ref (ad 8))]) hx hb dX6_digest_24 rfl hl (by decide) rfl (fun ls hl => ?_)
  refine lv_iinc (v := 5) (lv' := [(3, .int 5), (1, .long (dgS (dgS (dgS (dgS (dgS 5750 (nI 2)) (nI 6)) (nI (vn v))) (nI (smR (fun k => cK v k) (vn v)))) (nI (vN v 2)))), (0, .ref (ad 8))]) hx hb dX6_digest_25 hl (k := 1) rfl (by decide) (by decide) rfl (fun ls hl => ?_)
  refine lv_goto (tgt := 6) hx hb dX6_digest_28 (by decide) ?_
  refine lv_iload_n hx hb dX6_digest_6 rfl (lv_at hl 0 rfl) ?_
  refine lv_bipush (v := 8) hx hb dX6_digest_7 (by decide) ?_
  refine lv_icmp_gt (tgt := 31) hx hb dX6_digest_9 (by decide) (fun c9 => absurd c9 (by decide)) (fun _ => ?_)
  refine lv_lload_n hx hb dX6_digest_12 rfl (lv_at hl 1 rfl) ?_
  refine lv_ldc2 (v := 31) hx hb hown (hAm.wd qw_542 rfl rfl) dX6_digest_13 ?_
  refine lv_lmul hx hb dX6_digest_16 ?_
  refine lv_aload_n hx hb dX6_digest_17 rfl (lv_at hl 2 rfl) ?_
  refine lv_iload_n hx hb dX6_digest_18 rfl (lv_at hl 0 rfl) ?_
  refine tg_callRi (va_runV (As := [.int 5]) (rest := [.long ((dgS (dgS (dgS (dgS (dgS 5750 (nI 2)) (nI 6)) (nI (vn v))) (nI (smR (fun k => cK v k) (vn v)))) (nI (vN v 2))) * 31)]) (Ts := []) ⟨hx, hb, hml, hown, fun _ h9 => absurd h9 List.not_mem_nil⟩ (co_courtFact5 l E _ ad v G hI) (rc_cwV hAm qw_516 qw_1 qw_519 qw_518 qs_24 rfl rfl hd_X6_courtFact ⟨Nat.le_of_ble_eq_true rfl, Nat.le_of_ble_eq_true rfl⟩) (tg_preV hAm hA hw hco (q := vwCl[7]) rfl) rfl rfl hl.1 rfl (lv_room (Nat.le_of_ble_eq_true rfl)) dX6_digest_19 ⟨Nat.le_of_ble_eq_true rfl, Nat.le_of_ble_eq_true rfl⟩) hA hw (fun H locs hw => ?_)
  refine lv_i2l (v := ((nI (vN v 3))).toInt64) hx hb dX6_digest_22 rfl ?_
  refine lv_ladd hx hb dX6_digest_23 ?_
  refine rc_topl (dgS (dgS (dgS (dgS (dgS (dgS 5750 (nI 2)) (nI 6)) (nI (vn v))) (nI (smR (fun k => cK v k) (vn v)))) (nI (vN v 2))) (nI (vN v 3))) rfl ?_
  refine lv_lstore_n (lv' := [(1, .long (dgS (dgS (dgS (dgS (dgS (dgS 5750 (nI 2)) (nI 6)) (nI (vn v))) (nI (smR (fun k => cK v k) (vn v)))) (nI (vN v 2))) (nI (vN v 3)))), (3, .int 5), (0, .ref (ad 8))]) hx hb dX6_digest_24 rfl hl (by decide) rfl (fun ls hl => ?_)
  refine lv_iinc (v := 6) (lv' := [(3, .int 6), (1, .long (dgS (dgS (dgS (dgS (dgS (dgS 5750 (nI 2)) (nI 6)) (nI (vn v))) (nI (smR (fun k => cK v k) (vn v)))) (nI (vN v 2))) (nI (vN v 3)))), (0, .ref (ad 8))]) hx hb dX6_digest_25 hl (k := 1) rfl (by decide) (by decide) rfl (fun ls hl => ?_)
  refine lv_goto (tgt := 6) hx hb dX6_digest_28 (by decide) ?_
  refine lv_iload_n hx hb dX6_digest_6 rfl (lv_at hl 0 rfl) ?_
  refine lv_bipush (v := 8) hx hb dX6_digest_7 (by decide) ?_
  refine lv_icmp_gt (tgt := 31) hx hb dX6_digest_9 (by decide) (fun c9 => absurd c9 (by decide)) (fun _ => ?_)
  refine lv_lload_n hx hb dX6_digest_12 rfl (lv_at hl 1 rfl) ?_
  refine lv_ldc2 (v := 31) hx hb hown (hAm.wd qw_542 rfl rfl) dX6_digest_13 ?_
  refine lv_lmul hx hb dX6_digest_16 ?_
  refine lv_aload_n hx hb dX6_digest_17 rfl (lv_at hl 2 rfl) ?_
  refine lv_iload_n hx hb dX6_digest_18 rfl (lv_at hl 0 rfl) ?_
  refine tg_callRi (va_runV (As := [.int 6]) (rest := [.long ((dgS (dgS (dgS (dgS (dgS (dgS 5750 (nI 2)) (nI 6)) (nI (vn v))) (nI (smR (fun k => cK v k) (vn v)))) (nI (vN v 2))) (nI (vN v 3))) * 31)]) (Ts := []) ⟨hx, hb, hml, hown, fun _ h9 => absurd h9 List.not_mem_nil⟩ (co_courtFact6 l E _ ad v G hI) (rc_cwV hAm qw_516 qw_1 qw_519 qw_518 qs_24 rfl rfl hd_X6_courtFact ⟨Nat.le_of_ble_eq_true rfl, Nat.le_of_ble_eq_true rfl⟩) (tg_preV hAm hA hw hco (q := vwCl[7]) rfl) rfl rfl hl.1 rfl (lv_room (Nat.le_of_ble_eq_true rfl)) dX6_digest_19 ⟨Nat.le_of_ble_eq_true rfl, Nat.le_of_ble_eq_true rfl⟩) hA hw (fun H locs hw => ?_)
  refine lv_i2l (v := ((nI (vN v 4))).toInt64) hx hb dX6_digest_22 rfl ?_
  refine lv_ladd hx hb dX6_digest_23 ?_
  refine rc_topl (dgS (dgS (dgS (dgS (dgS (dgS (dgS 5750 (nI 2)) (nI 6)) (nI (vn v))) (nI (smR (fun k => cK v k) (vn v)))) (nI (vN v 2))) (nI (vN v 3))) (nI (vN v 4))) rfl ?_
  refine lv_lstore_n (lv' := [(1, .long (dgS (dgS (dgS (dgS (dgS (dgS (dgS 5750 (nI 2)) (nI 6)) (nI (vn v))) (nI (smR (fun k => cK v k) (vn v)))) (nI (vN v 2))) (nI (vN v 3))) (nI (vN v 4)))), (3, .int 6), (0, .ref (ad 8))]) hx hb dX6_digest_24 rfl hl (by decide) rfl (fun ls hl => ?_)
  refine lv_iinc (v := 7) (lv' := [(3, .int 7), (1, .long (dgS (dgS (dgS (dgS (dgS (dgS (dgS 5750 (nI 2)) (nI 6)) (nI (vn v))) (nI (smR (fun k => cK v k) (vn v)))) (nI (vN v 2))) (nI (vN v 3))) (nI (vN v 4)))), (0, .ref (ad 8))]) hx hb dX6_digest_25 hl (k := 1) rfl (by decide) (by decide) rfl (fun ls hl => ?_)
  refine lv_goto (tgt := 6) hx hb dX6_digest_28 (by decide) ?_
  refine lv_iload_n hx hb dX6_digest_6 rfl (lv_at hl 0 rfl) ?_
  refine lv_bipush (v := 8) hx hb dX6_digest_7 (by decide) ?_
  refine lv_icmp_gt (tgt := 31) hx hb dX6_digest_9 (by decide) (fun c9 => absurd c9 (by decide)) (fun _ => ?_)
  refine lv_lload_n hx hb dX6_digest_12 rfl (lv_at hl 1 rfl) ?_
  refine lv_ldc2 (v := 31) hx hb hown (hAm.wd qw_542 rfl rfl) dX6_digest_13 ?_
  refine lv_lmul hx hb dX6_digest_16 ?_
  refine lv_aload_n hx hb dX6_digest_17 rfl (lv_at hl 2 rfl) ?_
  refine lv_iload_n hx hb dX6_digest_18 rfl (lv_at hl 0 rfl) ?_
  refine tg_callRi (va_runV (As := [.int 7]) (rest := [.long ((dgS (dgS (dgS (dgS (dgS (dgS (dgS 5750 (nI 2)) (nI 6)) (nI (vn v))) (nI (smR (fun k => cK v k) (vn v)))) (nI (vN v 2))) (nI (vN v 3))) (nI (vN v 4))) * 31)]) (Ts := []) ⟨hx, hb, hml, hown, fun _ h9 => absurd h9 List.not_mem_nil⟩ (co_courtFact7 l E _ ad v G hI) (rc_cwV hAm qw_516 qw_1 qw_519 qw_518 qs_24 rfl rfl hd_X6_courtFact ⟨Nat.le_of_ble_eq_true rfl, Nat.le_of_ble_eq_true rfl⟩) (tg_preV hAm hA hw hco (q := vwCl[7]) rfl) rfl rfl hl.1 rfl (lv_room (Nat.le_of_ble_eq_true rfl)) dX6_digest_19 ⟨Nat.le_of_ble_eq_true rfl, Nat.le_of_ble_eq_true rfl⟩) hA hw (fun H locs hw => ?_)
  refine lv_i2l (v := ((nI (smR (fun c => bN (vC v c).1) 6))).toInt64) hx hb dX6_digest_22 rfl ?_
  refine lv_ladd hx hb dX6_digest_23 ?_
  refine rc_topl (dgS (dgS (dgS (dgS (dgS (dgS (dgS (dgS 5750 (nI 2)) (nI 6)) (nI (vn v))) (nI (smR (fun k => cK v k) (vn v)))) (nI (vN v 2))) (nI (vN v 3))) (nI (vN v 4))) (nI (smR (fun c => bN (vC v c).1) 6))) rfl ?_
  refine lv_lstore_n (lv' := [(1, .long (dgS (dgS (dgS (dgS (dgS (dgS (dgS (dgS 5750 (nI 2)) (nI 6)) (nI (vn v))) (nI (smR (fun k => cK v k) (vn v)))) (nI (vN v 2))) (nI (vN v 3))) (nI (vN v 4))) (nI (smR (fun c => bN (vC v c).1) 6)))), (3, .int 7), (0, .ref (ad 8))]) hx hb dX6_digest_24 rfl hl (by decide) rfl (fun ls hl => ?_)
  refine lv_iinc (v := 8) (lv' := [(3, .int 8), (1, .long (dgS (dgS (dgS (dgS (dgS (dgS (dgS (dgS 5750 (nI 2)) (nI 6)) (nI (vn v))) (nI (smR (fun k => cK v k) (vn v)))) (nI (vN v 2))) (nI (vN v 3))) (nI (vN v 4))) (nI (smR (fun c => bN (vC v c).1) 6)))), (0, .ref (ad 8))]) hx hb dX6_digest_25 hl (k := 1) rfl (by decide) (by decide) rfl (fun ls hl => ?_)
  refine lv_goto (tgt := 6) hx hb dX6_digest_28 (by decide) ?_
  refine lv_iload_n hx hb dX6_digest_6 rfl (lv_at hl 0 rfl) ?_
  refine lv_bipush (v := 8) hx hb dX6_digest_7 (by decide) ?_
  refine lv_icmp_gt (tgt := 31) hx hb dX6_digest_9 (by decide) (fun c9 => absurd c9 (by decide)) (fun _ => ?_)
  refine lv_lload_n hx hb dX6_digest_12 rfl (lv_at hl 1 rfl) ?_
  refine lv_ldc2 (v := 31) hx hb hown (hAm.wd qw_542 rfl rfl) dX6_digest_13 ?_
  refine lv_lmul hx hb dX6_digest_16 ?_
  refine lv_aload_n hx hb dX6_digest_17 rfl (lv_at hl 2 rfl) ?_
  refine lv_iload_n hx hb dX6_digest_18 rfl (lv_at hl 0 rfl) ?_
  refine tg_callRi (va_runV (As := [.int 8]) (rest := [.long ((dgS (dgS (dgS (dgS (dgS (dgS (dgS (dgS 5750 (nI 2)) (nI 6)) (nI (vn v))) (nI (smR (fun k => cK v k) (vn v)))) (nI (vN v 2))) (nI (vN v 3))) (nI (vN v 4))) (nI (smR (fun c => bN (vC v c).1) 6))) * 31)]) (Ts := []) ⟨hx, hb, hml, hown, fun _ h9 => absurd h9 List.not_mem_nil⟩ (co_courtFact8 l E _ ad v G hI) (rc_cwV hAm qw_516 qw_1 qw_519 qw_518 qs_24 rfl rfl hd_X6_courtFact ⟨Nat.le_of_ble_eq_true rfl, Nat.le_of_ble_eq_true rfl⟩) (tg_preV hAm hA hw hco (q := vwCl[7]) rfl) rfl rfl hl.1 rfl (lv_room (Nat.le_of_ble_eq_true rfl)) dX6_digest_19 ⟨Nat.le_of_ble_eq_true rfl, Nat.le_of_ble_eq_true rfl⟩) hA hw (fun H locs hw => ?_)
  refine lv_i2l (v := ((nI (smR (fun j => bN (vMI v j 7)) 2))).toInt64) hx hb dX6_digest_22 rfl ?_
  refine lv_ladd hx hb dX6_digest_23 ?_
  refine rc_topl (dgS (dgS (dgS (dgS (dgS (dgS (dgS (dgS (dgS 5750 (nI 2)) (nI 6)) (nI (vn v))) (nI (smR (fun k => cK v k) (vn v)))) (nI (vN v 2))) (nI (vN v 3))) (nI (vN v 4))) (nI (smR (fun c => bN (vC v c).1) 6))) (nI (smR (fun j => bN (vMI v j 7)) 2))) rfl ?_
  refine lv_lstore_n (lv' := [(1, .long (dgS (dgS (dgS (dgS (dgS (dgS (dgS (dgS (dgS 5750 (nI 2)) (nI 6)) (nI (vn v))) (nI (smR (fun k => cK v k) (vn v)))) (nI (vN v 2))) (nI (vN v 3))) (nI (vN v 4))) (nI (smR (fun c => bN (vC v c).1) 6))) (nI (smR (fun j => bN (vMI v j 7)) 2)))), (3, .int 8), (0, .ref (ad 8))]) hx hb dX6_digest_24 rfl hl (by decide) rfl (fun ls hl => ?_)
  refine lv_iinc (v := 9) (lv' := [(3, .int 9), (1, .long (dgS (dgS (dgS (dgS (dgS (dgS (dgS (dgS (dgS 5750 (nI 2)) (nI 6)) (nI (vn v))) (nI (smR (fun k => cK v k) (vn v)))) (nI (vN v 2))) (nI (vN v 3))) (nI (vN v 4))) (nI (smR (fun c => bN (vC v c).1) 6))) (nI (smR (fun j => bN (vMI v j 7)) 2)))), (0, .ref (ad 8))]) hx hb dX6_digest_25 hl (k := 1) rfl (by decide) (by decide) rfl (fun ls hl => ?_)
  refine lv_goto (tgt := 6) hx hb dX6_digest_28 (by decide) ?_
  refine lv_iload_n hx hb dX6_digest_6 rfl (lv_at hl 0 rfl) ?_
  refine lv_bipush (v := 8) hx hb dX6_digest_7 (by decide) ?_
  refine lv_icmp_gt (tgt := 31) hx hb dX6_digest_9 (by decide) (fun _ => ?_) (fun c9 => absurd (by decide) c9)
  refine lv_aload_n hx hb dX6_digest_31 rfl (lv_at hl 2 rfl) ?_
  refine lv_lload_n hx hb dX6_digest_32 rfl (lv_at hl 1 rfl) ?_
  refine tg_callRl (va_runV (As := [.long (dgS (dgS (dgS (dgS (dgS (dgS (dgS (dgS (dgS 5750 (nI 2)) (nI 6)) (nI (vn v))) (nI (smR (fun k => cK v k) (vn v)))) (nI (vN v 2))) (nI (vN v 3))) (nI (vN v 4))) (nI (smR (fun c => bN (vC v c).1) 6))) (nI (smR (fun j => bN (vMI v j 7)) 2)))]) (rest := []) (Ts := []) ⟨hx, hb, hml, hown, fun _ h9 => absurd h9 List.not_mem_nil⟩ (dg_machines l E _ ad v G hI (dgS (dgS (dgS (dgS (dgS (dgS (dgS (dgS (dgS 5750 (nI 2)) (nI 6)) (nI (vn v))) (nI (smR (fun k => cK v k) (vn v)))) (nI (vN v 2))) (nI (vN v 3))) (nI (vN v 4))) (nI (smR (fun c => bN (vC v c).1) 6))) (nI (smR (fun j => bN (vMI v j 7)) 2)))) (rc_cwV hAm qw_543 qw_1 qw_546 qw_545 qs_28 rfl rfl hd_X6_digestOfMachines ⟨Nat.le_of_ble_eq_true rfl, Nat.le_of_ble_eq_true rfl⟩) (tg_preV hAm hA hw hco (q := vwCl[7]) rfl) rfl rfl hl.1 rfl (lv_room (Nat.le_of_ble_eq_true rfl)) dX6_digest_33 ⟨Nat.le_of_ble_eq_true rfl, Nat.le_of_ble_eq_true rfl⟩) hA hw (fun H locs hw => ?_)
  refine lv_lstore_n (lv' := [(1, .long (dgMR v (dgS (dgS (dgS (dgS (dgS (dgS (dgS (dgS (dgS 5750 (nI 2)) (nI 6)) (nI (vn v))) (nI (smR (fun k => cK v k) (vn v)))) (nI (vN v 2))) (nI (vN v 3))) (nI (vN v 4))) (nI (smR (fun c => bN (vC v c).1) 6))) (nI (smR (fun j => bN (vMI v j 7)) 2))) 2)), (3, .int 9), (0, .ref (ad 8))]) hx hb dX6_digest_36 rfl hl (by decide) rfl (fun ls hl => ?_)
  refine lv_aload_n hx hb dX6_digest_37 rfl (lv_at hl 2 rfl) ?_
  refine lv_lload_n hx hb dX6_digest_38 rfl (lv_at hl 0 rfl) ?_
  refine tg_calll (va_runV (As := [.long (dgMR v (dgS (dgS (dgS (dgS (dgS (dgS (dgS (dgS (dgS 5750 (nI 2)) (nI 6)) (nI (vn v))) (nI (smR (fun k => cK v k) (vn v)))) (nI (vN v 2))) (nI (vN v 3))) (nI (vN v 4))) (nI (smR (fun c => bN (vC v c).1) 6))) (nI (smR (fun j => bN (vMI v j 7)) 2))) 2)]) (rest := []) (Ts := []) ⟨hx, hb, hml, hown, fun _ h9 => absurd h9 List.not_mem_nil⟩ (dg_changes l E _ ad v G hI hS (dgMR v (dgS (dgS (dgS (dgS (dgS (dgS (dgS (dgS (dgS 5750 (nI 2)) (nI 6)) (nI (vn v))) (nI (smR (fun k => cK v k) (vn v)))) (nI (vN v 2))) (nI (vN v 3))) (nI (vN v 4))) (nI (smR (fun c => bN (vC v c).1) 6))) (nI (smR (fun j => bN (vMI v j 7)) 2))) 2)) (rc_cwV hAm qw_569 qw_1 qw_572 qw_571 qs_33 rfl rfl hd_X6_digestOfChanges ⟨Nat.le_of_ble_eq_true rfl, Nat.le_of_ble_eq_true rfl⟩) (tg_preV hAm hA hw hco (q := vwCl[7]) rfl) rfl rfl hl.1 rfl (lv_room (Nat.le_of_ble_eq_true rfl)) dX6_digest_39 ⟨Nat.le_of_ble_eq_true rfl, Nat.le_of_ble_eq_true rfl⟩) hA hw (fun r_2 G_1 H locs hp hw => ?_)
  obtain ⟨hr9, hS, hu⟩ := hp
  rw [hr9]
  have hco := (hu 8 (by omega)).trans hco
  have hI := hI.scr (fun t9 h9 => hu t9 (by omega))
  have HO := fun (t9 : Nat) (h9 : t9 < 15 ∨ 31 ≤ t9) => (hu t9 (by omega)).trans (HO t9 h9)
  refine lv_lstore_n (lv' := [(1, .long (dgCR v (dgMR v (dgS (dgS (dgS (dgS (dgS (dgS (dgS (dgS (dgS 5750 (nI 2)) (nI 6)) (nI (vn v))) (nI (smR (fun k => cK v k) (vn v)))) (nI (vN v 2))) (nI (vN v 3))) (nI (vN v 4))) (nI (smR (fun c => bN (vC v c).1) 6))) (nI (smR (fun j => bN (vMI v j 7)) 2))) 2) 6)), (3, .int 9), (0, .ref (ad 8))]) hx hb dX6_digest_42 rfl hl (by decide) rfl (fun ls hl => ?_)
  refine lv_aload_n hx hb dX6_digest_43 rfl (lv_at hl 2 rfl) ?_
  refine lv_lload_n hx hb dX6_digest_44 rfl (lv_at hl 0 rfl) ?_
  refine tg_callRl (va_runV (As := [.long (dgCR v (dgMR v (dgS (dgS (dgS (dgS (dgS (dgS (dgS (dgS (dgS 5750 (nI 2)) (nI 6)) (nI (vn v))) (nI (smR (fun k => cK v k) (vn v)))) (nI (vN v 2))) (nI (vN v 3))) (nI (vN v 4))) (nI (smR (fun c => bN (vC v c).1) 6))) (nI (smR (fun j => bN (vMI v j 7)) 2))) 2) 6)]) (rest := []) (Ts := []) ⟨hx, hb, hml, hown, fun _ h9 => absurd h9 List.not_mem_nil⟩ (dg_runs l E _ ad v G_1 hI (dgCR v (dgMR v (dgS (dgS (dgS (dgS (dgS (dgS (dgS (dgS (dgS 5750 (nI 2)) (nI 6)) (nI (vn v))) (nI (smR (fun k => cK v k) (vn v)))) (nI (vN v 2))) (nI (vN v 3))) (nI (vN v 4))) (nI (smR (fun c => bN (vC v c).1) 6))) (nI (smR (fun j => bN (vMI v j 7)) 2))) 2) 6)) (rc_cwV hAm qw_586 qw_1 qw_589 qw_588 qs_37 rfl rfl hd_X6_digestOfRuns ⟨Nat.le_of_ble_eq_true rfl, Nat.le_of_ble_eq_true rfl⟩) (tg_preV hAm hA hw hco (q := vwCl[7]) rfl) rfl rfl hl.1 rfl (lv_room (Nat.le_of_ble_eq_true rfl)) dX6_digest_45 ⟨Nat.le_of_ble_eq_true rfl, Nat.le_of_ble_eq_true rfl⟩) hA hw (fun H locs hw => ?_)
  refine lv_lstore_n (lv' := [(1, .long (dgRR v (dgCR v (dgMR v (dgS (dgS (dgS (dgS (dgS (dgS (dgS (dgS (dgS 5750 (nI 2)) (nI 6)) (nI (vn v))) (nI (smR (fun k => cK v k) (vn v)))) (nI (vN v 2))) (nI (vN v 3))) (nI (vN v 4))) (nI (smR (fun c => bN (vC v c).1) 6))) (nI (smR (fun j => bN (vMI v j 7)) 2))) 2) 6) (vn v))), (3, .int 9), (0, .ref (ad 8))]) hx hb dX6_digest_48 rfl hl (by decide) rfl (fun ls hl => ?_)
  refine lv_aload_n hx hb dX6_digest_49 rfl (lv_at hl 2 rfl) ?_
  refine lv_lload_n hx hb dX6_digest_50 rfl (lv_at hl 0 rfl) ?_
  refine tg_calll (va_runV (As := [.long (dgRR v (dgCR v (dgMR v (dgS (dgS (dgS (dgS (dgS (dgS (dgS (dgS (dgS 5750 (nI 2)) (nI 6)) (nI (vn v))) (nI (smR (fun k => cK v k) (vn v)))) (nI (vN v 2))) (nI (vN v 3))) (nI (vN v 4))) (nI (smR (fun c => bN (vC v c).1) 6))) (nI (smR (fun j => bN (vMI v j 7)) 2))) 2) 6) (vn v))]) (rest := []) (Ts := []) ⟨hx, hb, hml, hown, fun _ h9 => absurd h9 List.not_mem_nil⟩ (dg_verdicts l E _ ad v G_1 hI hS (dgRR v (dgCR v (dgMR v (dgS (dgS (dgS (dgS (dgS (dgS (dgS (dgS (dgS 5750 (nI 2)) (nI 6)) (nI (vn v))) (nI (smR (fun k => cK v k) (vn v)))) (nI (vN v 2))) (nI (vN v 3))) (nI (vN v 4))) (nI (smR (fun c => bN (vC v c).1) 6))) (nI (smR (fun j => bN (vMI v j 7)) 2))) 2) 6) (vn v))) (rc_cwV hAm qw_598 qw_1 qw_601 qw_600 qs_40 rfl rfl hd_X6_digestOfVerdicts ⟨Nat.le_of_ble_eq_true rfl, Nat.le_of_ble_eq_true rfl⟩) (tg_preV hAm hA hw hco (q := vwCl[7]) rfl) rfl rfl hl.1 rfl (lv_room (Nat.le_of_ble_eq_true rfl)) dX6_digest_51 ⟨Nat.le_of_ble_eq_true rfl, Nat.le_of_ble_eq_true rfl⟩) hA hw (fun r_4 G_3 H locs hp hw => ?_)
  obtain ⟨hr9, hS, hu⟩ := hp
  rw [hr9]
  have hco := (hu 8 (by omega)).trans hco
  have hI := hI.scr (fun t9 h9 => hu t9 (by omega))
  have HO := fun (t9 : Nat) (h9 : t9 < 15 ∨ 31 ≤ t9) => (hu t9 (by omega)).trans (HO t9 h9)
  refine lv_lstore_n (lv' := [(1, .long (dgVR v (dgRR v (dgCR v (dgMR v (dgS (dgS (dgS (dgS (dgS (dgS (dgS (dgS (dgS 5750 (nI 2)) (nI 6)) (nI (vn v))) (nI (smR (fun k => cK v k) (vn v)))) (nI (vN v 2))) (nI (vN v 3))) (nI (vN v 4))) (nI (smR (fun c => bN (vC v c).1) 6))) (nI (smR (fun j => bN (vMI v j 7)) 2))) 2) 6) (vn v)) 5)), (3, .int 9), (0, .ref (ad 8))]) hx hb dX6_digest_54 rfl hl (by decide) rfl (fun ls hl => ?_)
  refine lv_iconst (v := 0) hx hb dX6_digest_55 (by decide) ?_
  refine lv_istore_n (lv' := [(3, .int 0), (1, .long (dgVR v (dgRR v (dgCR v (dgMR v (dgS (dgS (dgS (dgS (dgS (dgS (dgS (dgS (dgS 5750 (nI 2)) (nI 6)) (nI (vn v))) (nI (smR (fun k => cK v k) (vn v)))) (nI (vN v 2))) (nI (vN v 3))) (nI (vN v 4))) (nI (smR (fun c => bN (vC v c).1) 6))) (nI (smR (fun j => bN (vMI v j 7)) 2))) 2) 6) (vn v)) 5)), (0, .ref (ad 8))]) hx hb dX6_digest_56 rfl hl (by decide) rfl (fun ls hl => ?_)
  refine lv_iload_n hx hb dX6_digest_57 rfl (lv_at hl 0 rfl) ?_
  refine lv_iconst (v := 3) hx hb dX6_digest_58 (by decide) ?_
  refine lv_icmp_gt (tgt := 81) hx hb dX6_digest_59 (by decide) (fun c9 => absurd c9 (by decide)) (fun _ => ?_)
  refine lv_lload_n hx hb dX6_digest_62 rfl (lv_at hl 1 rfl) ?_
  refine lv_ldc2 (v := 31) hx hb hown (hAm.wd qw_542 rfl rfl) dX6_digest_63 ?_
  refine lv_lmul hx hb dX6_digest_66 ?_
  refine lv_aload_n hx hb dX6_digest_67 rfl (lv_at hl 2 rfl) ?_
  refine lv_iload_n hx hb dX6_digest_68 rfl (lv_at hl 0 rfl) ?_
  refine tg_callRi (va_runV (As := [.int 0]) (rest := [.long ((dgVR v (dgRR v (dgCR v (dgMR v (dgS (dgS (dgS (dgS (dgS (dgS (dgS (dgS (dgS 5750 (nI 2)) (nI 6)) (nI (vn v))) (nI (smR (fun k => cK v k) (vn v)))) (nI (vN v 2))) (nI (vN v 3))) (nI (vN v 4))) (nI (smR (fun c => bN (vC v c).1) 6))) (nI (smR (fun j => bN (vMI v j 7)) 2))) 2) 6) (vn v)) 5) * 31)]) (Ts := []) ⟨hx, hb, hml, hown, fun _ h9 => absurd h9 List.not_mem_nil⟩ (co_caseFact0 l E _ ad v G_3 hI) (rc_cwV hAm qw_606 qw_1 qw_609 qw_608 qs_42 rfl rfl hd_X6_caseFact ⟨Nat.le_of_ble_eq_true rfl, Nat.le_of_ble_eq_true rfl⟩) (tg_preV hAm hA hw hco (q := vwCl[7]) rfl) rfl rfl hl.1 rfl (lv_room (Nat.le_of_ble_eq_true rfl)) dX6_digest_69 ⟨Nat.le_of_ble_eq_true rfl, Nat.le_of_ble_eq_true rfl⟩) hA hw (fun H locs hw => ?_)
  refine lv_i2l (v := ((vI v 2)).toInt64) hx hb dX6_digest_72 rfl ?_
  refine lv_ladd hx hb dX6_digest_73 ?_
  refine rc_topl (dgS (dgVR v (dgRR v (dgCR v (dgMR v (dgS (dgS (dgS (dgS (dgS (dgS (dgS (dgS (dgS 5750 (nI 2)) (nI 6)) (nI (vn v))) (nI (smR (fun k => cK v k) (vn v)))) (nI (vN v 2))) (nI (vN v 3))) (nI (vN v 4))) (nI (smR (fun c => bN (vC v c).1) 6))) (nI (smR (fun j => bN (vMI v j 7)) 2))) 2) 6) (vn v)) 5) (vI v 2)) rfl ?_
  refine lv_lstore_n (lv' := [(1, .long (dgS (dgVR v (dgRR v (dgCR v (dgMR v (dgS (dgS (dgS (dgS (dgS (dgS (dgS (dgS (dgS 5750 (nI 2)) (nI 6)) (nI (vn v))) (nI (smR (fun k => cK v k) (vn v)))) (nI (vN v 2))) (nI (vN v 3))) (nI (vN v 4))) (nI (smR (fun c => bN (vC v c).1) 6))) (nI (smR (fun j => bN (vMI v j 7)) 2))) 2) 6) (vn v)) 5) (vI v 2))), (3, .int 0), (0, .ref (ad 8))]) hx hb dX6_digest_74 rfl hl (by decide) rfl (fun ls hl => ?_)
  refine lv_iinc (v := 1) (lv' := [(3, .int 1), (1, .long (dgS (dgVR v (dgRR v (dgCR v (dgMR v (dgS (dgS (dgS (dgS (dgS (dgS (dgS (dgS (dgS 5750 (nI 2)) (nI 6)) (nI (vn v))) (nI (smR (fun k => cK v k) (vn v)))) (nI (vN v 2))) (nI (vN v 3))) (nI (vN v 4))) (nI (smR (fun c => bN (vC v c).1) 6))) (nI (smR (fun j => bN (vMI v j 7)) 2))) 2) 6) (vn v)) 5) (vI v 2))), (0, .ref (ad 8))]) hx hb dX6_digest_75 hl (k := 1) rfl (by decide) (by decide) rfl (fun ls hl => ?_)
  refine lv_goto (tgt := 57) hx hb dX6_digest_78 (by decide) ?_
  refine lv_iload_n hx hb dX6_digest_57 rfl (lv_at hl 0 rfl) ?_
  refine lv_iconst (v := 3) hx hb dX6_digest_58 (by decide) ?_
  refine lv_icmp_gt (tgt := 81) hx hb dX6_digest_59 (by decide) (fun c9 => absurd c9 (by decide)) (fun _ => ?_)
  refine lv_lload_n hx hb dX6_digest_62 rfl (lv_at hl 1 rfl) ?_
  refine lv_ldc2 (v := 31) hx hb hown (hAm.wd qw_542 rfl rfl) dX6_digest_63 ?_
  refine lv_lmul hx hb dX6_digest_66 ?_
  refine lv_aload_n hx hb dX6_digest_67 rfl (lv_at hl 2 rfl) ?_
  refine lv_iload_n hx hb dX6_digest_68 rfl (lv_at hl 0 rfl) ?_
  refine tg_callRi (va_runV (As := [.int 1]) (rest := [.long ((dgS (dgVR v (dgRR v (dgCR v (dgMR v (dgS (dgS (dgS (dgS (dgS (dgS (dgS (dgS (dgS 5750 (nI 2)) (nI 6)) (nI (vn v))) (nI (smR (fun k => cK v k) (vn v)))) (nI (vN v 2))) (nI (vN v 3))) (nI (vN v 4))) (nI (smR (fun c => bN (vC v c).1) 6))) (nI (smR (fun j => bN (vMI v j 7)) 2))) 2) 6) (vn v)) 5) (vI v 2)) * 31)]) (Ts := []) ⟨hx, hb, hml, hown, fun _ h9 => absurd h9 List.not_mem_nil⟩ (co_caseFact1 l E _ ad v G_3 hI) (rc_cwV hAm qw_606 qw_1 qw_609 qw_608 qs_42 rfl rfl hd_X6_caseFact ⟨Nat.le_of_ble_eq_true rfl, Nat.le_of_ble_eq_true rfl⟩) (tg_preV hAm hA hw hco (q := vwCl[7]) rfl) rfl rfl hl.1 rfl (lv_room (Nat.le_of_ble_eq_true rfl)) dX6_digest_69 ⟨Nat.le_of_ble_eq_true rfl, Nat.le_of_ble_eq_true rfl⟩) hA hw (fun H locs hw => ?_)
  refine lv_i2l (v := ((vI v 3)).toInt64) hx hb dX6_digest_72 rfl ?_
  refine lv_ladd hx hb dX6_digest_73 ?_
  refine rc_topl (dgS (dgS (dgVR v (dgRR v (dgCR v (dgMR v (dgS (dgS (dgS (dgS (dgS (dgS (dgS (dgS (dgS 5750 (nI 2)) (nI 6)) (nI (vn v))) (nI (smR (fun k => cK v k) (vn v)))) (nI (vN v 2))) (nI (vN v 3))) (nI (vN v 4))) (nI (smR (fun c => bN (vC v c).1) 6))) (nI (smR (fun j => bN (vMI v j 7)) 2))) 2) 6) (vn v)) 5) (vI v 2)) (vI v 3)) rfl ?_
  refine lv_lstore_n (lv' := [(1, .long (dgS (dgS (dgVR v (dgRR v (dgCR v (dgMR v (dgS (dgS (dgS (dgS (dgS (dgS (dgS (dgS (dgS 5750 (nI 2)) (nI 6)) (nI (vn v))) (nI (smR (fun k => cK v k) (vn v)))) (nI (vN v 2))) (nI (vN v 3))) (nI (vN v 4))) (nI (smR (fun c => bN (vC v c).1) 6))) (nI (smR (fun j => bN (vMI v j 7)) 2))) 2) 6) (vn v)) 5) (vI v 2)) (vI v 3))), (3, .int 1), (0, .ref (ad 8))]) hx hb dX6_digest_74 rfl hl (by decide) rfl (fun ls hl => ?_)
  refine lv_iinc (v := 2) (lv' := [(3, .int 2), (1, .long (dgS (dgS (dgVR v (dgRR v (dgCR v (dgMR v (dgS (dgS (dgS (dgS (dgS (dgS (dgS (dgS (dgS 5750 (nI 2)) (nI 6)) (nI (vn v))) (nI (smR (fun k => cK v k) (vn v)))) (nI (vN v 2))) (nI (vN v 3))) (nI (vN v 4))) (nI (smR (fun c => bN (vC v c).1) 6))) (nI (smR (fun j => bN (vMI v j 7)) 2))) 2) 6) (vn v)) 5) (vI v 2)) (vI v 3))), (0, .ref (ad 8))]) hx hb dX6_digest_75 hl (k := 1) rfl (by decide) (by decide) rfl (fun ls hl => ?_)
  refine lv_goto (tgt := 57) hx hb dX6_digest_78 (by decide) ?_
  refine lv_iload_n hx hb dX6_digest_57 rfl (lv_at hl 0 rfl) ?_
  refine lv_iconst (v := 3) hx hb dX6_digest_58 (by decide) ?_
  refine lv_icmp_gt (tgt := 81) hx hb dX6_digest_59 (by decide) (fun c9 => absurd c9 (by decide)) (fun _ => ?_)
  refine lv_lload_n hx hb dX6_digest_62 rfl (lv_at hl 1 rfl) ?_
  refine lv_ldc2 (v := 31) hx hb hown (hAm.wd qw_542 rfl rfl) dX6_digest_63 ?_
  refine lv_lmul hx hb dX6_digest_66 ?_
  refine lv_aload_n hx hb dX6_digest_67 rfl (lv_at hl 2 rfl) ?_
  refine lv_iload_n hx hb dX6_digest_68 rfl (lv_at hl 0 rfl) ?_
  refine tg_callRi (va_runV (As := [.int 2]) (rest := [.long ((dgS (dgS (dgVR v (dgRR v (dgCR v (dgMR v (dgS (dgS (dgS (dgS (dgS (dgS (dgS (dgS (dgS 5750 (nI 2)) (nI 6)) (nI (vn v))) (nI (smR (fun k => cK v k) (vn v)))) (nI (vN v 2))) (nI (vN v 3))) (nI (vN v 4))) (nI (smR (fun c => bN (vC v c).1) 6))) (nI (smR (fun j => bN (vMI v j 7)) 2))) 2) 6) (vn v)) 5) (vI v 2)) (vI v 3)) * 31)]) (Ts := []) ⟨hx, hb, hml, hown, fun _ h9 => absurd h9 List.not_mem_nil⟩ (co_caseFact2 l E _ ad v G_3 hI) (rc_cwV hAm qw_606 qw_1 qw_609 qw_608 qs_42 rfl rfl hd_X6_caseFact ⟨Nat.le_of_ble_eq_true rfl, Nat.le_of_ble_eq_true rfl⟩) (tg_preV hAm hA hw hco (q := vwCl[7]) rfl) rfl rfl hl.1 rfl (lv_room (Nat.le_of_ble_eq_true rfl)) dX6_digest_69 ⟨Nat.le_of_ble_eq_true rfl, Nat.le_of_ble_eq_true rfl⟩) hA hw (fun H locs hw => ?_)
  refine lv_i2l (v := ((vI v 4)).toInt64) hx hb dX6_digest_72 rfl ?_
  refine lv_ladd hx hb dX6_digest_73 ?_
  refine rc_topl (dgS (dgS (dgS (dgVR v (dgRR v (dgCR v (dgMR v (dgS (dgS (dgS (dgS (dgS (dgS (dgS (dgS (dgS 5750 (nI 2)) (nI 6)) (nI (vn v))) (nI (smR (fun k => cK v k) (vn v)))) (nI (vN v 2))) (nI (vN v 3))) (nI (vN v 4))) (nI (smR (fun c => bN (vC v c).1) 6))) (nI (smR (fun j => bN (vMI v j 7)) 2))) 2) 6) (vn v)) 5) (vI v 2)) (vI v 3)) (vI v 4)) rfl ?_
  refine lv_lstore_n (lv' := [(1, .long (dgS (dgS (dgS (dgVR v (dgRR v (dgCR v (dgMR v (dgS (dgS (dgS (dgS (dgS (dgS (dgS (dgS (dgS 5750 (nI 2)) (nI 6)) (nI (vn v))) (nI (smR (fun k => cK v k) (vn v)))) (nI (vN v 2))) (nI (vN v 3))) (nI (vN v 4))) (nI (smR (fun c => bN (vC v c).1) 6))) (nI (smR (fun j => bN (vMI v j 7)) 2))) 2) 6) (vn v)) 5) (vI v 2)) (vI v 3)) (vI v 4))), (3, .int 2), (0, .ref (ad 8))]) hx hb dX6_digest_74 rfl hl (by decide) rfl (fun ls hl => ?_)
  refine lv_iinc (v := 3) (lv' := [(3, .int 3), (1, .long (dgS (dgS (dgS (dgVR v (dgRR v (dgCR v (dgMR v (dgS (dgS (dgS (dgS (dgS (dgS (dgS (dgS (dgS 5750 (nI 2)) (nI 6)) (nI (vn v))) (nI (smR (fun k => cK v k) (vn v)))) (nI (vN v 2))) (nI (vN v 3))) (nI (vN v 4))) (nI (smR (fun c => bN (vC v c).1) 6))) (nI (smR (fun j => bN (vMI v j 7)) 2))) 2) 6) (vn v)) 5) (vI v 2)) (vI v 3)) (vI v 4))), (0, .ref (ad 8))]) hx hb dX6_digest_75 hl (k := 1) rfl (by decide) (by decide) rfl (fun ls hl => ?_)
  refine lv_goto (tgt := 57) hx hb dX6_digest_78 (by decide) ?_
  refine lv_iload_n hx hb dX6_digest_57 rfl (lv_at hl 0 rfl) ?_
  refine lv_iconst (v := 3) hx hb dX6_digest_58 (by decide) ?_
  refine lv_icmp_gt (tgt := 81) hx hb dX6_digest_59 (by decide) (fun c9 => absurd c9 (by decide)) (fun _ => ?_)
  refine lv_lload_n hx hb dX6_digest_62 rfl (lv_at hl 1 rfl) ?_
  refine lv_ldc2 (v := 31) hx hb hown (hAm.wd qw_542 rfl rfl) dX6_digest_63 ?_
  refine lv_lmul hx hb dX6_digest_66 ?_
  refine lv_aload_n hx hb dX6_digest_67 rfl (lv_at hl 2 rfl) ?_
  refine lv_iload_n hx hb dX6_digest_68 rfl (lv_at hl 0 rfl) ?_
  refine tg_callRi (va_runV (As := [.int 3]) (rest := [.long ((dgS (dgS (dgS (dgVR v (dgRR v (dgCR v (dgMR v (dgS (dgS (dgS (dgS (dgS (dgS (dgS (dgS (dgS 5750 (nI 2)) (nI 6)) (nI (vn v))) (nI (smR (fun k => cK v k) (vn v)))) (nI (vN v 2))) (nI (vN v 3))) (nI (vN v 4))) (nI (smR (fun c => bN (vC v c).1) 6))) (nI (smR (fun j => bN (vMI v j 7)) 2))) 2) 6) (vn v)) 5) (vI v 2)) (vI v 3)) (vI v 4)) * 31)]) (Ts := []) ⟨hx, hb, hml, hown, fun _ h9 => absurd h9 List.not_mem_nil⟩ (co_caseFact3 l E _ ad v G_3 hI) (rc_cwV hAm qw_606 qw_1 qw_609 qw_608 qs_42 rfl rfl hd_X6_caseFact ⟨Nat.le_of_ble_eq_true rfl, Nat.le_of_ble_eq_true rfl⟩) (tg_preV hAm hA hw hco (q := vwCl[7]) rfl) rfl rfl hl.1 rfl (lv_room (Nat.le_of_ble_eq_true rfl)) dX6_digest_69 ⟨Nat.le_of_ble_eq_true rfl, Nat.le_of_ble_eq_true rfl⟩) hA hw (fun H locs hw => ?_)
  refine lv_i2l (v := ((vI v 0)).toInt64) hx hb dX6_digest_72 rfl ?_
  refine lv_ladd hx hb dX6_digest_73 ?_
  refine rc_topl (dgS (dgS (dgS (dgS (dgVR v (dgRR v (dgCR v (dgMR v (dgS (dgS (dgS (dgS (dgS (dgS (dgS (dgS (dgS 5750 (nI 2)) (nI 6)) (nI (vn v))) (nI (smR (fun k => cK v k) (vn v)))) (nI (vN v 2))) (nI (vN v 3))) (nI (vN v 4))) (nI (smR (fun c => bN (vC v c).1) 6))) (nI (smR (fun j => bN (vMI v j 7)) 2))) 2) 6) (vn v)) 5) (vI v 2)) (vI v 3)) (vI v 4)) (vI v 0)) rfl ?_
  refine lv_lstore_n (lv' := [(1, .long (dgS (dgS (dgS (dgS (dgVR v (dgRR v (dgCR v (dgMR v (dgS (dgS (dgS (dgS (dgS (dgS (dgS (dgS (dgS 5750 (nI 2)) (nI 6)) (nI (vn v))) (nI (smR (fun k => cK v k) (vn v)))) (nI (vN v 2))) (nI (vN v 3))) (nI (vN v 4))) (nI (smR (fun c => bN (vC v c).1) 6))) (nI (smR (fun j => bN (vMI v j 7)) 2))) 2) 6) (vn v)) 5) (vI v 2)) (vI v 3)) (vI v 4)) (vI v 0))), (3, .int 3), (0, .ref (ad 8))]) hx hb dX6_digest_74 rfl hl (by decide) rfl (fun ls hl => ?_)
  refine lv_iinc (v := 4) (lv' := [(3, .int 4), (1, .long (dgS (dgS (dgS (dgS (dgVR v (dgRR v (dgCR v (dgMR v (dgS (dgS (dgS (dgS (dgS (dgS (dgS (dgS (dgS 5750 (nI 2)) (nI 6)) (nI (vn v))) (nI (smR (fun k => cK v k) (vn v)))) (nI (vN v 2))) (nI (vN v 3))) (nI (vN v 4))) (nI (smR (fun c => bN (vC v c).1) 6))) (nI (smR (fun j => bN (vMI v j 7)) 2))) 2) 6) (vn v)) 5) (vI v 2)) (vI v 3)) (vI v 4)) (vI v 0))), (0, .ref (ad 8))]) hx hb dX6_digest_75 hl (k := 1) rfl (by decide) (by decide) rfl (fun ls hl => ?_)
  refine lv_goto (tgt := 57) hx hb dX6_digest_78 (by decide) ?_
  refine lv_iload_n hx hb dX6_digest_57 rfl (lv_at hl 0 rfl) ?_
  refine lv_iconst (v := 3) hx hb dX6_digest_58 (by decide) ?_
  refine lv_icmp_gt (tgt := 81) hx hb dX6_digest_59 (by decide) (fun _ => ?_) (fun c9 => absurd (by decide) c9)
  refine lv_lload_n hx hb dX6_digest_81 rfl (lv_at hl 1 rfl) ?_
  refine lv_ldc2 (v := 31) hx hb hown (hAm.wd qw_542 rfl rfl) dX6_digest_82 ?_
  refine lv_lmul hx hb dX6_digest_85 ?_
  refine lv_aload_n hx hb dX6_digest_86 rfl (lv_at hl 2 rfl) ?_
  refine tg_calli (va_runV (As := []) (rest := [.long ((dgS (dgS (dgS (dgS (dgVR v (dgRR v (dgCR v (dgMR v (dgS (dgS (dgS (dgS (dgS (dgS (dgS (dgS (dgS 5750 (nI 2)) (nI 6)) (nI (vn v))) (nI (smR (fun k => cK v k) (vn v)))) (nI (vN v 2))) (nI (vN v 3))) (nI (vN v 4))) (nI (smR (fun c => bN (vC v c).1) 6))) (nI (smR (fun j => bN (vMI v j 7)) 2))) 2) 6) (vn v)) 5) (vI v 2)) (vI v 3)) (vI v 4)) (vI v 0)) * 31)]) (Ts := []) ⟨hx, hb, hml, hown, fun _ h9 => absurd h9 List.not_mem_nil⟩ (pu_wouldMove l E _ ad v G_3 hI hS) (rc_cwV hAm qw_610 qw_1 qw_613 qw_611 qw_612 rfl rfl hd_X6_wouldMove ⟨Nat.le_of_ble_eq_true rfl, Nat.le_of_ble_eq_true rfl⟩) (tg_preV hAm hA hw hco (q := vwCl[7]) rfl) rfl rfl hl.1 rfl (lv_room (Nat.le_of_ble_eq_true rfl)) dX6_digest_87 ⟨Nat.le_of_ble_eq_true rfl, Nat.le_of_ble_eq_true rfl⟩) hA hw (fun r_6 G_5 H locs hp hw => ?_)
  obtain ⟨hr9, hS, hu⟩ := hp
  rw [hr9]
  have hco := (hu 8 (by omega)).trans hco
  have hI := hI.scr (fun t9 h9 => hu t9 (by omega))
  have HO := fun (t9 : Nat) (h9 : t9 < 15 ∨ 31 ≤ t9) => (hu t9 (by omega)).trans (HO t9 h9)
  refine lv_i2l (v := ((nI (wm v 6 (vN v 4)))).toInt64) hx hb dX6_digest_90 rfl ?_
  refine lv_ladd hx hb dX6_digest_91 ?_
  refine rc_topl (dgS (dgS (dgS (dgS (dgS (dgVR v (dgRR v (dgCR v (dgMR v (dgS (dgS (dgS (dgS (dgS (dgS (dgS (dgS (dgS 5750 (nI 2)) (nI 6)) (nI (vn v))) (nI (smR (fun k => cK v k) (vn v)))) (nI (vN v 2))) (nI (vN v 3))) (nI (vN v 4))) (nI (smR (fun c => bN (vC v c).1) 6))) (nI (smR (fun j => bN (vMI v j 7)) 2))) 2) 6) (vn v)) 5) (vI v 2)) (vI v 3)) (vI v 4)) (vI v 0)) (nI (wm v 6 (vN v 4)))) rfl ?_
  exact tg_lret hx hb hr hlocks hw (⟨rfl, hS, HO⟩) (Nat.le_of_ble_eq_true rfl) (Nat.le_of_ble_eq_true rfl) dX6_digest_92
