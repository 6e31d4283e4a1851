theorem hd_X6_measure : yX6_measure.cls ≠ "java/lang/invoke/MethodHandle" ∧ yX6_measure.cls ≠ "java/lang/invoke/VarHandle" ∧ (parseMethodDescriptor yX6_measure.desc).map (fun d => d.parameters.length) = some 2 := by decide +kernel
set_option maxHeartbeats 4000000 in
set_option maxRecDepth 100000 in
theorem cw_L_measure (l : Launch) (hst : l.stackTraces = false) (E : rc_E) (sz : Nat) (h0 : Nat) (x0 : Int32) (x1 : Int32) (h1 : Nat) (h2 : Nat) (h3 : Nat) (h4 : Nat) (h5 : Nat) (h6 : Nat) (h7 : Nat) (h8 : Nat) : rc_Mi l yL_measure [Cond.codeWith yL_measure cL_measure 5 (some FieldType.int) [(0, 17, 20, 21), (0, 17, 24, 13)]] { frames := 7, cells := 1, slots := 6, locals := 105 } E [.ref h0, .int x0, .int x1, .ref h1] [(h0, .inr (11, [.ref h2, .ref h3, .ref h4, .ref h5, .ref h6, .ref h7, .ref h8, .int 3, .int 50, .int 1000, .int 100, .int 0, .int (-1)])), (h2, .inr (4, [.int 0, .ref (E.2.2 0), .int 0]))] sz (S := va_W) (fun (r : Int32) (u : va_W) => (x0 < 0 ∧ 1 = r ∧ u = []) ∨ (¬ x0 < 0 ∧ 1 = r ∧ u = [])) (fun u => u) 1 6 := by
  refine rc_inWi (hh := [(0, 17, 20, 21), (0, 17, 24, 13)]) (cc := cL_measure) (maxL := 5) (ret := (some FieldType.int)) (by decide) rfl (Nat.le_of_ble_eq_true rfl) ?_
  intro p e s m args below meth c ls A htb hx hb hr hml _ hown hlocks hin hA hAm hw hl
  have hown : s.vm.findClass RL = some m.cls := hown
  have hl : lv_has ls 5 [(0, .ref h0), (1, .int x0), (2, .int x1), (3, .ref h1)] := hl
  refine lv_aload_n hx hb dL_measure_0 rfl (lv_at hl 3 rfl) ?_
  refine lv_iconst (v := 0) hx hb dL_measure_1 (by decide) ?_
  refine lv_aload_n hx hb dL_measure_2 rfl (lv_at hl 0 rfl) ?_
  refine lv_iload_n hx hb dL_measure_3 rfl (lv_at hl 1 rfl) ?_
  refine lv_iload_n hx hb dL_measure_4 rfl (lv_at hl 2 rfl) ?_
  refine rc_callxi (wr := []) (vx_runV (As := [.int x0, .int x1]) (rest := [.int 0, .ref h1]) (Ts := []) ⟨hx, hb, hml, hown, fun _ h9 => absurd h9 List.not_mem_nil⟩ (cw_X6_measure l hst E _ h0 x0 x1 h2 h3 h4 h5 h6 h7 h8) (rc_cwV hAm qw_613 qw_1 qw_616 qw_614 qw_615 rfl rfl hd_X6_measure ⟨Nat.le_of_ble_eq_true rfl, Nat.le_of_ble_eq_true rfl⟩) (rc_preV hAm hA hw [0, 1] rfl rfl 0 rfl (q := vwCl[11]) rfl) rfl rfl hl.1 rfl (lv_room (Nat.le_of_ble_eq_true rfl)) dL_measure_5 ⟨Nat.le_of_ble_eq_true rfl, Nat.le_of_ble_eq_true rfl⟩) hA hw [0, 1] [] rfl rfl rfl (by decide) (fun x9 ce9 q9 H locs hp hw h91 h92 h93 => ?_) (fun r_1 u_2 H locs hp hw => ?_)
  · rcases hp with ⟨rfl, c_3⟩ | ⟨rfl, c_4⟩
    · refine vx_catch (own := RL) (name := "java/lang/IndexOutOfBoundsException") hown [] ⟨0, 17, 20, 21⟩ [⟨0, 17, 24, 13⟩] (by rw [htb]; rfl) (fun z9 h9 => absurd h9 List.not_mem_nil) (by decide) (by decide) (hAm.wd qw_612 rfl rfl) (hAm.wd qw_619 rfl rfl) h91 h92 h93 ?_
      refine lv_astore (lv' := [(4, .ref q9), (0, .ref h0), (1, .int x0), (2, .int x1), (3, .ref h1)]) hx hb dL_measure_20 hl (by decide) rfl (fun ls hl => ?_)
      refine lv_iconst (v := 1) hx hb dL_measure_22 (by decide) ?_
      exact rc_iret (v := 1) hx hb hr hlocks hw [] (Or.inl ⟨c_3, rfl, rfl⟩) [] rfl (by decide) (Nat.le_of_ble_eq_true rfl) (Nat.le_of_ble_eq_true rfl) dL_measure_23
    · refine vx_catch (own := RL) (name := "java/lang/IndexOutOfBoundsException") hown [] ⟨0, 17, 20, 21⟩ [⟨0, 17, 24, 13⟩] (by rw [htb]; rfl) (fun z9 h9 => absurd h9 List.not_mem_nil) (by decide) (by decide) (hAm.wd qw_612 rfl rfl) (hAm.wd qw_619 rfl rfl) h91 h92 h93 ?_
      refine lv_astore (lv' := [(4, .ref q9), (0, .ref h0), (1, .int x0), (2, .int x1), (3, .ref h1)]) hx hb dL_measure_20 hl (by decide) rfl (fun ls hl => ?_)
      refine lv_iconst (v := 1) hx hb dL_measure_22 (by decide) ?_
      exact rc_iret (v := 1) hx hb hr hlocks hw [] (Or.inr ⟨c_4, rfl, rfl⟩) [] rfl (by decide) (Nat.le_of_ble_eq_true rfl) (Nat.le_of_ble_eq_true rfl) dL_measure_23
  · exact hp.elim
theorem hd_X6_ofMachine : yX6_ofMachine.cls ≠ "java/lang/invoke/MethodHandle" ∧ yX6_ofMachine.cls ≠ "java/lang/invoke/VarHandle" ∧ (parseMethodDescriptor yX6_ofMachine.desc).map (fun d => d.parameters.length) = some 2 := by decide +kernel
set_option maxHeartbeats 4000000 in
set_option maxRecDepth 100000 in
theorem cw_L_ofMachine (l : Launch) (hst : l.stackTraces = false) (E : rc_E) (sz : Nat) (h0 : Nat) (x0 : Int32) (x1 : Int32) (h1 : Nat) (h2 : Nat) (h3 : Nat) (h4 : Nat) (h5 : Nat) (h6 : Nat) (h7 : Nat) (h8 : Nat) : rc_Mi l yL_ofMachine [Cond.codeWith yL_ofMachine cL_ofMachine 5 (some FieldType.int) [(0, 10, 13, 21), (0, 10, 17, 13)]] { frames := 7, cells := 1, slots := 6, locals := 104 } E [.ref h0, .int x0, .int x1, .ref h1] [(h0, .inr (11, [.ref h2, .ref h3, .ref h4, .ref h5, .ref h6, .ref h7, .ref h8, .int 3, .int 50, .int 1000, .int 100, .int 0, .int (-1)])), (h2, .inr (4, [.int 0, .ref (E.2.2 0), .int 0]))] sz (S := va_W) (fun (r : Int32) (u : va_W) => (x0 < 0 ∧ 1 = r ∧ u = []) ∨ (¬ x0 < 0 ∧ 1 = r ∧ u = [])) (fun u => u) 1 6 := by
  refine rc_inWi (hh := [(0, 10, 13, 21), (0, 10, 17, 13)]) (cc := cL_ofMachine) (maxL := 5) (ret := (some FieldType.int)) (by decide) rfl (Nat.le_of_ble_eq_true rfl) ?_
  intro p e s m args below meth c ls A htb hx hb hr hml _ hown hlocks hin hA hAm hw hl
  have hown : s.vm.findClass RL = some m.cls := hown
  have hl : lv_has ls 5 [(0, .ref h0), (1, .int x0), (2, .int x1), (3, .ref h1)] := hl
  refine lv_aload_n hx hb dL_ofMachine_0 rfl (lv_at hl 3 rfl) ?_
  refine lv_iconst (v := 0) hx hb dL_ofMachine_1 (by decide) ?_
  refine lv_aload_n hx hb dL_ofMachine_2 rfl (lv_at hl 0 rfl) ?_
  refine lv_iload_n hx hb dL_ofMachine_3 rfl (lv_at hl 1 rfl) ?_
  refine lv_iload_n hx hb dL_ofMachine_4 rfl (lv_at hl 2 rfl) ?_
  refine rc_callxi (wr := []) (vx_runV (As := [.int x0, .int x1]) (rest := [.int 0, .ref h1]) (Ts := []) ⟨hx, hb, hml, hown, fun _ h9 => absurd h9 List.not_mem_nil⟩ (cw_X6_ofMachine l hst E _ h0 x0 x1 h2 h3 h4 h5 h6 h7 h8) (rc_cwV hAm qw_667 qw_1 qw_670 qw_668 qw_669 rfl rfl hd_X6_ofMachine ⟨Nat.le_of_ble_eq_true rfl, Nat.le_of_ble_eq_true rfl⟩) (rc_preV hAm hA hw [0, 1] rfl rfl 0 rfl (q := vwCl[11]) rfl) rfl rfl hl.1 rfl (lv_room (Nat.le_of_ble_eq_true rfl)) dL_ofMachine_5 ⟨Nat.le_of_ble_eq_true rfl, Nat.le_of_ble_eq_true rfl⟩) hA hw [0, 1] [] rfl rfl rfl (by decide) (fun x9 ce9 q9 H locs hp hw h91 h92 h93 => ?_) (fun r_1 u_2 H locs hp hw => ?_)
  · rcases hp with ⟨rfl, c_3⟩ | ⟨rfl, c_4⟩
    · refine vx_catch (own := RL) (name := "java/lang/IndexOutOfBoundsException") hown [] ⟨0, 10, 13, 21⟩ [⟨0, 10, 17, 13⟩] (by rw [htb]; rfl) (fun z9 h9 => absurd h9 List.not_mem_nil) (by decide) (by decide) (hAm.wd qw_612 rfl rfl) (hAm.wd qw_619 rfl rfl) h91 h92 h93 ?_
      refine lv_astore (lv' := [(4, .ref q9), (0, .ref h0), (1, .int x0), (2, .int x1), (3, .ref h1)]) hx hb dL_ofMachine_13 hl (by decide) rfl (fun ls hl => ?_)
      refine lv_iconst (v := 1) hx hb dL_ofMachine_15 (by decide) ?_
      exact rc_iret (v := 1) hx hb hr hlocks hw [] (Or.inl ⟨c_3, rfl, rfl⟩) [] rfl (by decide) (Nat.le_of_ble_eq_true rfl) (Nat.le_of_ble_eq_true rfl) dL_ofMachine_16
    · refine vx_catch (own := RL) (name := "java/lang/IndexOutOfBoundsException") hown [] ⟨0, 10, 13, 21⟩ [⟨0, 10, 17, 13⟩] (by rw [htb]; rfl) (fun z9 h9 => absurd h9 List.not_mem_nil) (by decide) (by decide) (hAm.wd qw_612 rfl rfl) (hAm.wd qw_619 rfl rfl) h91 h92 h93 ?_
      refine lv_astore (lv' := [(4, .ref q9), (0, .ref h0), (1, .int x0), (2, .int x1), (3, .ref h1)]) hx hb dL_ofMachine_13 hl (by decide) rfl (fun ls hl => ?_)
      refine lv_iconst (v := 1) hx hb dL_ofMachine_15 (by decide) ?_
      exact rc_iret (v := 1) hx hb hr hlocks hw [] (Or.inr ⟨c_4, rfl, rfl⟩) [] rfl (by decide) (Nat.le_of_ble_eq_true rfl) (Nat.le_of_ble_eq_true rfl) dL_ofMachine_16
  · exact hp.elim
theorem hd_X6_run : yX6_run.cls ≠ "java/lang/invoke/MethodHandle" ∧ yX6_run.cls ≠ "java/lang/invoke/VarHandle" ∧ (parseMethodDescriptor yX6_run.desc).map (fun d => d.parameters.length) = some 3 := by decide +kernel
set_option maxHeartbeats 4000000 in
set_option maxRecDepth 100000 in
theorem cw_L_run (l : Launch) (hst : l.stackTraces = false) (E : rc_E) (sz : Nat) (h0 : Nat) (x0 : Int32) (x1 : Int32) (x2 : Int32) (h1 : Nat) (h2 : Nat) (h3 : Nat) (h4 : Nat) (h5 : Nat) (h6 : Nat) (h7 : Nat) (h8 : Nat) (h9 : Nat) : rc_Mi l yL_run [Cond.codeWith yL_run cL_run 6 (some FieldType.int) [(0, 12, 15, 21), (0, 12, 19, 13), (0, 12, 23, 15)]] { frames := 7, cells := 1, slots := 6, locals := 107 } E [.ref h0, .int x0, .int x1, .int x2, .ref h1] [(h0, .inr (11, [.ref h2, .ref h3, .ref h4, .ref h5, .ref h6, .ref h7, .ref h8, .int 3, .int 50, .int 1000, .int 100, .int 0, .int (-1)])), (h2, .inr (4, [.int 0, .ref (E.2.2 0), .int 0])), (h3, .inr (4, [.int 1, .ref h9, .int 1]))] sz (S := va_W) (fun (r : Int32) (u : va_W) => (x0 < 0 ∧ 1 = r ∧ u = []) ∨ (x1 < 0 ∧ x0 = 0 ∧ 1 = r ∧ u = []) ∨ (¬ x1 < 0 ∧ x0 = 0 ∧ 1 = r ∧ u = []) ∨ (¬ x0 < 0 ∧ ¬ x0 < 1 ∧ 1 = r ∧ u = [])) (fun u => u) 1 6 := by
  refine rc_inWi (hh := [(0, 12, 15, 21), (0, 12, 19, 13), (0, 12, 23, 15)]) (cc := cL_run) (maxL := 6) (ret := (some FieldType.int)) (by decide) rfl (Nat.le_of_ble_eq_true rfl) ?_
  intro p e s m args below meth c ls A htb hx hb hr hml _ hown hlocks hin hA hAm hw hl
  have hown : s.vm.findClass RL = some m.cls := hown
  have hl : lv_has ls 6 [(0, .ref h0), (1, .int x0), (2, .int x1), (3, .int x2), (4, .ref h1)] := hl
  refine lv_aload hx hb dL_run_0 (lv_at hl 4 rfl) ?_
  refine lv_iconst (v := 0) hx hb dL_run_2 (by decide) ?_
  refine lv_aload_n hx hb dL_run_3 rfl (lv_at hl 0 rfl) ?_
  refine lv_iload_n hx hb dL_run_4 rfl (lv_at hl 1 rfl) ?_
  refine lv_iload_n hx hb dL_run_5 rfl (lv_at hl 2 rfl) ?_
  refine lv_iload_n hx hb dL_run_6 rfl (lv_at hl 3 rfl) ?_
  refine rc_callxi (wr := []) (vx_runV (As := [.int x0, .int x1, .int x2]) (rest := [.int 0, .ref h1]) (Ts := []) ⟨hx, hb, hml, hown, fun _ h9 => absurd h9 List.not_mem_nil⟩ (cw_X6_run l hst E _ h0 x0 x1 x2 h2 h3 h4 h5 h6 h7 h8 h9) (rc_cwV hAm qw_684 qw_1 qw_687 qw_685 qw_686 rfl rfl hd_X6_run ⟨Nat.le_of_ble_eq_true rfl, Nat.le_of_ble_eq_true rfl⟩) (rc_preV hAm hA hw [0, 1, 2] rfl rfl 0 rfl (q := vwCl[11]) rfl) rfl rfl hl.1 rfl (lv_room (Nat.le_of_ble_eq_true rfl)) dL_run_7 ⟨Nat.le_of_ble_eq_true rfl, Nat.le_of_ble_eq_true rfl⟩) hA hw [0, 1, 2] [] rfl rfl rfl (by decide) (fun x9 ce9 q9 H locs hp hw h91 h92 h93 => ?_) (fun r_1 u_2 H locs hp hw => ?_)
  · rcases hp with ⟨rfl, c_3⟩ | ⟨rfl, c_4, c_5⟩ | ⟨rfl, c_6, c_7⟩ | ⟨rfl, c_8, c_9⟩
    · refine vx_catch (own := RL) (name := "java/lang/IndexOutOfBoundsException") hown [] ⟨0, 12, 15, 21⟩ [⟨0, 12, 19, 13⟩, ⟨0, 12, 23, 15⟩] (by rw [htb]; rfl) (fun z9 h9 => absurd h9 List.not_mem_nil) (by decide) (by decide) (hAm.wd qw_612 rfl rfl) (hAm.wd qw_619 rfl rfl) h91 h92 h93 ?_
      refine lv_astore (lv' := [(5, .ref q9), (0, .ref h0), (1, .int x0), (2, .int x1), (3, .int x2), (4, .ref h1)]) hx hb dL_run_15 hl (by decide) rfl (fun ls hl => ?_)
      refine lv_iconst (v := 1) hx hb dL_run_17 (by decide) ?_
      exact rc_iret (v := 1) hx hb hr hlocks hw [] (Or.inl ⟨c_3, rfl, rfl⟩) [] rfl (by decide) (Nat.le_of_ble_eq_true rfl) (Nat.le_of_ble_eq_true rfl) dL_run_18
    · obtain rfl : x0 = 0 := rc_eqc (b := 0) rfl (by have g_c_5 := rc_g5 (b := 0) c_5 rfl; omega)
      refine vx_catch (own := RL) (name := "java/lang/IndexOutOfBoundsException") hown [] ⟨0, 12, 15, 21⟩ [⟨0, 12, 19, 13⟩, ⟨0, 12, 23, 15⟩] (by rw [htb]; rfl) (fun z9 h9 => absurd h9 List.not_mem_nil) (by decide) (by decide) (hAm.wd qw_612 rfl rfl) (hAm.wd qw_619 rfl rfl) h91 h92 h93 ?_
      refine lv_astore (lv' := [(5, .ref q9), (0, .ref h0), (1, .int 0), (2, .int x1), (3, .int x2), (4, .ref h1)]) hx hb dL_run_15 hl (by decide) rfl (fun ls hl => ?_)
      refine lv_iconst (v := 1) hx hb dL_run_17 (by decide) ?_
      exact rc_iret (v := 1) hx hb hr hlocks hw [] (Or.inr (Or.inl ⟨c_4, rfl, rfl, rfl⟩)) [] rfl (by decide) (Nat.le_of_ble_eq_true rfl) (Nat.le_of_ble_eq_true rfl) dL_run_18
    · obtain rfl : x0 = 0 := rc_eqc (b := 0) rfl (by have g_c_7 := rc_g5 (b := 0) c_7 rfl; omega)
      refine vx_catch (own := RL) (name := "java/lang/IndexOutOfBoundsException") hown [] ⟨0, 12, 15, 21⟩ [⟨0, 12, 19, 13⟩, ⟨0, 12, 23, 15⟩] (by rw [htb]; rfl) (fun z9 h9 => absurd h9 List.not_mem_nil) (by decide) (by decide) (hAm.wd qw_612 rfl rfl) (hAm.wd qw_619 rfl rfl) h91 h92 h93 ?_
      refine lv_astore (lv' := [(5, .ref q9), (0, .ref h0), (1, .int 0), (2, .int x1), (3, .int x2), (4, .ref h1)]) hx hb dL_run_15 hl (by decide) rfl (fun ls hl => ?_)
      refine lv_iconst (v := 1) hx hb dL_run_17 (by decide) ?_
      exact rc_iret (v := 1) hx hb hr hlocks hw [] (Or.inr (Or.inr (Or.inl ⟨c_6, rfl, rfl, rfl⟩))) [] rfl (by decide) (Nat.le_of_ble_eq_true rfl) (Nat.le_of_ble_eq_true rfl) dL_run_18
    · refine vx_catch (own := RL) (name := "java/lang/IndexOutOfBoundsException") hown [] ⟨0, 12, 15, 21⟩ [⟨0, 12, 19, 13⟩, ⟨0, 12, 23, 15⟩] (by rw [htb]; rfl) (fun z9 h9 => absurd h9 List.not_mem_nil) (by decide) (by decide) (hAm.wd qw_612 rfl rfl) (hAm.wd qw_619 rfl rfl) h91 h92 h93 ?_
      refine lv_astore (lv' := [(5, .ref q9), (0, .ref h0), (1, .int x0), (2, .int x1), (3, .int x2), (4, .ref h1)]) hx hb dL_run_15 hl (by decide) rfl (fun ls hl => ?_)
      refine lv_iconst (v := 1) hx hb dL_run_17 (by decide) ?_
      exact rc_iret (v := 1) hx hb hr hlocks hw [] (Or.inr (Or.inr (Or.inr ⟨c_8, c_9, rfl, rfl⟩))) [] rfl (by decide) (Nat.le_of_ble_eq_true rfl) (Nat.le_of_ble_eq_true rfl) dL_run_18
  · exact hp.elim
theorem hd_X6_strike : yX6_strike.cls ≠ "java/lang/invoke/MethodHandle" ∧ yX6_strike.cls ≠ "java/lang/invoke/VarHandle" ∧ (parseMethodDescriptor yX6_strike.desc).map (fun d => d.parameters.length) = some 1 := by decide +kernel
set_option maxHeartbeats 4000000 in
set_option maxRecDepth 100000 in
theorem cw_L_strike (l : Launch) (hst : l.stackTraces = false) (E : rc_E) (sz : Nat) (h0 : Nat) (x0 : Int32) (h1 : Nat) (h2 : Nat) (h3 : Nat) (h4 : Nat) (h5 : Nat) (h6 : Nat) (h7 : Nat) (h8 : Nat) : rc_Mi l yL_strike [Cond.codeWith yL_strike cL_strike 4 (some FieldType.int) [(0, 9, 12, 21), (0, 9, 15, 15)]] { frames := 7, cells := 1, slots := 6, locals := 104 } E [.ref h0, .int x0, .ref h1] [(h0, .inr (11, [.ref h2, .ref h3, .ref h4, .ref h5, .ref h6, .ref h7, .ref h8, .int 3, .int 50, .int 1000, .int 100, .int 0, .int (-1)])), (h4, .inr (4, [.int 0, .ref (E.2.2 0), .int 0]))] sz (S := va_W) (fun (r : Int32) (u : va_W) => (x0 < 0 ∧ 1 = r ∧ u = []) ∨ (¬ x0 < 0 ∧ 1 = r ∧ u = [])) (fun u => u) 1 6 := by
  refine rc_inWi (hh := [(0, 9, 12, 21), (0, 9, 15, 15)]) (cc := cL_strike) (maxL := 4) (ret := (some FieldType.int)) (by decide) rfl (Nat.le_of_ble_eq_true rfl) ?_
  intro p e s m args below meth c ls A htb hx hb hr hml _ hown hlocks hin hA hAm hw hl
  have hown : s.vm.findClass RL = some m.cls := hown
  have hl : lv_has ls 4 [(0, .ref h0), (1, .int x0), (2, .ref h1)] := hl
  refine lv_aload_n hx hb dL_strike_0 rfl (lv_at hl 2 rfl) ?_
  refine lv_iconst (v := 0) hx hb dL_strike_1 (by decide) ?_
  refine lv_aload_n hx hb dL_strike_2 rfl (lv_at hl 0 rfl) ?_
  refine lv_iload_n hx hb dL_strike_3 rfl (lv_at hl 1 rfl) ?_
  refine rc_callxi (wr := []) (vx_runV (As := [.int x0]) (rest := [.int 0, .ref h1]) (Ts := []) ⟨hx, hb, hml, hown, fun _ h9 => absurd h9 List.not_mem_nil⟩ (cw_X6_strike l hst E _ h0 x0 h2 h3 h4 h5 h6 h7 h8) (rc_cwV hAm qw_729 qw_1 qw_732 qw_730 qw_731 rfl rfl hd_X6_strike ⟨Nat.le_of_ble_eq_true rfl, Nat.le_of_ble_eq_true rfl⟩) (rc_preV hAm hA hw [0, 1] rfl rfl 0 rfl (q := vwCl[11]) rfl) rfl rfl hl.1 rfl (lv_room (Nat.le_of_ble_eq_true rfl)) dL_strike_4 ⟨Nat.le_of_ble_eq_true rfl, Nat.le_of_ble_eq_true rfl⟩) hA hw [0, 1] [] rfl rfl rfl (by decide) (fun x9 ce9 q9 H locs hp hw h91 h92 h93 => ?_) (fun r_1 u_2 H locs hp hw => ?_)
  · rcases hp with ⟨rfl, c_3⟩ | ⟨rfl, c_4⟩
    · refine vx_catch (own := RL) (name := "java/lang/IndexOutOfBoundsException") hown [] ⟨0, 9, 12, 21⟩ [⟨0, 9, 15, 15⟩] (by rw [htb]; rfl) (fun z9 h9 => absurd h9 List.not_mem_nil) (by decide) (by decide) (hAm.wd qw_612 rfl rfl) (hAm.wd qw_619 rfl rfl) h91 h92 h93 ?_
      refine lv_astore_n (lv' := [(3, .ref q9), (0, .ref h0), (1, .int x0), (2, .ref h1)]) hx hb dL_strike_12 rfl hl (by decide) rfl (fun ls hl => ?_)
      refine lv_iconst (v := 1) hx hb dL_strike_13 (by decide) ?_
      exact rc_iret (v := 1) hx hb hr hlocks hw [] (Or.inl ⟨c_3, rfl, rfl⟩) [] rfl (by decide) (Nat.le_of_ble_eq_true rfl) (Nat.le_of_ble_eq_true rfl) dL_strike_14
    · refine vx_catch (own := RL) (name := "java/lang/IndexOutOfBoundsException") hown [] ⟨0, 9, 12, 21⟩ [⟨0, 9, 15, 15⟩] (by rw [htb]; rfl) (fun z9 h9 => absurd h9 List.not_mem_nil) (by decide) (by decide) (hAm.wd qw_612 rfl rfl) (hAm.wd qw_619 rfl rfl) h91 h92 h93 ?_
      refine lv_astore_n (lv' := [(3, .ref q9), (0, .ref h0), (1, .int x0), (2, .ref h1)]) hx hb dL_strike_12 rfl hl (by decide) rfl (fun ls hl => ?_)
      refine lv_iconst (v := 1) hx hb dL_strike_13 (by decide) ?_
      exact rc_iret (v := 1) hx hb hr hlocks hw [] (Or.inr ⟨c_4, rfl, rfl⟩) [] rfl (by decide) (Nat.le_of_ble_eq_true rfl) (Nat.le_of_ble_eq_true rfl) dL_strike_14
  · exact hp.elim
theorem hd_X6_ofRun : yX6_ofRun.cls ≠ "java/lang/invoke/MethodHandle" ∧ yX6_ofRun.cls ≠ "java/lang/invoke/VarHandle" ∧ (parseMethodDescriptor yX6_ofRun.desc).map (fun d => d.parameters.length) = some 2 := by decide +kernel
set_option maxHeartbeats 4000000 in
set_option maxRecDepth 100000 in
theorem cw_L_ofRun (l : Launch) (hst : l.stackTraces = false) (E : rc_E) (sz : Nat) (h0 : Nat) (x0 : Int32) (x1 : Int32) (h1 : Nat) (h2 : Nat) (h3 : Nat) (h4 : Nat) (h5 : Nat) (h6 : Nat) (h7 : Nat) (h8 : Nat) : rc_Mi l yL_ofRun [Cond.codeWith yL_ofRun cL_ofRun 5 (some FieldType.int) [(0, 10, 13, 21), (0, 10, 17, 13)]] { frames := 7, cells := 1, slots := 6, locals := 104 } E [.ref h0, .int x0, .int x1, .ref h1] [(h0, .inr (11, [.ref h2, .ref h3, .ref h4, .ref h5, .ref h6, .ref h7, .ref h8, .int 3, .int 50, .int 1000, .int 100, .int 0, .int (-1)])), (h4, .inr (4, [.int 0, .ref (E.2.2 0), .int 0]))] sz (S := va_W) (fun (r : Int32) (u : va_W) => (x0 < 0 ∧ 1 = r ∧ u = []) ∨ (¬ x0 < 0 ∧ 1 = r ∧ u = [])) (fun u => u) 1 6 := by
  refine rc_inWi (hh := [(0, 10, 13, 21), (0, 10, 17, 13)]) (cc := cL_ofRun) (maxL := 5) (ret := (some FieldType.int)) (by decide) rfl (Nat.le_of_ble_eq_true rfl) ?_
  intro p e s m args below meth c ls A htb hx hb hr hml _ hown hlocks hin hA hAm hw hl
  have hown : s.vm.findClass RL = some m.cls := hown
  have hl : lv_has ls 5 [(0, .ref h0), (1, .int x0), (2, .int x1), (3, .ref h1)] := hl
  refine lv_aload_n hx hb dL_ofRun_0 rfl (lv_at hl 3 rfl) ?_
  refine lv_iconst (v := 0) hx hb dL_ofRun_1 (by decide) ?_
  refine lv_aload_n hx hb dL_ofRun_2 rfl (lv_at hl 0 rfl) ?_
  refine lv_iload_n hx hb dL_ofRun_3 rfl (lv_at hl 1 rfl) ?_
  refine lv_iload_n hx hb dL_ofRun_4 rfl (lv_at hl 2 rfl) ?_
  refine rc_callxi (wr := []) (vx_runV (As := [.int x0, .int x1]) (rest := [.int 0, .ref h1]) (Ts := []) ⟨hx, hb, hml, hown, fun _ h9 => absurd h9 List.not_mem_nil⟩ (cw_X6_ofRun l hst E _ h0 x0 x1 h2 h3 h4 h5 h6 h7 h8) (rc_cwV hAm qw_738 qw_1 qw_741 qw_739 qw_740 rfl rfl hd_X6_ofRun ⟨Nat.le_of_ble_eq_true rfl, Nat.le_of_ble_eq_true rfl⟩) (rc_preV hAm hA hw [0, 1] rfl rfl 0 rfl (q := vwCl[11]) rfl) rfl rfl hl.1 rfl (lv_room (Nat.le_of_ble_eq_true rfl)) dL_ofRun_5 ⟨Nat.le_of_ble_eq_true rfl, Nat.le_of_ble_eq_true rfl⟩) hA hw [0, 1] [] rfl rfl rfl (by decide) (fun x9 ce9 q9 H locs hp hw h91 h92 h93 => ?_) (fun r_1 u_2 H locs hp hw => ?_)
  · rcases hp with ⟨rfl, c_3⟩ | ⟨rfl, c_4⟩
    · refine vx_catch (own := RL) (name := "java/lang/IndexOutOfBoundsException") hown [] ⟨0, 10, 13, 21⟩ [⟨0, 10, 17, 13⟩] (by rw [htb]; rfl) (fun z9 h9 => absurd h9 List.not_mem_nil) (by decide) (by decide) (hAm.wd qw_612 rfl rfl) (hAm.wd qw_619 rfl rfl) h91 h92 h93 ?_
      refine lv_astore (lv' := [(4, .ref q9), (0, .ref h0), (1, .int x0), (2, .int x1), (3, .ref h1)]) hx hb dL_ofRun_13 hl (by decide) rfl (fun ls hl => ?_)
      refine lv_iconst (v := 1) hx hb dL_ofRun_15 (by decide) ?_
      exact rc_iret (v := 1) hx hb hr hlocks hw [] (Or.inl ⟨c_3, rfl, rfl⟩) [] rfl (by decide) (Nat.le_of_ble_eq_true rfl) (Nat.le_of_ble_eq_true rfl) dL_ofRun_16
    · refine vx_catch (own := RL) (name := "java/lang/IndexOutOfBoundsException") hown [] ⟨0, 10, 13, 21⟩ [⟨0, 10, 17, 13⟩] (by rw [htb]; rfl) (fun z9 h9 => absurd h9 List.not_mem_nil) (by decide) (by decide) (hAm.wd qw_612 rfl rfl) (hAm.wd qw_619 rfl rfl) h91 h92 h93 ?_
      refine lv_astore (lv' := [(4, .ref q9), (0, .ref h0), (1, .int x0), (2, .int x1), (3, .ref h1)]) hx hb dL_ofRun_13 hl (by decide) rfl (fun ls hl => ?_)
      refine lv_iconst (v := 1) hx hb dL_ofRun_15 (by decide) ?_
      exact rc_iret (v := 1) hx hb hr hlocks hw [] (Or.inr ⟨c_4, rfl, rfl⟩) [] rfl (by decide) (Nat.le_of_ble_eq_true rfl) (Nat.le_of_ble_eq_true rfl) dL_ofRun_16
  · exact hp.elim
theorem hd_X6_ofChange : yX6_ofChange.cls ≠ "java/lang/invoke/MethodHandle" ∧ yX6_ofChange.cls ≠ "java/lang/invoke/VarHandle" ∧ (parseMethodDescriptor yX6_ofChange.desc).map (fun d => d.parameters.length) = some 2 := by decide +kernel
set_option maxHeartbeats 4000000 in
set_option maxRecDepth 100000 in
theorem cw_L_ofChange (l : Launch) (hst : l.stackTraces = false) (E : rc_E) (sz : Nat) (h0 : Nat) (x0 : Int32) (x1 : Int32) (h1 : Nat) (h2 : Nat) (h3 : Nat) (h4 : Nat) (h5 : Nat) (h6 : Nat) (h7 : Nat) (h8 : Nat) (h9 : Nat) (h10 : Nat) (h11 : Nat) : rc_Mi l yL_ofChange [Cond.codeWith yL_ofChange cL_ofChange 5 (some FieldType.int) [(0, 10, 13, 21), (0, 10, 17, 13)]] { frames := 7, cells := 1, slots := 6, locals := 104 } E [.ref h0, .int x0, .int x1, .ref h1] [(h0, .inr (11, [.ref h2, .ref h3, .ref h4, .ref h5, .ref h6, .ref h7, .ref h8, .int 3, .int 50, .int 1000, .int 100, .int 0, .int (-1)])), (h3, .inr (4, [.int 1, .ref h9, .int 1])), (h5, .inr (6, [.ref h10, .int 0, .int 0])), (h10, .inr (4, [.int 0, .ref (E.2.2 0), .int 0])), (h6, .inr (10, [.ref h11, .int 0])), (h1, .inl (E.2.1 4, 1, .inr (.inl (fun _ => 0))))] sz (S := va_W) (fun (r : Int32) (u : va_W) => (x0 < 0 ∧ 1 = r ∧ u = [(h1, .inl (E.2.1 4, 1, .inr (.inl (fun _ => 0))))]) ∨ (x1 < 0 ∧ x0 = 0 ∧ 2 = r ∧ u = [(h1, .inl (E.2.1 4, 1, .inr (.inl (fun _ => 0))))]) ∨ (¬ x1 < 0 ∧ ¬ x1 ≤ 5 ∧ x0 = 0 ∧ 2 = r ∧ u = [(h1, .inl (E.2.1 4, 1, .inr (.inl (fun _ => 0))))]) ∨ (¬ x0 < 0 ∧ ¬ x0 < 1 ∧ 1 = r ∧ u = [(h1, .inl (E.2.1 4, 1, .inr (.inl (fun _ => 0))))]) ∨ (x0 = 0 ∧ x1 = 0 ∧ 0 = r ∧ u = [(h1, .inl (E.2.1 4, 1, .inr (.inl (vp_updL (fun _ => 0) 0 0))))]) ∨ (x0 = 0 ∧ x1 = 1 ∧ 0 = r ∧ u = [(h1, .inl (E.2.1 4, 1, .inr (.inl (vp_updL (fun _ => 0) 0 0))))]) ∨ (x0 = 0 ∧ x1 = 2 ∧ 0 = r ∧ u = [(h1, .inl (E.2.1 4, 1, .inr (.inl (vp_updL (fun _ => 0) 0 (-1)))))]) ∨ (x0 = 0 ∧ x1 = 3 ∧ 0 = r ∧ u = [(h1, .inl (E.2.1 4, 1, .inr (.inl (vp_updL (fun _ => 0) 0 (-1)))))]) ∨ (x0 = 0 ∧ x1 = 4 ∧ 0 = r ∧ u = [(h1, .inl (E.2.1 4, 1, .inr (.inl (vp_updL (fun _ => 0) 0 (-1)))))]) ∨ (x0 = 0 ∧ x1 = 5 ∧ 0 = r ∧ u = [(h1, .inl (E.2.1 4, 1, .inr (.inl (vp_updL (fun _ => 0) 0 0))))])) (fun u => u) 1 6 := by
  refine rc_inWi (hh := [(0, 10, 13, 21), (0, 10, 17, 13)]) (cc := cL_ofChange) (maxL := 5) (ret := (some FieldType.int)) (by decide) rfl (Nat.le_of_ble_eq_true rfl) ?_
  intro p e s m args below meth c ls A htb hx hb hr hml _ hown hlocks hin hA hAm hw hl
  have hown : s.vm.findClass RL = some m.cls := hown
  have hl : lv_has ls 5 [(0, .ref h0), (1, .int x0), (2, .int x1), (3, .ref h1)] := hl
  refine lv_aload_n hx hb dL_ofChange_0 rfl (lv_at hl 3 rfl) ?_
  refine lv_iconst (v := 0) hx hb dL_ofChange_1 (by decide) ?_
  refine lv_aload_n hx hb dL_ofChange_2 rfl (lv_at hl 0 rfl) ?_
  refine lv_iload_n hx hb dL_ofChange_3 rfl (lv_at hl 1 rfl) ?_
  refine lv_iload_n hx hb dL_ofChange_4 rfl (lv_at hl 2 rfl) ?_
  refine rc_callxi (wr := [(h1, .inl (E.2.1 4, 1, .inr (.inl (fun _ => 0))))]) (vx_runV (As := [.int x0, .int x1]) (rest := [.int 0, .ref h1]) (Ts := []) ⟨hx, hb, hml, hown, fun _ h9 => absurd h9 List.not_mem_nil⟩ (cw_X6_ofChange l hst E _ h0 x0 x1 h2 h3 h4 h5 h6 h7 h8 h9 h10 h11) (rc_cwV hAm qw_745 qw_1 qw_748 qw_746 qw_747 rfl rfl hd_X6_ofChange ⟨Nat.le_of_ble_eq_true rfl, Nat.le_of_ble_eq_true rfl⟩) (rc_preV hAm hA hw [0, 1, 2, 3, 4] rfl rfl 0 rfl (q := vwCl[11]) rfl) rfl rfl hl.1 rfl (lv_room (Nat.le_of_ble_eq_true rfl)) dL_ofChange_5 ⟨Nat.le_of_ble_eq_true rfl, Nat.le_of_ble_eq_true rfl⟩) hA hw [0, 1, 2, 3, 4] [5] rfl rfl rfl (by decide) (fun x9 ce9 q9 H locs hp hw h91 h92 h93 => ?_) (fun r_1 u_2 H locs hp hw => ?_)
  · rcases hp with ⟨rfl, c_3⟩ | ⟨rfl, c_4, c_5⟩ | ⟨rfl, c_6, c_7, c_8⟩ | ⟨rfl, c_9, c_10⟩
    · refine vx_catch (own := RL) (name := "java/lang/IndexOutOfBoundsException") hown [] ⟨0, 10, 13, 21⟩ [⟨0, 10, 17, 13⟩] (by rw [htb]; rfl) (fun z9 h9 => absurd h9 List.not_mem_nil) (by decide) (by decide) (hAm.wd qw_612 rfl rfl) (hAm.wd qw_619 rfl rfl) h91 h92 h93 ?_
      refine lv_astore (lv' := [(4, .ref q9), (0, .ref h0), (1, .int x0), (2, .int x1), (3, .ref h1)]) hx hb dL_ofChange_13 hl (by decide) rfl (fun ls hl => ?_)
      refine lv_iconst (v := 1) hx hb dL_ofChange_15 (by decide) ?_
      exact rc_iret (v := 1) hx hb hr hlocks hw [(h1, .inl (E.2.1 4, 1, .inr (.inl (fun _ => 0))))] (Or.inl ⟨c_3, rfl, rfl⟩) [0] rfl (by decide) (Nat.le_of_ble_eq_true rfl) (Nat.le_of_ble_eq_true rfl) dL_ofChange_16
    · obtain rfl : x0 = 0 := rc_eqc (b := 0) rfl (by have g_c_5 := rc_g5 (b := 0) c_5 rfl; omega)
      refine vx_catch (own := RL) (name := "java/lang/IllegalArgumentException") hown [⟨0, 10, 13, 21⟩] ⟨0, 10, 17, 13⟩ [] (by rw [htb]; rfl) (List.forall_mem_cons.mpr ⟨Or.inr ⟨by decide, "java/lang/IndexOutOfBoundsException", hAm.wd qw_612 rfl rfl, hAm.1.2.2.2 ("java/lang/IllegalArgumentException", "java/lang/IndexOutOfBoundsException") (by decide)⟩, fun z9 h9 => absurd h9 List.not_mem_nil⟩) (by decide) (by decide) (hAm.wd qw_476 rfl rfl) (hAm.wd qw_490 rfl rfl) h91 h92 h93 ?_
      refine lv_astore (lv' := [(4, .ref q9), (0, .ref h0), (1, .int 0), (2, .int x1), (3, .ref h1)]) hx hb dL_ofChange_17 hl (by decide) rfl (fun ls hl => ?_)
      refine lv_iconst (v := 2) hx hb dL_ofChange_19 (by decide) ?_
      exact rc_iret (v := 2) hx hb hr hlocks hw [(h1, .inl (E.2.1 4, 1, .inr (.inl (fun _ => 0))))] (Or.inr (Or.inl ⟨c_4, rfl, rfl, rfl⟩)) [0] rfl (by decide) (Nat.le_of_ble_eq_true rfl) (Nat.le_of_ble_eq_true rfl) dL_ofChange_20
    · obtain rfl : x0 = 0 := rc_eqc (b := 0) rfl (by have g_c_8 := rc_g5 (b := 0) c_8 rfl; omega)
      refine vx_catch (own := RL) (name := "java/lang/IllegalArgumentException") hown [⟨0, 10, 13, 21⟩] ⟨0, 10, 17, 13⟩ [] (by rw [htb]; rfl) (List.forall_mem_cons.mpr ⟨Or.inr ⟨by decide, "java/lang/IndexOutOfBoundsException", hAm.wd qw_612 rfl rfl, hAm.1.2.2.2 ("java/lang/IllegalArgumentException", "java/lang/IndexOutOfBoundsException") (by decide)⟩, fun z9 h9 => absurd h9 List.not_mem_nil⟩) (by decide) (by decide) (hAm.wd qw_476 rfl rfl) (hAm.wd qw_490 rfl rfl) h91 h92 h93 ?_
      refine lv_astore (lv' := [(4, .ref q9), (0, .ref h0), (1, .int 0), (2, .int x1), (3, .ref h1)]) hx hb dL_ofChange_17 hl (by decide) rfl (fun ls hl => ?_)
      refine lv_iconst (v := 2) hx hb dL_ofChange_19 (by decide) ?_
      exact rc_iret (v := 2) hx hb hr hlocks hw [(h1, .inl (E.2.1 4, 1, .inr (.inl (fun _ => 0))))] (Or.inr (Or.inr (Or.inl ⟨c_6, c_7, rfl, rfl, rfl⟩))) [0] rfl (by decide) (Nat.le_of_ble_eq_true rfl) (Nat.le_of_ble_eq_true rfl) dL_ofChange_20
    · refine vx_catch (own := RL) (name := "java/lang/IndexOutOfBoundsException") hown [] ⟨0, 10, 13, 21⟩ [⟨0, 10, 17, 13⟩] (by rw [htb]; rfl) (fun z9 h9 => absurd h9 List.not_mem_nil) (by decide) (by decide) (hAm.wd qw_612 rfl rfl) (hAm.wd qw_619 rfl rfl) h91 h92 h93 ?_
      refine lv_astore (lv' := [(4, .ref q9), (0, .ref h0), (1, .int x0), (2, .int x1), (3, .ref h1)]) hx hb dL_ofChange_13 hl (by decide) rfl (fun ls hl => ?_)
      refine lv_iconst (v := 1) hx hb dL_ofChange_15 (by decide) ?_
      exact rc_iret (v := 1) hx hb hr hlocks hw [(h1, .inl (E.2.1 4, 1, .inr (.inl (fun _ => 0))))] (Or.inr (Or.inr (Or.inr (Or.inl ⟨c_9, c_10, rfl, rfl⟩)))) [0] rfl (by decide) (Nat.le_of_ble_eq_true rfl) (Nat.le_of_ble_eq_true rfl) dL_ofChange_16
  · rcases hp with ⟨c_11, c_12, rfl, rfl⟩ | ⟨c_13, c_14, rfl, rfl⟩ | ⟨c_15, c_16, rfl, rfl⟩ | ⟨c_17, c_18, rfl, rfl⟩ | ⟨c_19, c_20, rfl, rfl⟩ | ⟨c_21, c_22, rfl, rfl⟩
    · obtain rfl : x0 = 0 := rc_eqc (b := 0) rfl (by have g_c_11 := rc_g5 (b := 0) c_11 rfl; omega)
      obtain rfl : x1 = 0 := rc_eqc (b := 0) rfl (by have g_c_12 := rc_g5 (b := 0) c_12 rfl; omega)
      have hw : rc_W E A s [(h1, .inl (E.2.1 4, 1, .inr (.inl (fun _ => 0)))), (h0, .inr (11, [.ref h2, .ref h3, .ref h4, .ref h5, .ref h6, .ref h7, .ref h8, .int 3, .int 50, .int 1000, .int 100, .int 0, .int (-1)])), (h3, .inr (4, [.int 1, .ref h9, .int 1])), (h5, .inr (6, [.ref h10, .int 0, .int 0])), (h10, .inr (4, [.int 0, .ref (E.2.2 0), .int 0])), (h6, .inr (10, [.ref h11, .int 0]))] H locs := hw
      refine lv_i2l (v := 0) hx hb dL_ofChange_8 (by decide) ?_
      refine rc_last hx hb hAm hw 0 rfl (vp_in_iff.mpr (by decide)) [(h1, .inl (E.2.1 4, 1, .inr (.inl (vp_updL (fun _ => 0) 0 0)))), (h0, .inr (11, [.ref h2, .ref h3, .ref h4, .ref h5, .ref h6, .ref h7, .ref h8, .int 3, .int 50, .int 1000, .int 100, .int 0, .int (-1)])), (h3, .inr (4, [.int 1, .ref h9, .int 1])), (h5, .inr (6, [.ref h10, .int 0, .int 0])), (h10, .inr (4, [.int 0, .ref (E.2.2 0), .int 0])), (h6, .inr (10, [.ref h11, .int 0]))] rfl dL_ofChange_9 (fun H locs hw => ?_)
      refine lv_goto (tgt := 21) hx hb dL_ofChange_10 (by decide) ?_
      refine lv_iconst (v := 0) hx hb dL_ofChange_21 (by decide) ?_
      exact rc_iret (v := 0) hx hb hr hlocks hw [(h1, .inl (E.2.1 4, 1, .inr (.inl (vp_updL (fun _ => 0) 0 0))))] (Or.inr (Or.inr (Or.inr (Or.inr (Or.inl ⟨rfl, rfl, rfl, rfl⟩))))) [0] rfl (by decide) (Nat.le_of_ble_eq_true rfl) (Nat.le_of_ble_eq_true rfl) dL_ofChange_22
    · obtain rfl : x0 = 0 := rc_eqc (b := 0) rfl (by have g_c_13 := rc_g5 (b := 0) c_13 rfl; omega)
      obtain rfl : x1 = 1 := rc_eqc (b := 1) rfl (by have g_c_14 := rc_g5 (b := 1) c_14 rfl; omega)
      have hw : rc_W E A s [(h1, .inl (E.2.1 4, 1, .inr (.inl (fun _ => 0)))), (h0, .inr (11, [.ref h2, .ref h3, .ref h4, .ref h5, .ref h6, .ref h7, .ref h8, .int 3, .int 50, .int 1000, .int 100, .int 0, .int (-1)])), (h3, .inr (4, [.int 1, .ref h9, .int 1])), (h5, .inr (6, [.ref h10, .int 0, .int 0])), (h10, .inr (4, [.int 0, .ref (E.2.2 0), .int 0])), (h6, .inr (10, [.ref h11, .int 0]))] H locs := hw
      refine lv_i2l (v := 0) hx hb dL_ofChange_8 (by decide) ?_
      refine rc_last hx hb hAm hw 0 rfl (vp_in_iff.mpr (by decide)) [(h1, .inl (E.2.1 4, 1, .inr (.inl (vp_updL (fun _ => 0) 0 0)))), (h0, .inr (11, [.ref h2, .ref h3, .ref h4, .ref h5, .ref h6, .ref h7, .ref h8, .int 3, .int 50, .int 1000, .int 100, .int 0, .int (-1)])), (h3, .inr (4, [.int 1, .ref h9, .int 1])), (h5, .inr (6, [.ref h10, .int 0, .int 0])), (h10, .inr (4, [.int 0, .ref (E.2.2 0), .int 0])), (h6, .inr (10, [.ref h11, .int 0]))] rfl dL_ofChange_9 (fun H locs hw => ?_)
      refine lv_goto (tgt := 21) hx hb dL_ofChange_10 (by decide) ?_
      refine lv_iconst (v := 0) hx hb dL_ofChange_21 (by decide) ?_
      exact rc_iret (v := 0) hx hb hr hlocks hw [(h1, .inl (E.2.1 4, 1, .inr (.inl (vp_updL (fun _ => 0) 0 0))))] (Or.inr (Or.inr (Or.inr (Or.inr (Or.inr (Or.inl ⟨rfl, rfl, rfl, rfl⟩)))))) [0] rfl (by decide) (Nat.le_of_ble_eq_true rfl) (Nat.le_of_ble_eq_true rfl) dL_ofChange_22
    · obtain rfl : x0 = 0 := rc_eqc (b := 0) rfl (by have g_c_15 := rc_g5 (b := 0) c_15 rfl; omega)
      obtain rfl : x1 = 2 := rc_eqc (b := 2) rfl (by have g_c_16 := rc_g5 (b := 2) c_16 rfl; omega)
      have hw : rc_W E A s [(h1, .inl (E.2.1 4, 1, .inr (.inl (fun _ => 0)))), (h0, .inr (11, [.ref h2, .ref h3, .ref h4, .ref h5, .ref h6, .ref h7, .ref h8, .int 3, .int 50, .int 1000, .int 100, .int 0, .int (-1)])), (h3, .inr (4, [.int 1, .ref h9, .int 1])), (h5, .inr (6, [.ref h10, .int 0, .int 0])), (h10, .inr (4, [.int 0, .ref (E.2.2 0), .int 0])), (h6, .inr (10, [.ref h11, .int 0]))] H locs := hw
      refine lv_i2l (v := (-1)) hx hb dL_ofChange_8 (by decide) ?_
      refine rc_last hx hb hAm hw 0 rfl (vp_in_iff.mpr (by decide)) [(h1, .inl (E.2.1 4, 1, .inr (.inl (vp_updL (fun _ => 0) 0 (-1))))), (h0, .inr (11, [.ref h2, .ref h3, .ref h4, .ref h5, .ref h6, .ref h7, .ref h8, .int 3, .int 50, .int 1000, .int 100, .int 0, .int (-1)])), (h3, .inr (4, [.int 1, .ref h9, .int 1])), (h5, .inr (6, [.ref h10, .int 0, .int 0])), (h10, .inr (4, [.int 0, .ref (E.2.2 0), .int 0])), (h6, .inr (10, [.ref h11, .int 0]))] rfl dL_ofChange_9 (fun H locs hw => ?_)
      refine lv_goto (tgt := 21) hx hb dL_ofChange_10 (by decide) ?_
      refine lv_iconst (v := 0) hx hb dL_ofChange_21 (by decide) ?_
      exact rc_iret (v := 0) hx hb hr hlocks hw [(h1, .inl (E.2.1 4, 1, .inr (.inl (vp_updL (fun _ => 0) 0 (-1)))))] (Or.inr (Or.inr (Or.inr (Or.inr (Or.inr (Or.inr (Or.inl ⟨rfl, rfl, rfl, rfl⟩))))))) [0] rfl (by decide) (Nat.le_of_ble_eq_true rfl) (Nat.le_of_ble_eq_true rfl) dL_ofChange_22
    · obtain rfl : x0 = 0 := rc_eqc (b := 0) rfl (by have g_c_17 := rc_g5 (b := 0) c_17 rfl; omega)
      obtain rfl : x1 = 3 := rc_eqc (b := 3) rfl (by have g_c_18 := rc_g5 (b := 3) c_18 rfl; omega)
      have hw : rc_W E A s [(h1, .inl (E.2.1 4, 1, .inr (.inl (fun _ => 0)))), (h0, .inr (11, [.ref h2, .ref h3, .ref h4, .ref h5, .ref h6, .ref h7, .ref h8, .int 3, .int 50, .int 1000, .int 100, .int 0, .int (-1)])), (h3, .inr (4, [.int 1, .ref h9, .int 1])), (h5, .inr (6, [.ref h10, .int 0, .int 0])), (h10, .inr (4, [.int 0, .ref (E.2.2 0), .int 0])), (h6, .inr (10, [.ref h11, .int 0]))] H locs := hw
      refine lv_i2l (v := (-1)) hx hb dL_ofChange_8 (by decide) ?_
      refine rc_last hx hb hAm hw 0 rfl (vp_in_iff.mpr (by decide)) [(h1, .inl (E.2.1 4, 1, .inr (.inl (vp_updL (fun _ => 0) 0 (-1))))), (h0, .inr (11, [.ref h2, .ref h3, .ref h4, .ref h5, .ref h6, .ref h7, .ref h8, .int 3, .int 50, .int 1000, .int 100, .int 0, .int (-1)])), (h3, .inr (4, [.int 1, .ref h9, .int 1])), (h5, .inr (6, [.ref h10, .int 0, .int 0])), (h10, .inr (4, [.int 0, .ref (E.2.2 0), .int 0])), (h6, .inr (10, [.ref h11, .int 0]))] rfl dL_ofChange_9 (fun H locs hw => ?_)
      refine lv_goto (tgt := 21) hx hb dL_ofChange_10 (by decide) ?_
      refine lv_iconst (v := 0) hx hb dL_ofChange_21 (by decide) ?_
      exact rc_iret (v := 0) hx hb hr hlocks hw [(h1, .inl (E.2.1 4, 1, .inr (.inl (vp_updL (fun _ => 0) 0 (-1)))))] (Or.inr (Or.inr (Or.inr (Or.inr (Or.inr (Or.inr (Or.inr (Or.inl ⟨rfl, rfl, rfl, rfl⟩)))))))) [0] rfl (by decide) (Nat.le_of_ble_eq_true rfl) (Nat.le_of_ble_eq_true rfl) dL_ofChange_22
    · obtain rfl : x0 = 0 := rc_eqc (b := 0) rfl (by have g_c_19 := rc_g5 (b := 0) c_19 rfl; omega)
      obtain rfl : x1 = 4 := rc_eqc (b := 4) rfl (by have g_c_20 := rc_g5 (b := 4) c_20 rfl; omega)
      have hw : rc_W E A s [(h1, .inl (E.2.1 4, 1, .inr (.inl (fun _ => 0)))), (h0, .inr (11, [.ref h2, .ref h3, .ref h4, .ref h5, .ref h6, .ref h7, .ref h8, .int 3, .int 50, .int 1000, .int 100, .int 0, .int (-1)])), (h3, .inr (4, [.int 1, .ref h9, .int 1])), (h5, .inr (6, [.ref h10, .int 0, .int 0])), (h10, .inr (4, [.int 0, .ref (E.2.2 0), .int 0])), (h6, .inr (10, [.ref h11, .int 0]))] H locs := hw
      refine lv_i2l (v := (-1)) hx hb dL_ofChange_8 (by decide) ?_
      refine rc_last hx hb hAm hw 0 rfl (vp_in_iff.mpr (by decide)) [(h1, .inl (E.2.1 4, 1, .inr (.inl (vp_updL (fun _ => 0) 0 (-1))))), (h0, .inr (11, [.ref h2, .ref h3, .ref h4, .ref h5, .ref h6, .ref h7, .ref h8, .int 3, .int 50, .int 1000, .int 100, .int 0, .int (-1)])), (h3, .inr (4, [.int 1, .ref h9, .int 1])), (h5, .inr (6, [.ref h10, .int 0, .int 0])), (h10, .inr (4, [.int 0, .ref (E.2.2 0), .int 0])), (h6, .inr (10, [.ref h11, .int 0]))] rfl dL_ofChange_9 (fun H locs hw => ?_)
      refine lv_goto (tgt := 21) hx hb dL_ofChange_10 (by decide) ?_
      refine lv_iconst (v := 0) hx hb dL_ofChange_21 (by decide) ?_
      exact rc_iret (v := 0) hx hb hr hlocks hw [(h1, .inl (E.2.1 4, 1, .inr (.inl (vp_updL (fun _ => 0) 0 (-1)))))] (Or.inr (Or.inr (Or.inr (Or.inr (Or.inr (Or.inr (Or.inr (Or.inr (Or.inl ⟨rfl, rfl, rfl, rfl⟩))))))))) [0] rfl (by decide) (Nat.le_of_ble_eq_true rfl) (Nat.le_of_ble_eq_true rfl) dL_ofChange_22
    · obtain rfl : x0 = 0 := rc_eqc (b := 0) rfl (by have g_c_21 := rc_g5 (b := 0) c_21 rfl; omega)
      obtain rfl : x1 = 5 := rc_eqc (b := 5) rfl (by have g_c_22 := rc_g5 (b := 5) c_22 rfl; omega)
      have hw : rc_W E A s [(h1, .inl (E.2.1 4, 1, .inr (.inl (fun _ => 0)))), (h0, .inr (11, [.ref h2, .ref h3, .ref h4, .ref h5, .ref h6, .ref h7, .ref h8, .int 3, .int 50, .int 1000, .int 100, .int 0, .int (-1)])), (h3, .inr (4, [.int 1, .ref h9, .int 1])), (h5, .inr (6, [.ref h10, .int 0, .int 0])), (h10, .inr (4, [.int 0, .ref (E.2.2 0), .int 0])), (h6, .inr (10, [.ref h11, .int 0]))] H locs := hw
      refine lv_i2l (v := 0) hx hb dL_ofChange_8 (by decide) ?_
      refine rc_last hx hb hAm hw 0 rfl (vp_in_iff.mpr (by decide)) [(h1, .inl (E.2.1 4, 1, .inr (.inl (vp_updL (fun _ => 0) 0 0)))), (h0, .inr (11, [.ref h2, .ref h3, .ref h4, .ref h5, .ref h6, .ref h7, .ref h8, .int 3, .int 50, .int 1000, .int 100, .int 0, .int (-1)])), (h3, .inr (4, [.int 1, .ref h9, .int 1])), (h5, .inr (6, [.ref h10, .int 0, .int 0])), (h10, .inr (4, [.int 0, .ref (E.2.2 0), .int 0])), (h6, .inr (10, [.ref h11, .int 0]))] rfl dL_ofChange_9 (fun H locs hw => ?_)
      refine lv_goto (tgt := 21) hx hb dL_ofChange_10 (by decide) ?_
      refine lv_iconst (v := 0) hx hb dL_ofChange_21 (by decide) ?_
      exact rc_iret (v := 0) hx hb hr hlocks hw [(h1, .inl (E.2.1 4, 1, .inr (.inl (vp_updL (fun _ => 0) 0 0))))] (Or.inr (Or.inr (Or.inr (Or.inr (Or.inr (Or.inr (Or.inr (Or.inr (Or.inr ⟨rfl, rfl, rfl, rfl⟩))))))))) [0] rfl (by decide) (Nat.le_of_ble_eq_true rfl) (Nat.le_of_ble_eq_true rfl) dL_ofChange_22
theorem hd_X6_verdict : yX6_verdict.cls ≠ "java/lang/invoke/MethodHandle" ∧ yX6_verdict.cls ≠ "java/lang/invoke/VarHandle" ∧ (parseMethodDescriptor yX6_verdict.desc).map (fun d => d.parameters.length) = some 3 := by decide +kernel
set_option maxHeartbeats 4000000 in
set_option maxRecDepth 100000 in
theorem cw_L_verdict (l : Launch) (hst : l.stackTraces = false) (E : rc_E) (sz : Nat) (h0 : Nat) (x0 : Int32) (x1 : Int32) (x2 : Int32) (h1 : Nat) (h2 : Nat) (h3 : Nat) (h4 : Nat) (h5 : Nat) (h6 : Nat) (h7 : Nat) (h8 : Nat) (h9 : Nat) (h10 : Nat) (h11 : Nat) (h12 : Nat) (h13 : Nat) (h14 : Nat) (h15 : Nat) (h16 : Nat) (h17 : Nat) (h18 : Nat) (h19 : Nat) (h20 : Nat) (h21 : Nat) (h22 : Nat) (h23 : Nat) : rc_Mi l yL_verdict [Cond.codeWith yL_verdict cL_verdict 6 (some FieldType.int) [(0, 12, 15, 21), (0, 12, 19, 13)]] { frames := 7, cells := 1, slots := 6, locals := 113 } E [.ref h0, .int x0, .int x1, .int x2, .ref h1] [(h0, .inr (11, [.ref h2, .ref h3, .ref h4, .ref h5, .ref h6, .ref h7, .ref h8, .int 3, .int 50, .int 1000, .int 100, .int 0, .int (-1)])), (h3, .inr (4, [.int 1, .ref h9, .int 1])), (h5, .inr (6, [.ref h10, .int 0, .int 0])), (h10, .inr (4, [.int 0, .ref (E.2.2 0), .int 0])), (h7, .inr (7, [.ref h11, .ref h12, .ref h13, .ref h14, .int 0, .int 0, .int 0, .int 1, .int 1, .int 1])), (h11, .inr (10, [.ref h15, .int 0])), (h12, .inr (10, [.ref h16, .int 0])), (h14, .inl (E.2.1 1, 7, .inr (.inr (.inr (.inr (rc_rows [h17, h18, h19, h20, h21, h22, h23])))))), (h17, .inl (E.2.1 0, 133, .inl (fun _ => 0))), (h18, .inl (E.2.1 0, 133, .inl (fun _ => 0))), (h19, .inl (E.2.1 0, 133, .inl (fun _ => 0))), (h20, .inl (E.2.1 0, 133, .inl (fun _ => 0))), (h21, .inl (E.2.1 0, 133, .inl (fun _ => 0))), (h22, .inl (E.2.1 0, 133, .inl (fun _ => 0))), (h23, .inl (E.2.1 0, 133, .inl (fun _ => 0))), (h1, .inl (E.2.1 4, 1, .inr (.inl (fun _ => 0))))] sz (S := va_W) (fun (r : Int32) (u : va_W) => (x0 < 0 ∧ 1 = r ∧ u = [(h1, .inl (E.2.1 4, 1, .inr (.inl (fun _ => 0))))]) ∨ (x1 < 0 ∧ x0 = 0 ∧ 1 = r ∧ u = [(h1, .inl (E.2.1 4, 1, .inr (.inl (fun _ => 0))))]) ∨ (x2 < 0 ∧ x0 = 0 ∧ x1 = 0 ∧ 2 = r ∧ u = [(h1, .inl (E.2.1 4, 1, .inr (.inl (fun _ => 0))))]) ∨ (¬ x2 < 0 ∧ ¬ x2 ≤ 4 ∧ x0 = 0 ∧ x1 = 0 ∧ 2 = r ∧ u = [(h1, .inl (E.2.1 4, 1, .inr (.inl (fun _ => 0))))]) ∨ (¬ x1 < 0 ∧ ¬ x1 < 1 ∧ x0 = 0 ∧ 1 = r ∧ u = [(h1, .inl (E.2.1 4, 1, .inr (.inl (fun _ => 0))))]) ∨ (¬ x0 < 0 ∧ ¬ x0 < 1 ∧ 1 = r ∧ u = [(h1, .inl (E.2.1 4, 1, .inr (.inl (fun _ => 0))))]) ∨ (x0 = 0 ∧ x1 = 0 ∧ x2 = 0 ∧ 0 = r ∧ u = [(h1, .inl (E.2.1 4, 1, .inr (.inl (vp_updL (fun _ => 0) 0 0))))]) ∨ (x0 = 0 ∧ x1 = 0 ∧ x2 = 1 ∧ 0 = r ∧ u = [(h1, .inl (E.2.1 4, 1, .inr (.inl (vp_updL (fun _ => 0) 0 0))))]) ∨ (x0 = 0 ∧ x1 = 0 ∧ x2 = 2 ∧ 0 = r ∧ u = [(h1, .inl (E.2.1 4, 1, .inr (.inl (vp_updL (fun _ => 0) 0 1))))]) ∨ (x0 = 0 ∧ x1 = 0 ∧ x2 = 3 ∧ 0 = r ∧ u = [(h1, .inl (E.2.1 4, 1, .inr (.inl (vp_updL (fun _ => 0) 0 1))))]) ∨ (x0 = 0 ∧ x1 = 0 ∧ x2 = 4 ∧ 0 = r ∧ u = [(h1, .inl (E.2.1 4, 1, .inr (.inl (vp_updL (fun _ => 0) 0 1))))])) (fun u => u) 1 6 := by
  refine rc_inWi (hh := [(0, 12, 15, 21), (0, 12, 19, 13)]) (cc := cL_verdict) (maxL := 6) (ret := (some FieldType.int)) (by decide) rfl (Nat.le_of_ble_eq_true rfl) ?_
  intro p e s m args below meth c ls A htb hx hb hr hml _ hown hlocks hin hA hAm hw hl
  have hown : s.vm.findClass RL = some m.cls := hown
  have hl : lv_has ls 6 [(0, .ref h0), (1, .int x0), (2, .int x1), (3, .int x2), (4, .ref h1)] := hl
  refine lv_aload hx hb dL_verdict_0 (lv_at hl 4 rfl) ?_
  refine lv_iconst (v := 0) hx hb dL_verdict_2 (by decide) ?_
  refine lv_aload_n hx hb dL_verdict_3 rfl (lv_at hl 0 rfl) ?_
  refine lv_iload_n hx hb dL_verdict_4 rfl (lv_at hl 1 rfl) ?_
  refine lv_iload_n hx hb dL_verdict_5 rfl (lv_at hl 2 rfl) ?_
  refine lv_iload_n hx hb dL_verdict_6 rfl (lv_at hl 3 rfl) ?_
  refine rc_callxi (wr := [(h1, .inl (E.2.1 4, 1, .inr (.inl (fun _ => 0))))]) (vx_runV (As := [.int x0, .int x1, .int x2]) (rest := [.int 0, .ref h1]) (Ts := []) ⟨hx, hb, hml, hown, fun _ h9 => absurd h9 List.not_mem_nil⟩ (cw_X6_verdict l hst E _ h0 x0 x1 x2 h2 h3 h4 h5 h6 h7 h8 h9 h10 h11 h12 h13 h14 h15 h16 h17 h18 h19 h20 h21 h22 h23) (rc_cwV hAm qw_753 qw_1 qw_756 qw_754 qw_755 rfl rfl hd_X6_verdict ⟨Nat.le_of_ble_eq_true rfl, Nat.le_of_ble_eq_true rfl⟩) (rc_preV hAm hA hw [0, 1, 2, 3, 4, 5, 6, 7, 8, 9, 10, 11, 12, 13, 14] rfl rfl 0 rfl (q := vwCl[11]) rfl) rfl rfl hl.1 rfl (lv_room (Nat.le_of_ble_eq_true rfl)) dL_verdict_7 ⟨Nat.le_of_ble_eq_true rfl, Nat.le_of_ble_eq_true rfl⟩) hA hw [0, 1, 2, 3, 4, 5, 6, 7, 8, 9, 10, 11, 12, 13, 14] [15] rfl rfl rfl (by decide) (fun x9 ce9 q9 H locs hp hw h91 h92 h93 => ?_) (fun r_1 u_2 H locs hp hw => ?_)
  · rcases hp with ⟨rfl, c_3⟩ | ⟨rfl, c_4, c_5⟩ | ⟨rfl, c_6, c_7, c_8⟩ | ⟨rfl, c_9, c_10, c_11, c_12⟩ | ⟨rfl, c_13, c_14, c_15⟩ | ⟨rfl, c_16, c_17⟩
    · refine vx_catch (own := RL) (name := "java/lang/IndexOutOfBoundsException") hown [] ⟨0, 12, 15, 21⟩ [⟨0, 12, 19, 13⟩] (by rw [htb]; rfl) (fun z9 h9 => absurd h9 List.not_mem_nil) (by decide) (by decide) (hAm.wd qw_612 rfl rfl) (hAm.wd qw_619 rfl rfl) h91 h92 h93 ?_
      refine lv_astore (lv' := [(5, .ref q9), (0, .ref h0), (1, .int x0), (2, .int x1), (3, .int x2), (4, .ref h1)]) hx hb dL_verdict_15 hl (by decide) rfl (fun ls hl => ?_)
      refine lv_iconst (v := 1) hx hb dL_verdict_17 (by decide) ?_
      exact rc_iret (v := 1) hx hb hr hlocks hw [(h1, .inl (E.2.1 4, 1, .inr (.inl (fun _ => 0))))] (Or.inl ⟨c_3, rfl, rfl⟩) [0] rfl (by decide) (Nat.le_of_ble_eq_true rfl) (Nat.le_of_ble_eq_true rfl) dL_verdict_18
    · obtain rfl : x0 = 0 := rc_eqc (b := 0) rfl (by have g_c_5 := rc_g5 (b := 0) c_5 rfl; omega)
      refine vx_catch (own := RL) (name := "java/lang/IndexOutOfBoundsException") hown [] ⟨0, 12, 15, 21⟩ [⟨0, 12, 19, 13⟩] (by rw [htb]; rfl) (fun z9 h9 => absurd h9 List.not_mem_nil) (by decide) (by decide) (hAm.wd qw_612 rfl rfl) (hAm.wd qw_619 rfl rfl) h91 h92 h93 ?_
      refine lv_astore (lv' := [(5, .ref q9), (0, .ref h0), (1, .int 0), (2, .int x1), (3, .int x2), (4, .ref h1)]) hx hb dL_verdict_15 hl (by decide) rfl (fun ls hl => ?_)
      refine lv_iconst (v := 1) hx hb dL_verdict_17 (by decide) ?_
      exact rc_iret (v := 1) hx hb hr hlocks hw [(h1, .inl (E.2.1 4, 1, .inr (.inl (fun _ => 0))))] (Or.inr (Or.inl ⟨c_4, rfl, rfl, rfl⟩)) [0] rfl (by decide) (Nat.le_of_ble_eq_true rfl) (Nat.le_of_ble_eq_true rfl) dL_verdict_18
    · obtain rfl : x0 = 0 := rc_eqc (b := 0) rfl (by have g_c_7 := rc_g5 (b := 0) c_7 rfl; omega)
      obtain rfl : x1 = 0 := rc_eqc (b := 0) rfl (by have g_c_8 := rc_g5 (b := 0) c_8 rfl; omega)
      refine vx_catch (own := RL) (name := "java/lang/IllegalArgumentException") hown [⟨0, 12, 15, 21⟩] ⟨0, 12, 19, 13⟩ [] (by rw [htb]; rfl) (List.forall_mem_cons.mpr ⟨Or.inr ⟨by decide, "java/lang/IndexOutOfBoundsException", hAm.wd qw_612 rfl rfl, hAm.1.2.2.2 ("java/lang/IllegalArgumentException", "java/lang/IndexOutOfBoundsException") (by decide)⟩, fun z9 h9 => absurd h9 List.not_mem_nil⟩) (by decide) (by decide) (hAm.wd qw_476 rfl rfl) (hAm.wd qw_490 rfl rfl) h91 h92 h93 ?_
      refine lv_astore (lv' := [(5, .ref q9), (0, .ref h0), (1, .int 0), (2, .int 0), (3, .int x2), (4, .ref h1)]) hx hb dL_verdict_19 hl (by decide) rfl (fun ls hl => ?_)
      refine lv_iconst (v := 2) hx hb dL_verdict_21 (by decide) ?_
      exact rc_iret (v := 2) hx hb hr hlocks hw [(h1, .inl (E.2.1 4, 1, .inr (.inl (fun _ => 0))))] (Or.inr (Or.inr (Or.inl ⟨c_6, rfl, rfl, rfl, rfl⟩))) [0] rfl (by decide) (Nat.le_of_ble_eq_true rfl) (Nat.le_of_ble_eq_true rfl) dL_verdict_22
    · obtain rfl : x0 = 0 := rc_eqc (b := 0) rfl (by have g_c_11 := rc_g5 (b := 0) c_11 rfl; omega)
      obtain rfl : x1 = 0 := rc_eqc (b := 0) rfl (by have g_c_12 := rc_g5 (b := 0) c_12 rfl; omega)
      refine vx_catch (own := RL) (name := "java/lang/IllegalArgumentException") hown [⟨0, 12, 15, 21⟩] ⟨0, 12, 19, 13⟩ [] (by rw [htb]; rfl) (List.forall_mem_cons.mpr ⟨Or.inr ⟨by decide, "java/lang/IndexOutOfBoundsException", hAm.wd qw_612 rfl rfl, hAm.1.2.2.2 ("java/lang/IllegalArgumentException", "java/lang/IndexOutOfBoundsException") (by decide)⟩, fun z9 h9 => absurd h9 List.not_mem_nil⟩) (by decide) (by decide) (hAm.wd qw_476 rfl rfl) (hAm.wd qw_490 rfl rfl) h91 h92 h93 ?_
      refine lv_astore (lv' := [(5, .ref q9), (0, .ref h0), (1, .int 0), (2, .int 0), (3, .int x2), (4, .ref h1)]) hx hb dL_verdict_19 hl (by decide) rfl (fun ls hl => ?_)
      refine lv_iconst (v := 2) hx hb dL_verdict_21 (by decide) ?_
      exact rc_iret (v := 2) hx hb hr hlocks hw [(h1, .inl (E.2.1 4, 1, .inr (.inl (fun _ => 0))))] (Or.inr (Or.inr (Or.inr (Or.inl ⟨c_9, c_10, rfl, rfl, rfl, rfl⟩)))) [0] rfl (by decide) (Nat.le_of_ble_eq_true rfl) (Nat.le_of_ble_eq_true rfl) dL_verdict_22
    · obtain rfl : x0 = 0 := rc_eqc (b := 0) rfl (by have g_c_15 := rc_g5 (b := 0) c_15 rfl; omega)
      refine vx_catch (own := RL) (name := "java/lang/IndexOutOfBoundsException") hown [] ⟨0, 12, 15, 21⟩ [⟨0, 12, 19, 13⟩] (by rw [htb]; rfl) (fun z9 h9 => absurd h9 List.not_mem_nil) (by decide) (by decide) (hAm.wd qw_612 rfl rfl) (hAm.wd qw_619 rfl rfl) h91 h92 h93 ?_
      refine lv_astore (lv' := [(5, .ref q9), (0, .ref h0), (1, .int 0), (2, .int x1), (3, .int x2), (4, .ref h1)]) hx hb dL_verdict_15 hl (by decide) rfl (fun ls hl => ?_)
      refine lv_iconst (v := 1) hx hb dL_verdict_17 (by decide) ?_
      exact rc_iret (v := 1) hx hb hr hlocks hw [(h1, .inl (E.2.1 4, 1, .inr (.inl (fun _ => 0))))] (Or.inr (Or.inr (Or.inr (Or.inr (Or.inl ⟨c_13, c_14, rfl, rfl, rfl⟩))))) [0] rfl (by decide) (Nat.le_of_ble_eq_true rfl) (Nat.le_of_ble_eq_true rfl) dL_verdict_18
    · refine vx_catch (own := RL) (name := "java/lang/IndexOutOfBoundsException") hown [] ⟨0, 12, 15, 21⟩ [⟨0, 12, 19, 13⟩] (by rw [htb]; rfl) (fun z9 h9 => absurd h9 List.not_mem_nil) (by decide) (by decide) (hAm.wd qw_612 rfl rfl) (hAm.wd qw_619 rfl rfl) h91 h92 h93 ?_
      refine lv_astore (lv' := [(5, .ref q9), (0, .ref h0), (1, .int x0), (2, .int x1), (3, .int x2), (4, .ref h1)]) hx hb dL_verdict_15 hl (by decide) rfl (fun ls hl => ?_)
      refine lv_iconst (v := 1) hx hb dL_verdict_17 (by decide) ?_
      exact rc_iret (v := 1) hx hb hr hlocks hw [(h1, .inl (E.2.1 4, 1, .inr (.inl (fun _ => 0))))] (Or.inr (Or.inr (Or.inr (Or.inr (Or.inr (Or.inl ⟨c_16, c_17, rfl, rfl⟩)))))) [0] rfl (by decide) (Nat.le_of_ble_eq_true rfl) (Nat.le_of_ble_eq_true rfl) dL_verdict_18
  · rcases hp with ⟨c_18, c_19, c_20, rfl, rfl⟩ | ⟨c_21, c_22, c_23, rfl, rfl⟩ | ⟨c_24, c_25, c_26, rfl, rfl⟩ | ⟨c_27, c_28, c_29, rfl, rfl⟩ | ⟨c_30, c_31, c_32, rfl, rfl⟩
    · obtain rfl : x0 = 0 := rc_eqc (b := 0) rfl (by have g_c_18 := rc_g5 (b := 0) c_18 rfl; omega)
      obtain rfl : x1 = 0 := rc_eqc (b := 0) rfl (by have g_c_19 := rc_g5 (b := 0) c_19 rfl; omega)
      obtain rfl : x2 = 0 := rc_eqc (b := 0) rfl (by have g_c_20 := rc_g5 (b := 0) c_20 rfl; omega)
      have hw : rc_W E A s [(h1, .inl (E.2.1 4, 1, .inr (.inl (fun _ => 0)))), (h0, .inr (11, [.ref h2, .ref h3, .ref h4, .ref h5, .ref h6, .ref h7, .ref h8, .int 3, .int 50, .int 1000, .int 100, .int 0, .int (-1)])), (h3, .inr (4, [.int 1, .ref h9, .int 1])), (h5, .inr (6, [.ref h10, .int 0, .int 0])), (h10, .inr (4, [.int 0, .ref (E.2.2 0), .int 0])), (h7, .inr (7, [.ref h11, .ref h12, .ref h13, .ref h14, .int 0, .int 0, .int 0, .int 1, .int 1, .int 1])), (h11, .inr (10, [.ref h15, .int 0])), (h12, .inr (10, [.ref h16, .int 0])), (h14, .inl (E.2.1 1, 7, .inr (.inr (.inr (.inr (rc_rows [h17, h18, h19, h20, h21, h22, h23])))))), (h17, .inl (E.2.1 0, 133, .inl (upd (upd (fun _ => 0) 0 0) 0 1))), (h18, .inl (E.2.1 0, 133, .inl (upd (fun _ => 0) 0 0))), (h19, .inl (E.2.1 0, 133, .inl (upd (fun _ => 0) 0 0))), (h20, .inl (E.2.1 0, 133, .inl (upd (fun _ => 0) 0 0))), (h21, .inl (E.2.1 0, 133, .inl (upd (fun _ => 0) 0 0))), (h22, .inl (E.2.1 0, 133, .inl (upd (fun _ => 0) 0 0))), (h23, .inl (E.2.1 0, 133, .inl (upd (fun _ => 0) 0 0)))] H locs := hw
      refine lv_i2l (v := 0) hx hb dL_verdict_10 (by decide) ?_
      refine rc_last hx hb hAm hw 0 rfl (vp_in_iff.mpr (by decide)) [(h1, .inl (E.2.1 4, 1, .inr (.inl (vp_updL (fun _ => 0) 0 0)))), (h0, .inr (11, [.ref h2, .ref h3, .ref h4, .ref h5, .ref h6, .ref h7, .ref h8, .int 3, .int 50, .int 1000, .int 100, .int 0, .int (-1)])), (h3, .inr (4, [.int 1, .ref h9, .int 1])), (h5, .inr (6, [.ref h10, .int 0, .int 0])), (h10, .inr (4, [.int 0, .ref (E.2.2 0), .int 0])), (h7, .inr (7, [.ref h11, .ref h12, .ref h13, .ref h14, .int 0, .int 0, .int 0, .int 1, .int 1, .int 1])), (h11, .inr (10, [.ref h15, .int 0])), (h12, .inr (10, [.ref h16, .int 0])), (h14, .inl (E.2.1 1, 7, .inr (.inr (.inr (.inr (rc_rows [h17, h18, h19, h20, h21, h22, h23])))))), (h17, .inl (E.2.1 0, 133, .inl (upd (upd (fun _ => 0) 0 0) 0 1))), (h18, .inl (E.2.1 0, 133, .inl (upd (fun _ => 0) 0 0))), (h19, .inl (E.2.1 0, 133, .inl (upd (fun _ => 0) 0 0))), (h20, .inl (E.2.1 0, 133, .inl (upd (fun _ => 0) 0 0))), (h21, .inl (E.2.1 0, 133, .inl (upd (fun _ => 0) 0 0))), (h22, .inl (E.2.1 0, 133, .inl (upd (fun _ => 0) 0 0))), (h23, .inl (E.2.1 0, 133, .inl (upd (fun _ => 0) 0 0)))] rfl dL_verdict_11 (fun H locs hw => ?_)
      refine lv_goto (tgt := 23) hx hb dL_verdict_12 (by decide) ?_
      refine lv_iconst (v := 0) hx hb dL_verdict_23 (by decide) ?_
      exact rc_iret (v := 0) hx hb hr hlocks hw [(h1, .inl (E.2.1 4, 1, .inr (.inl (vp_updL (fun _ => 0) 0 0))))] (Or.inr (Or.inr (Or.inr (Or.inr (Or.inr (Or.inr (Or.inl ⟨rfl, rfl, rfl, rfl, rfl⟩))))))) [0] rfl (by decide) (Nat.le_of_ble_eq_true rfl) (Nat.le_of_ble_eq_true rfl) dL_verdict_24
    · obtain rfl : x0 = 0 := rc_eqc (b := 0) rfl (by have g_c_21 := rc_g5 (b := 0) c_21 rfl; omega)
      obtain rfl : x1 = 0 := rc_eqc (b := 0) rfl (by have g_c_22 := rc_g5 (b := 0) c_22 rfl; omega)
      obtain rfl : x2 = 1 := rc_eqc (b := 1) rfl (by have g_c_23 := rc_g5 (b := 1) c_23 rfl; omega)
      have hw : rc_W E A s [(h1, .inl (E.2.1 4, 1, .inr (.inl (fun _ => 0)))), (h0, .inr (11, [.ref h2, .ref h3, .ref h4, .ref h5, .ref h6, .ref h7, .ref h8, .int 3, .int 50, .int 1000, .int 100, .int 0, .int (-1)])), (h3, .inr (4, [.int 1, .ref h9, .int 1])), (h5, .inr (6, [.ref h10, .int 0, .int 0])), (h10, .inr (4, [.int 0, .ref (E.2.2 0), .int 0])), (h7, .inr (7, [.ref h11, .ref h12, .ref h13, .ref h14, .int 0, .int 0, .int 0, .int 1, .int 1, .int 1])), (h11, .inr (10, [.ref h15, .int 0])), (h12, .inr (10, [.ref h16, .int 0])), (h14, .inl (E.2.1 1, 7, .inr (.inr (.inr (.inr (rc_rows [h17, h18, h19, h20, h21, h22, h23])))))), (h17, .inl (E.2.1 0, 133, .inl (upd (upd (fun _ => 0) 0 0) 0 1))), (h18, .inl (E.2.1 0, 133, .inl (upd (fun _ => 0) 0 0))), (h19, .inl (E.2.1 0, 133, .inl (upd (fun _ => 0) 0 0))), (h20, .inl (E.2.1 0, 133, .inl (upd (fun _ => 0) 0 0))), (h21, .inl (E.2.1 0, 133, .inl (upd (fun _ => 0) 0 0))), (h22, .inl (E.2.1 0, 133, .inl (upd (fun _ => 0) 0 0))), (h23, .inl (E.2.1 0, 133, .inl (upd (fun _ => 0) 0 0)))] H locs := hw
      refine lv_i2l (v := 0) hx hb dL_verdict_10 (by decide) ?_
      refine rc_last hx hb hAm hw 0 rfl (vp_in_iff.mpr (by decide)) [(h1, .inl (E.2.1 4, 1, .inr (.inl (vp_updL (fun _ => 0) 0 0)))), (h0, .inr (11, [.ref h2, .ref h3, .ref h4, .ref h5, .ref h6, .ref h7, .ref h8, .int 3, .int 50, .int 1000, .int 100, .int 0, .int (-1)])), (h3, .inr (4, [.int 1, .ref h9, .int 1])), (h5, .inr (6, [.ref h10, .int 0, .int 0])), (h10, .inr (4, [.int 0, .ref (E.2.2 0), .int 0])), (h7, .inr (7, [.ref h11, .ref h12, .ref h13, .ref h14, .int 0, .int 0, .int 0, .int 1, .int 1, .int 1])), (h11, .inr (10, [.ref h15, .int 0])), (h12, .inr (10, [.ref h16, .int 0])), (h14, .inl (E.2.1 1, 7, .inr (.inr (.inr (.inr (rc_rows [h17, h18, h19, h20, h21, h22, h23])))))), (h17, .inl (E.2.1 0, 133, .inl (upd (upd (fun _ => 0) 0 0) 0 1))), (h18, .inl (E.2.1 0, 133, .inl (upd (fun _ => 0) 0 0))), (h19, .inl (E.2.1 0, 133, .inl (upd (fun _ => 0) 0 0))), (h20, .inl (E.2.1 0, 133, .inl (upd (fun _ => 0) 0 0))), (h21, .inl (E.2.1 0, 133, .inl (upd (fun _ => 0) 0 0))), (h22, .inl (E.2.1 0, 133, .inl (upd (fun _ => 0) 0 0))), (h23, .inl (E.2.1 0, 133, .inl (upd (fun _ => 0) 0 0)))] rfl dL_verdict_11 (fun H locs hw => ?_)
      refine lv_goto (tgt := 23) hx hb dL_verdict_12 (by decide) ?_
      refine lv_iconst (v := 0) hx hb dL_verdict_23 (by decide) ?_
      exact rc_iret (v := 0) hx hb hr hlocks hw [(h1, .inl (E.2.1 4, 1, .inr (.inl (vp_updL (fun _ => 0) 0 0))))] (Or.inr (Or.inr (Or.inr (Or.inr (Or.inr (Or.inr (Or.inr (Or.inl ⟨rfl, rfl, rfl, rfl, rfl⟩)))))))) [0] rfl (by decide) (Nat.le_of_ble_eq_true rfl) (Nat.le_of_ble_eq_true rfl) dL_verdict_24
    · obtain rfl : x0 = 0 := rc_eqc (b := 0) rfl (by have g_c_24 := rc_g5 (b := 0) c_24 rfl; omega)
      obtain rfl : x1 = 0 := rc_eqc (b := 0) rfl (by have g_c_25 := rc_g5 (b := 0) c_25 rfl; omega)
      obtain rfl : x2 = 2 := rc_eqc (b := 2) rfl (by have g_c_26 := rc_g5 (b := 2) c_26 rfl; omega)
      have hw : rc_W E A s [(h1, .inl (E.2.1 4, 1, .inr (.inl (fun _ => 0)))), (h0, .inr (11, [.ref h2, .ref h3, .ref h4, .ref h5, .ref h6, .ref h7, .ref h8, .int 3, .int 50, .int 1000, .int 100, .int 0, .int (-1)])), (h3, .inr (4, [.int 1, .ref h9, .int 1])), (h5, .inr (6, [.ref h10, .int 0, .int 0])), (h10, .inr (4, [.int 0, .ref (E.2.2 0), .int 0])), (h7, .inr (7, [.ref h11, .ref h12, .ref h13, .ref h14, .int 0, .int 0, .int 0, .int 1, .int 1, .int 1])), (h11, .inr (10, [.ref h15, .int 0])), (h12, .inr (10, [.ref h16, .int 0])), (h14, .inl (E.2.1 1, 7, .inr (.inr (.inr (.inr (rc_rows [h17, h18, h19, h20, h21, h22, h23])))))), (h17, .inl (E.2.1 0, 133, .inl (upd (upd (fun _ => 0) 0 0) 0 1))), (h18, .inl (E.2.1 0, 133, .inl (upd (fun _ => 0) 0 0))), (h19, .inl (E.2.1 0, 133, .inl (upd (fun _ => 0) 0 0))), (h20, .inl (E.2.1 0, 133, .inl (upd (fun _ => 0) 0 0))), (h21, .inl (E.2.1 0, 133, .inl (upd (fun _ => 0) 0 0))), (h22, .inl (E.2.1 0, 133, .inl (upd (fun _ => 0) 0 0))), (h23, .inl (E.2.1 0, 133, .inl (upd (fun _ => 0) 0 0)))] H locs := hw
      refine lv_i2l (v := 1) hx hb dL_verdict_10 (by decide) ?_
      refine rc_last hx hb hAm hw 0 rfl (vp_in_iff.mpr (by decide)) [(h1, .inl (E.2.1 4, 1, .inr (.inl (vp_updL (fun _ => 0) 0 1)))), (h0, .inr (11, [.ref h2, .ref h3, .ref h4, .ref h5, .ref h6, .ref h7, .ref h8, .int 3, .int 50, .int 1000, .int 100, .int 0, .int (-1)])), (h3, .inr (4, [.int 1, .ref h9, .int 1])), (h5, .inr (6, [.ref h10, .int 0, .int 0])), (h10, .inr (4, [.int 0, .ref (E.2.2 0), .int 0])), (h7, .inr (7, [.ref h11, .ref h12, .ref h13, .ref h14, .int 0, .int 0, .int 0, .int 1, .int 1, .int 1])), (h11, .inr (10, [.ref h15, .int 0])), (h12, .inr (10, [.ref h16, .int 0])), (h14, .inl (E.2.1 1, 7, .inr (.inr (.inr (.inr (rc_rows [h17, h18, h19, h20, h21, h22, h23])))))), (h17, .inl (E.2.1 0, 133, .inl (upd (upd (fun _ => 0) 0 0) 0 1))), (h18, .inl (E.2.1 0, 133, .inl (upd (fun _ => 0) 0 0))), (h19, .inl (E.2.1 0, 133, .inl (upd (fun _ => 0) 0 0))), (h20, .inl (E.2.1 0, 133, .inl (upd (fun _ => 0) 0 0))), (h21, .inl (E.2.1 0, 133, .inl (upd (fun _ => 0) 0 0))), (h22, .inl (E.2.1 0, 133, .inl (upd (fun _ => 0) 0 0))), (h23, .inl (E.2.1 0, 133, .inl (upd (fun _ => 0) 0 0)))] rfl dL_verdict_11 (fun H locs hw => ?_)
      refine lv_goto (tgt := 23) hx hb dL_verdict_12 (by decide) ?_
      refine lv_iconst (v := 0) hx hb dL_verdict_23 (by decide) ?_
      exact rc_iret (v := 0) hx hb hr hlocks hw [(h1, .inl (E.2.1 4, 1, .inr (.inl (vp_updL (fun _ => 0) 0 1))))] (Or.inr (Or.inr (Or.inr (Or.inr (Or.inr (Or.inr (Or.inr (Or.inr (Or.inl ⟨rfl, rfl, rfl, rfl, rfl⟩))))))))) [0] rfl (by decide) (Nat.le_of_ble_eq_true rfl) (Nat.le_of_ble_eq_true rfl) dL_verdict_24
    · obtain rfl : x0 = 0 := rc_eqc (b := 0) rfl (by have g_c_27 := rc_g5 (b := 0) c_27 rfl; omega)
      obtain rfl : x1 = 0 := rc_eqc (b := 0) rfl (by have g_c_28 := rc_g5 (b := 0) c_28 rfl; omega)
      obtain rfl : x2 = 3 := rc_eqc (b := 3) rfl (by have g_c_29 := rc_g5 (b := 3) c_29 rfl; omega)
      have hw : rc_W E A s [(h1, .inl (E.2.1 4, 1, .inr (.inl (fun _ => 0)))), (h0, .inr (11, [.ref h2, .ref h3, .ref h4, .ref h5, .ref h6, .ref h7, .ref h8, .int 3, .int 50, .int 1000, .int 100, .int 0, .int (-1)])), (h3, .inr (4, [.int 1, .ref h9, .int 1])), (h5, .inr (6, [.ref h10, .int 0, .int 0])), (h10, .inr (4, [.int 0, .ref (E.2.2 0), .int 0])), (h7, .inr (7, [.ref h11, .ref h12, .ref h13, .ref h14, .int 0, .int 0, .int 0, .int 1, .int 1, .int 1])), (h11, .inr (10, [.ref h15, .int 0])), (h12, .inr (10, [.ref h16, .int 0])), (h14, .inl (E.2.1 1, 7, .inr (.inr (.inr (.inr (rc_rows [h17, h18, h19, h20, h21, h22, h23])))))), (h17, .inl (E.2.1 0, 133, .inl (upd (upd (fun _ => 0) 0 0) 0 1))), (h18, .inl (E.2.1 0, 133, .inl (upd (fun _ => 0) 0 0))), (h19, .inl (E.2.1 0, 133, .inl (upd (fun _ => 0) 0 0))), (h20, .inl (E.2.1 0, 133, .inl (upd (fun _ => 0) 0 0))), (h21, .inl (E.2.1 0, 133, .inl (upd (fun _ => 0) 0 0))), (h22, .inl (E.2.1 0, 133, .inl (upd (fun _ => 0) 0 0))), (h23, .inl (E.2.1 0, 133, .inl (upd (fun _ => 0) 0 0)))] H locs := hw
      refine lv_i2l (v := 1) hx hb dL_verdict_10 (by decide) ?_
      refine rc_last hx hb hAm hw 0 rfl (vp_in_iff.mpr (by decide)) [(h1, .inl (E.2.1 4, 1, .inr (.inl (vp_updL (fun _ => 0) 0 1)))), (h0, .inr (11, [.ref h2, .ref h3, .ref h4, .ref h5, .ref h6, .ref h7, .ref h8, .int 3, .int 50, .int 1000, .int 100, .int 0, .int (-1)])), (h3, .inr (4, [.int 1, .ref h9, .int 1])), (h5, .inr (6, [.ref h10, .int 0, .int 0])), (h10, .inr (4, [.int 0, .ref (E.2.2 0), .int 0])), (h7, .inr (7, [.ref h11, .ref h12, .ref h13, .ref h14, .int 0, .int 0, .int 0, .int 1, .int 1, .int 1])), (h11, .inr (10, [.ref h15, .int 0])), (h12, .inr (10, [.ref h16, .int 0])), (h14, .inl (E.2.1 1, 7, .inr (.inr (.inr (.inr (rc_rows [h17, h18, h19, h20, h21, h22, h23])))))), (h17, .inl (E.2.1 0, 133, .inl (upd (upd (fun _ => 0) 0 0) 0 1))), (h18, .inl (E.2.1 0, 133, .inl (upd (fun _ => 0) 0 0))), (h19, .inl (E.2.1 0, 133, .inl (upd (fun _ => 0) 0 0))), (h20, .inl (E.2.1 0, 133, .inl (upd (fun _ => 0) 0 0))), (h21, .inl (E.2.1 0, 133, .inl (upd (fun _ => 0) 0 0))), (h22, .inl (E.2.1 0, 133, .inl (upd (fun _ => 0) 0 0))), (h23, .inl (E.2.1 0, 133, .inl (upd (fun _ => 0) 0 0)))] rfl dL_verdict_11 (fun H locs hw => ?_)
      refine lv_goto (tgt := 23) hx hb dL_verdict_12 (by decide) ?_
      refine lv_iconst (v := 0) hx hb dL_verdict_23 (by decide) ?_
      exact rc_iret (v := 0) hx hb hr hlocks hw [(h1, .inl (E.2.1 4, 1, .inr (.inl (vp_updL (fun _ => 0) 0 1))))] (Or.inr (Or.inr (Or.inr (Or.inr (Or.inr (Or.inr (Or.inr (Or.inr (Or.inr (Or.inl ⟨rfl, rfl, rfl, rfl, rfl⟩)))))))))) [0] rfl (by decide) (Nat.le_of_ble_eq_true rfl) (Nat.le_of_ble_eq_true rfl) dL_verdict_24
    · obtain rfl : x0 = 0 := rc_eqc (b := 0) rfl (by have g_c_30 := rc_g5 (b := 0) c_30 rfl; omega)
      obtain rfl : x1 = 0 := rc_eqc (b := 0) rfl (by have g_c_31 := rc_g5 (b := 0) c_31 rfl; omega)
      obtain rfl : x2 = 4 := rc_eqc (b := 4) rfl (by have g_c_32 := rc_g5 (b := 4) c_32 rfl; omega)
      have hw : rc_W E A s [(h1, .inl (E.2.1 4, 1, .inr (.inl (fun _ => 0)))), (h0, .inr (11, [.ref h2, .ref h3, .ref h4, .ref h5, .ref h6, .ref h7, .ref h8, .int 3, .int 50, .int 1000, .int 100, .int 0, .int (-1)])), (h3, .inr (4, [.int 1, .ref h9, .int 1])), (h5, .inr (6, [.ref h10, .int 0, .int 0])), (h10, .inr (4, [.int 0, .ref (E.2.2 0), .int 0])), (h7, .inr (7, [.ref h11, .ref h12, .ref h13, .ref h14, .int 0, .int 0, .int 0, .int 1, .int 1, .int 1])), (h11, .inr (10, [.ref h15, .int 0])), (h12, .inr (10, [.ref h16, .int 0])), (h14, .inl (E.2.1 1, 7, .inr (.inr (.inr (.inr (rc_rows [h17, h18, h19, h20, h21, h22, h23])))))), (h17, .inl (E.2.1 0, 133, .inl (upd (upd (fun _ => 0) 0 0) 0 1))), (h18, .inl (E.2.1 0, 133, .inl (upd (fun _ => 0) 0 0))), (h19, .inl (E.2.1 0, 133, .inl (upd (fun _ => 0) 0 0))), (h20, .inl (E.2.1 0, 133, .inl (upd (fun _ => 0) 0 0))), (h21, .inl (E.2.1 0, 133, .inl (upd (fun _ => 0) 0 0))), (h22, .inl (E.2.1 0, 133, .inl (upd (fun _ => 0) 0 0))), (h23, .inl (E.2.1 0, 133, .inl (upd (fun _ => 0) 0 0)))] H locs := hw
      refine lv_i2l (v := 1) hx hb dL_verdict_10 (by decide) ?_
      refine rc_last hx hb hAm hw 0 rfl (vp_in_iff.mpr (by decide)) [(h1, .inl (E.2.1 4, 1, .inr (.inl (vp_updL (fun _ => 0) 0 1)))), (h0, .inr (11, [.ref h2, .ref h3, .ref h4, .ref h5, .ref h6, .ref h7, .ref h8, .int 3, .int 50, .int 1000, .int 100, .int 0, .int (-1)])), (h3, .inr (4, [.int 1, .ref h9, .int 1])), (h5, .inr (6, [.ref h10, .int 0, .int 0])), (h10, .inr (4, [.int 0, .ref (E.2.2 0), .int 0])), (h7, .inr (7, [.ref h11, .ref h12, .ref h13, .ref h14, .int 0, .int 0, .int 0, .int 1, .int 1, .int 1])), (h11, .inr (10, [.ref h15, .int 0])), (h12, .inr (10, [.ref h16, .int 0])), (h14, .inl (E.2.1 1, 7, .inr (.inr (.inr (.inr (rc_rows [h17, h18, h19, h20, h21, h22, h23])))))), (h17, .inl (E.2.1 0, 133, .inl (upd (upd (fun _ => 0) 0 0) 0 1))), (h18, .inl (E.2.1 0, 133, .inl (upd (fun _ => 0) 0 0))), (h19, .inl (E.2.1 0, 133, .inl (upd (fun _ => 0) 0 0))), (h20, .inl (E.2.1 0, 133, .inl (upd (fun _ => 0) 0 0))), (h21, .inl (E.2.1 0, 133, .inl (upd (fun _ => 0) 0 0))), (h22, .inl (E.2.1 0, 133, .inl (upd (fun _ => 0) 0 0))), (h23, .inl (E.2.1 0, 133, .inl (upd (fun _ => 0) 0 0)))] rfl dL_verdict_11 (fun H locs hw => ?_)
      refine lv_goto (tgt := 23) hx hb dL_verdict_12 (by decide) ?_
      refine lv_iconst (v := 0) hx hb dL_verdict_23 (by decide) ?_
      exact rc_iret (v := 0) hx hb hr hlocks hw [(h1, .inl (E.2.1 4, 1, .inr (.inl (vp_updL (fun _ => 0) 0 1))))] (Or.inr (Or.inr (Or.inr (Or.inr (Or.inr (Or.inr (Or.inr (Or.inr (Or.inr (Or.inr ⟨rfl, rfl, rfl, rfl, rfl⟩)))))))))) [0] rfl (by decide) (Nat.le_of_ble_eq_true rfl) (Nat.le_of_ble_eq_true rfl) dL_verdict_24
theorem hd_X6_doubt : yX6_doubt.cls ≠ "java/lang/invoke/MethodHandle" ∧ yX6_doubt.cls ≠ "java/lang/invoke/VarHandle" ∧ (parseMethodDescriptor yX6_doubt.desc).map (fun d => d.parameters.length) = some 2 := by decide +kernel
set_option maxHeartbeats 4000000 in
set_option maxRecDepth 100000 in
theorem cw_L_doubt (l : Launch) (hst : l.stackTraces = false) (E : rc_E) (sz : Nat) (h0 : Nat) (x0 : Int32) (x1 : Int32) (h1 : Nat) (h2 : Nat) (h3 : Nat) (h4 : Nat) (h5 : Nat) (h6 : Nat) (h7 : Nat) (h8 : Nat) (h9 : Nat) (h10 : Nat) (h11 : Nat) (h12 : Nat) (h13 : Nat) (h14 : Nat) (h15 : Nat) (h16 : Nat) (h17 : Nat) (h18 : Nat) (h19 : Nat) (h20 : Nat) (h21 : Nat) (h22 : Nat) (h23 : Nat) : rc_Mi l yL_doubt [Cond.codeWith yL_doubt cL_doubt 5 (some FieldType.int) [(0, 9, 12, 21)]] { frames := 7, cells := 1, slots := 6, locals := 112 } E [.ref h0, .int x0, .int x1, .ref h1] [(h0, .inr (11, [.ref h2, .ref h3, .ref h4, .ref h5, .ref h6, .ref h7, .ref h8, .int 3, .int 50, .int 1000, .int 100, .int 0, .int (-1)])), (h3, .inr (4, [.int 1, .ref h9, .int 1])), (h5, .inr (6, [.ref h10, .int 0, .int 0])), (h10, .inr (4, [.int 0, .ref (E.2.2 0), .int 0])), (h7, .inr (7, [.ref h11, .ref h12, .ref h13, .ref h14, .int 0, .int 0, .int 0, .int 1, .int 1, .int 1])), (h11, .inr (10, [.ref h15, .int 0])), (h12, .inr (10, [.ref h16, .int 0])), (h14, .inl (E.2.1 1, 7, .inr (.inr (.inr (.inr (rc_rows [h17, h18, h19, h20, h21, h22, h23])))))), (h17, .inl (E.2.1 0, 133, .inl (fun _ => 0))), (h18, .inl (E.2.1 0, 133, .inl (fun _ => 0))), (h19, .inl (E.2.1 0, 133, .inl (fun _ => 0))), (h20, .inl (E.2.1 0, 133, .inl (fun _ => 0))), (h21, .inl (E.2.1 0, 133, .inl (fun _ => 0))), (h22, .inl (E.2.1 0, 133, .inl (fun _ => 0))), (h23, .inl (E.2.1 0, 133, .inl (fun _ => 0))), (h1, .inl (E.2.1 5, 1, .inr (.inr (.inr (.inl (fun _ => 0))))))] sz (S := va_W) (fun (r : Int32) (u : va_W) => (x0 < 0 ∧ 1 = r ∧ u = [(h1, .inl (E.2.1 5, 1, .inr (.inr (.inr (.inl (fun _ => 0))))))]) ∨ (x1 < 0 ∧ x0 = 0 ∧ 1 = r ∧ u = [(h1, .inl (E.2.1 5, 1, .inr (.inr (.inr (.inl (fun _ => 0))))))]) ∨ (¬ x1 < 0 ∧ ¬ x1 < 1 ∧ x0 = 0 ∧ 1 = r ∧ u = [(h1, .inl (E.2.1 5, 1, .inr (.inr (.inr (.inl (fun _ => 0))))))]) ∨ (¬ x0 < 0 ∧ ¬ x0 < 1 ∧ 1 = r ∧ u = [(h1, .inl (E.2.1 5, 1, .inr (.inr (.inr (.inl (fun _ => 0))))))]) ∨ (x0 = 0 ∧ x1 = 0 ∧ 0 = r ∧ u = [(h1, .inl (E.2.1 5, 1, .inr (.inr (.inr (.inl (vf_upd (fun _ => 0) 0 (FP.ddiv (FP.i2d 1) (FP.i2d 1))))))))])) (fun u => u) 1 6 := by
  refine rc_inWi (hh := [(0, 9, 12, 21)]) (cc := cL_doubt) (maxL := 5) (ret := (some FieldType.int)) (by decide) rfl (Nat.le_of_ble_eq_true rfl) ?_
  intro p e s m args below meth c ls A htb hx hb hr hml _ hown hlocks hin hA hAm hw hl
  have hown : s.vm.findClass RL = some m.cls := hown
  have hl : lv_has ls 5 [(0, .ref h0), (1, .int x0), (2, .int x1), (3, .ref h1)] := hl
  refine lv_aload_n hx hb dL_doubt_0 rfl (lv_at hl 3 rfl) ?_
  refine lv_iconst (v := 0) hx hb dL_doubt_1 (by decide) ?_
  refine lv_aload_n hx hb dL_doubt_2 rfl (lv_at hl 0 rfl) ?_
  refine lv_iload_n hx hb dL_doubt_3 rfl (lv_at hl 1 rfl) ?_
  refine lv_iload_n hx hb dL_doubt_4 rfl (lv_at hl 2 rfl) ?_
  refine rc_callxd (wr := [(h1, .inl (E.2.1 5, 1, .inr (.inr (.inr (.inl (fun _ => 0))))))]) (vx_runV (As := [.int x0, .int x1]) (rest := [.int 0, .ref h1]) (Ts := []) ⟨hx, hb, hml, hown, fun _ h9 => absurd h9 List.not_mem_nil⟩ (cw_X6_doubt l hst E _ h0 x0 x1 h2 h3 h4 h5 h6 h7 h8 h9 h10 h11 h12 h13 h14 h15 h16 h17 h18 h19 h20 h21 h22 h23) (rc_cwV hAm qw_760 qw_1 qw_763 qw_761 qw_762 rfl rfl hd_X6_doubt ⟨Nat.le_of_ble_eq_true rfl, Nat.le_of_ble_eq_true rfl⟩) (rc_preV hAm hA hw [0, 1, 2, 3, 4, 5, 6, 7, 8, 9, 10, 11, 12, 13, 14] rfl rfl 0 rfl (q := vwCl[11]) rfl) rfl rfl hl.1 rfl (lv_room (Nat.le_of_ble_eq_true rfl)) dL_doubt_5 ⟨Nat.le_of_ble_eq_true rfl, Nat.le_of_ble_eq_true rfl⟩) hA hw [0, 1, 2, 3, 4, 5, 6, 7, 8, 9, 10, 11, 12, 13, 14] [15] rfl rfl rfl (by decide) (fun x9 ce9 q9 H locs hp hw h91 h92 h93 => ?_) (fun r_1 u_2 H locs hp hw => ?_)
  · rcases hp with ⟨rfl, c_3⟩ | ⟨rfl, c_4, c_5⟩ | ⟨rfl, c_6, c_7, c_8⟩ | ⟨rfl, c_9, c_10⟩
    · refine vx_catch (own := RL) (name := "java/lang/IndexOutOfBoundsException") hown [] ⟨0, 9, 12, 21⟩ [] (by rw [htb]; rfl) (fun z9 h9 => absurd h9 List.not_mem_nil) (by decide) (by decide) (hAm.wd qw_612 rfl rfl) (hAm.wd qw_619 rfl rfl) h91 h92 h93 ?_
      refine lv_astore (lv' := [(4, .ref q9), (0, .ref h0), (1, .int x0), (2, .int x1), (3, .ref h1)]) hx hb dL_doubt_12 hl (by decide) rfl (fun ls hl => ?_)
      refine lv_iconst (v := 1) hx hb dL_doubt_14 (by decide) ?_
      exact rc_iret (v := 1) hx hb hr hlocks hw [(h1, .inl (E.2.1 5, 1, .inr (.inr (.inr (.inl (fun _ => 0))))))] (Or.inl ⟨c_3, rfl, rfl⟩) [0] rfl (by decide) (Nat.le_of_ble_eq_true rfl) (Nat.le_of_ble_eq_true rfl) dL_doubt_15
    · obtain rfl : x0 = 0 := rc_eqc (b := 0) rfl (by have g_c_5 := rc_g5 (b := 0) c_5 rfl; omega)
      refine vx_catch (own := RL) (name := "java/lang/IndexOutOfBoundsException") hown [] ⟨0, 9, 12, 21⟩ [] (by rw [htb]; rfl) (fun z9 h9 => absurd h9 List.not_mem_nil) (by decide) (by decide) (hAm.wd qw_612 rfl rfl) (hAm.wd qw_619 rfl rfl) h91 h92 h93 ?_
      refine lv_astore (lv' := [(4, .ref q9), (0, .ref h0), (1, .int 0), (2, .int x1), (3, .ref h1)]) hx hb dL_doubt_12 hl (by decide) rfl (fun ls hl => ?_)
      refine lv_iconst (v := 1) hx hb dL_doubt_14 (by decide) ?_
      exact rc_iret (v := 1) hx hb hr hlocks hw [(h1, .inl (E.2.1 5, 1, .inr (.inr (.inr (.inl (fun _ => 0))))))] (Or.inr (Or.inl ⟨c_4, rfl, rfl, rfl⟩)) [0] rfl (by decide) (Nat.le_of_ble_eq_true rfl) (Nat.le_of_ble_eq_true rfl) dL_doubt_15
    · obtain rfl : x0 = 0 := rc_eqc (b := 0) rfl (by have g_c_8 := rc_g5 (b := 0) c_8 rfl; omega)
      refine vx_catch (own := RL) (name := "java/lang/IndexOutOfBoundsException") hown [] ⟨0, 9, 12, 21⟩ [] (by rw [htb]; rfl) (fun z9 h9 => absurd h9 List.not_mem_nil) (by decide) (by decide) (hAm.wd qw_612 rfl rfl) (hAm.wd qw_619 rfl rfl) h91 h92 h93 ?_
      refine lv_astore (lv' := [(4, .ref q9), (0, .ref h0), (1, .int 0), (2, .int x1), (3, .ref h1)]) hx hb dL_doubt_12 hl (by decide) rfl (fun ls hl => ?_)
      refine lv_iconst (v := 1) hx hb dL_doubt_14 (by decide) ?_
      exact rc_iret (v := 1) hx hb hr hlocks hw [(h1, .inl (E.2.1 5, 1, .inr (.inr (.inr (.inl (fun _ => 0))))))] (Or.inr (Or.inr (Or.inl ⟨c_6, c_7, rfl, rfl, rfl⟩))) [0] rfl (by decide) (Nat.le_of_ble_eq_true rfl) (Nat.le_of_ble_eq_true rfl) dL_doubt_15
    · refine vx_catch (own := RL) (name := "java/lang/IndexOutOfBoundsException") hown [] ⟨0, 9, 12, 21⟩ [] (by rw [htb]; rfl) (fun z9 h9 => absurd h9 List.not_mem_nil) (by decide) (by decide) (hAm.wd qw_612 rfl rfl) (hAm.wd qw_619 rfl rfl) h91 h92 h93 ?_
      refine lv_astore (lv' := [(4, .ref q9), (0, .ref h0), (1, .int x0), (2, .int x1), (3, .ref h1)]) hx hb dL_doubt_12 hl (by decide) rfl (fun ls hl => ?_)
      refine lv_iconst (v := 1) hx hb dL_doubt_14 (by decide) ?_
      exact rc_iret (v := 1) hx hb hr hlocks hw [(h1, .inl (E.2.1 5, 1, .inr (.inr (.inr (.inl (fun _ => 0))))))] (Or.inr (Or.inr (Or.inr (Or.inl ⟨c_9, c_10, rfl, rfl⟩)))) [0] rfl (by decide) (Nat.le_of_ble_eq_true rfl) (Nat.le_of_ble_eq_true rfl) dL_doubt_15
  · obtain ⟨c_11, c_12, rfl, rfl⟩ := hp
    obtain rfl : x0 = 0 := rc_eqc (b := 0) rfl (by have g_c_11 := rc_g5 (b := 0) c_11 rfl; omega)
    obtain rfl : x1 = 0 := rc_eqc (b := 0) rfl (by have g_c_12 := rc_g5 (b := 0) c_12 rfl; omega)
    have hw : rc_W E A s [(h1, .inl (E.2.1 5, 1, .inr (.inr (.inr (.inl (fun _ => 0)))))), (h0, .inr (11, [.ref h2, .ref h3, .ref h4, .ref h5, .ref h6, .ref h7, .ref h8, .int 3, .int 50, .int 1000, .int 100, .int 0, .int (-1)])), (h3, .inr (4, [.int 1, .ref h9, .int 1])), (h5, .inr (6, [.ref h10, .int 0, .int 0])), (h10, .inr (4, [.int 0, .ref (E.2.2 0), .int 0])), (h7, .inr (7, [.ref h11, .ref h12, .ref h13, .ref h14, .int 0, .int 0, .int 0, .int 1, .int 1, .int 1])), (h11, .inr (10, [.ref h15, .int 0])), (h12, .inr (10, [.ref h16, .int 0])), (h14, .inl (E.2.1 1, 7, .inr (.inr (.inr (.inr (rc_rows [h17, h18, h19, h20, h21, h22, h23])))))), (h17, .inl (E.2.1 0, 133, .inl (upd (upd (fun _ => 0) 0 0) 0 1))), (h18, .inl (E.2.1 0, 133, .inl (upd (fun _ => 0) 0 0))), (h19, .inl (E.2.1 0, 133, .inl (upd (fun _ => 0) 0 0))), (h20, .inl (E.2.1 0, 133, .inl (upd (fun _ => 0) 0 0))), (h21, .inl (E.2.1 0, 133, .inl (upd (fun _ => 0) 0 0))), (h22, .inl (E.2.1 0, 133, .inl (upd (fun _ => 0) 0 0))), (h23, .inl (E.2.1 0, 133, .inl (upd (fun _ => 0) 0 0)))] H locs := hw
    refine rc_dast hx hb hAm hw 0 rfl (vp_in_iff.mpr (by decide)) [(h1, .inl (E.2.1 5, 1, .inr (.inr (.inr (.inl (vf_upd (fun _ => 0) 0 (FP.ddiv (FP.i2d 1) (FP.i2d 1)))))))), (h0, .inr (11, [.ref h2, .ref h3, .ref h4, .ref h5, .ref h6, .ref h7, .ref h8, .int 3, .int 50, .int 1000, .int 100, .int 0, .int (-1)])), (h3, .inr (4, [.int 1, .ref h9, .int 1])), (h5, .inr (6, [.ref h10, .int 0, .int 0])), (h10, .inr (4, [.int 0, .ref (E.2.2 0), .int 0])), (h7, .inr (7, [.ref h11, .ref h12, .ref h13, .ref h14, .int 0, .int 0, .int 0, .int 1, .int 1, .int 1])), (h11, .inr (10, [.ref h15, .int 0])), (h12, .inr (10, [.ref h16, .int 0])), (h14, .inl (E.2.1 1, 7, .inr (.inr (.inr (.inr (rc_rows [h17, h18, h19, h20, h21, h22, h23])))))), (h17, .inl (E.2.1 0, 133, .inl (upd (upd (fun _ => 0) 0 0) 0 1))), (h18, .inl (E.2.1 0, 133, .inl (upd (fun _ => 0) 0 0))), (h19, .inl (E.2.1 0, 133, .inl (upd (fun _ => 0) 0 0))), (h20, .inl (E.2.1 0, 133, .inl (upd (fun _ => 0) 0 0))), (h21, .inl (E.2.1 0, 133, .inl (upd (fun _ => 0) 0 0))), (h22, .inl (E.2.1 0, 133, .inl (upd (fun _ => 0) 0 0))), (h23, .inl (E.2.1 0, 133, .inl (upd (fun _ => 0) 0 0)))] rfl dL_doubt_8 (fun H locs hw => ?_)
    refine lv_goto (tgt := 16) hx hb dL_doubt_9 (by decide) ?_
    refine lv_iconst (v := 0) hx hb dL_doubt_16 (by decide) ?_
    exact rc_iret (v := 0) hx hb hr hlocks hw [(h1, .inl (E.2.1 5, 1, .inr (.inr (.inr (.inl (vf_upd (fun _ => 0) 0 (FP.ddiv (FP.i2d 1) (FP.i2d 1))))))))] (Or.inr (Or.inr (Or.inr (Or.inr ⟨rfl, rfl, rfl, rfl⟩)))) [0] rfl (by decide) (Nat.le_of_ble_eq_true rfl) (Nat.le_of_ble_eq_true rfl) dL_doubt_17
theorem hd_X6_rule : yX6_rule.cls ≠ "java/lang/invoke/MethodHandle" ∧ yX6_rule.cls ≠ "java/lang/invoke/VarHandle" ∧ (parseMethodDescriptor yX6_rule.desc).map (fun d => d.parameters.length) = some 2 := by decide +kernel
set_option maxHeartbeats 4000000 in
set_option maxRecDepth 100000 in
theorem cw_L_rule (l : Launch) (hst : l.stackTraces = false) (E : rc_E) (sz : Nat) (h0 : Nat) (x0 : Int32) (x1 : Int32) (h1 : Nat) (h2 : Nat) (h3 : Nat) (h4 : Nat) (h5 : Nat) (h6 : Nat) (h7 : Nat) (h8 : Nat) : rc_Mi l yL_rule [Cond.codeWith yL_rule cL_rule 5 (some FieldType.int) [(0, 10, 13, 13)]] { frames := 7, cells := 1, slots := 6, locals := 105 } E [.ref h0, .int x0, .int x1, .ref h1] [(h0, .inr (11, [.ref h2, .ref h3, .ref h4, .ref h5, .ref h6, .ref h7, .ref h8, .int 3, .int 50, .int 1000, .int 100, .int 0, .int (-1)])), (h8, .inr (5, [.int 0, .int (-1), .int (-1), .int (-1)])), (h1, .inl (E.2.1 4, 1, .inr (.inl (fun _ => 0))))] sz (S := va_W) (fun (r : Int32) (u : va_W) => (x0 < 2 ∧ 1 = r ∧ u = [(h1, .inl (E.2.1 4, 1, .inr (.inl (fun _ => 0))))]) ∨ (¬ x0 < 2 ∧ x0 ≤ 6 ∧ x1 < 1 ∧ 1 = r ∧ u = [(h1, .inl (E.2.1 4, 1, .inr (.inl (fun _ => 0))))]) ∨ (¬ x0 < 2 ∧ x0 ≤ 6 ∧ ¬ x1 < 1 ∧ ¬ x1 ≤ 200 ∧ 1 = r ∧ u = [(h1, .inl (E.2.1 4, 1, .inr (.inl (fun _ => 0))))]) ∨ (¬ x0 < 2 ∧ ¬ x0 ≤ 6 ∧ 1 = r ∧ u = [(h1, .inl (E.2.1 4, 1, .inr (.inl (fun _ => 0))))]) ∨ (¬ x0 < 2 ∧ x0 ≤ 6 ∧ ¬ x1 < 1 ∧ x1 ≤ 200 ∧ 0 = r ∧ u = [(h1, .inl (E.2.1 4, 1, .inr (.inl (vp_updL (fun _ => 0) 0 50))))])) (fun u => u) 1 6 := by
  refine rc_inWi (hh := [(0, 10, 13, 13)]) (cc := cL_rule) (maxL := 5) (ret := (some FieldType.int)) (by decide) rfl (Nat.le_of_ble_eq_true rfl) ?_
  intro p e s m args below meth c ls A htb hx hb hr hml _ hown hlocks hin hA hAm hw hl
  have hown : s.vm.findClass RL = some m.cls := hown
  have hl : lv_has ls 5 [(0, .ref h0), (1, .int x0), (2, .int x1), (3, .ref h1)] := hl
  refine lv_aload_n hx hb dL_rule_0 rfl (lv_at hl 3 rfl) ?_
  refine lv_iconst (v := 0) hx hb dL_rule_1 (by decide) ?_
  refine lv_aload_n hx hb dL_rule_2 rfl (lv_at hl 0 rfl) ?_
  refine lv_iload_n hx hb dL_rule_3 rfl (lv_at hl 1 rfl) ?_
  refine lv_iload_n hx hb dL_rule_4 rfl (lv_at hl 2 rfl) ?_
  refine rc_callxi (wr := [(h1, .inl (E.2.1 4, 1, .inr (.inl (fun _ => 0))))]) (vx_runV (As := [.int x0, .int x1]) (rest := [.int 0, .ref h1]) (Ts := []) ⟨hx, hb, hml, hown, fun _ h9 => absurd h9 List.not_mem_nil⟩ (cw_X6_rule l hst E _ h0 x0 x1 h2 h3 h4 h5 h6 h7 h8) (rc_cwV hAm qw_771 qw_1 qw_774 qw_772 qw_773 rfl rfl hd_X6_rule ⟨Nat.le_of_ble_eq_true rfl, Nat.le_of_ble_eq_true rfl⟩) (rc_preV hAm hA hw [0, 1] rfl rfl 0 rfl (q := vwCl[11]) rfl) rfl rfl hl.1 rfl (lv_room (Nat.le_of_ble_eq_true rfl)) dL_rule_5 ⟨Nat.le_of_ble_eq_true rfl, Nat.le_of_ble_eq_true rfl⟩) hA hw [0, 1] [2] rfl rfl rfl (by decide) (fun x9 ce9 q9 H locs hp hw h91 h92 h93 => ?_) (fun r_1 u_2 H locs hp hw => ?_)
  · rcases hp with ⟨rfl, c_3⟩ | ⟨rfl, c_4, c_5, c_6⟩ | ⟨rfl, c_7, c_8, c_9, c_10⟩ | ⟨rfl, c_11, c_12⟩
    · refine vx_catch (own := RL) (name := "java/lang/IllegalArgumentException") hown [] ⟨0, 10, 13, 13⟩ [] (by rw [htb]; rfl) (fun z9 h9 => absurd h9 List.not_mem_nil) (by decide) (by decide) (hAm.wd qw_476 rfl rfl) (hAm.wd qw_490 rfl rfl) h91 h92 h93 ?_
      refine lv_astore (lv' := [(4, .ref q9), (0, .ref h0), (1, .int x0), (2, .int x1), (3, .ref h1)]) hx hb dL_rule_13 hl (by decide) rfl (fun ls hl => ?_)
      refine lv_iconst (v := 1) hx hb dL_rule_15 (by decide) ?_
      exact rc_iret (v := 1) hx hb hr hlocks hw [(h1, .inl (E.2.1 4, 1, .inr (.inl (fun _ => 0))))] (Or.inl ⟨c_3, rfl, rfl⟩) [0] rfl (by decide) (Nat.le_of_ble_eq_true rfl) (Nat.le_of_ble_eq_true rfl) dL_rule_16
    · refine vx_catch (own := RL) (name := "java/lang/IllegalArgumentException") hown [] ⟨0, 10, 13, 13⟩ [] (by rw [htb]; rfl) (fun z9 h9 => absurd h9 List.not_mem_nil) (by decide) (by decide) (hAm.wd qw_476 rfl rfl) (hAm.wd qw_490 rfl rfl) h91 h92 h93 ?_
      refine lv_astore (lv' := [(4, .ref q9), (0, .ref h0), (1, .int x0), (2, .int x1), (3, .ref h1)]) hx hb dL_rule_13 hl (by decide) rfl (fun ls hl => ?_)
      refine lv_iconst (v := 1) hx hb dL_rule_15 (by decide) ?_
      exact rc_iret (v := 1) hx hb hr hlocks hw [(h1, .inl (E.2.1 4, 1, .inr (.inl (fun _ => 0))))] (Or.inr (Or.inl ⟨c_4, c_5, c_6, rfl, rfl⟩)) [0] rfl (by decide) (Nat.le_of_ble_eq_true rfl) (Nat.le_of_ble_eq_true rfl) dL_rule_16
    · refine vx_catch (own := RL) (name := "java/lang/IllegalArgumentException") hown [] ⟨0, 10, 13, 13⟩ [] (by rw [htb]; rfl) (fun z9 h9 => absurd h9 List.not_mem_nil) (by decide) (by decide) (hAm.wd qw_476 rfl rfl) (hAm.wd qw_490 rfl rfl) h91 h92 h93 ?_
      refine lv_astore (lv' := [(4, .ref q9), (0, .ref h0), (1, .int x0), (2, .int x1), (3, .ref h1)]) hx hb dL_rule_13 hl (by decide) rfl (fun ls hl => ?_)
      refine lv_iconst (v := 1) hx hb dL_rule_15 (by decide) ?_
      exact rc_iret (v := 1) hx hb hr hlocks hw [(h1, .inl (E.2.1 4, 1, .inr (.inl (fun _ => 0))))] (Or.inr (Or.inr (Or.inl ⟨c_7, c_8, c_9, c_10, rfl, rfl⟩))) [0] rfl (by decide) (Nat.le_of_ble_eq_true rfl) (Nat.le_of_ble_eq_true rfl) dL_rule_16
    · refine vx_catch (own := RL) (name := "java/lang/IllegalArgumentException") hown [] ⟨0, 10, 13, 13⟩ [] (by rw [htb]; rfl) (fun z9 h9 => absurd h9 List.not_mem_nil) (by decide) (by decide) (hAm.wd qw_476 rfl rfl) (hAm.wd qw_490 rfl rfl) h91 h92 h93 ?_
      refine lv_astore (lv' := [(4, .ref q9), (0, .ref h0), (1, .int x0), (2, .int x1), (3, .ref h1)]) hx hb dL_rule_13 hl (by decide) rfl (fun ls hl => ?_)
      refine lv_iconst (v := 1) hx hb dL_rule_15 (by decide) ?_
      exact rc_iret (v := 1) hx hb hr hlocks hw [(h1, .inl (E.2.1 4, 1, .inr (.inl (fun _ => 0))))] (Or.inr (Or.inr (Or.inr (Or.inl ⟨c_11, c_12, rfl, rfl⟩)))) [0] rfl (by decide) (Nat.le_of_ble_eq_true rfl) (Nat.le_of_ble_eq_true rfl) dL_rule_16
  · obtain ⟨c_13, c_14, c_15, c_16, rfl, rfl⟩ := hp
    have hw : rc_W E A s [(h1, .inl (E.2.1 4, 1, .inr (.inl (fun _ => 0)))), (h0, .inr (11, [.ref h2, .ref h3, .ref h4, .ref h5, .ref h6, .ref h7, .ref h8, .int x0, .int x1, .int 1000, .int 100, .int 0, .int (-1)])), (h8, .inr (5, [.int 0, .int (-1), .int (-1), .int (-1)]))] H locs := hw
    refine lv_i2l (v := 50) hx hb dL_rule_8 (by decide) ?_
    refine rc_last hx hb hAm hw 0 rfl (vp_in_iff.mpr (by decide)) [(h1, .inl (E.2.1 4, 1, .inr (.inl (vp_updL (fun _ => 0) 0 50)))), (h0, .inr (11, [.ref h2, .ref h3, .ref h4, .ref h5, .ref h6, .ref h7, .ref h8, .int x0, .int x1, .int 1000, .int 100, .int 0, .int (-1)])), (h8, .inr (5, [.int 0, .int (-1), .int (-1), .int (-1)]))] rfl dL_rule_9 (fun H locs hw => ?_)
    refine lv_goto (tgt := 17) hx hb dL_rule_10 (by decide) ?_
    refine lv_iconst (v := 0) hx hb dL_rule_17 (by decide) ?_
    exact rc_iret (v := 0) hx hb hr hlocks hw [(h1, .inl (E.2.1 4, 1, .inr (.inl (vp_updL (fun _ => 0) 0 50))))] (Or.inr (Or.inr (Or.inr (Or.inr ⟨c_13, c_14, c_15, c_16, rfl, rfl⟩)))) [0] rfl (by decide) (Nat.le_of_ble_eq_true rfl) (Nat.le_of_ble_eq_true rfl) dL_rule_18
theorem hd_X6_begin : yX6_begin.cls ≠ "java/lang/invoke/MethodHandle" ∧ yX6_begin.cls ≠ "java/lang/invoke/VarHandle" ∧ (parseMethodDescriptor yX6_begin.desc).map (fun d => d.parameters.length) = some 2 := by decide +kernel
set_option maxHeartbeats 4000000 in
set_option maxRecDepth 100000 in
theorem cw_L_begin (l : Launch) (hst : l.stackTraces = false) (E : rc_E) (sz : Nat) (h0 : Nat) (x0 : Int32) (x1 : Int32) (h1 : Nat) (h2 : Nat) (h3 : Nat) (h4 : Nat) (h5 : Nat) (h6 : Nat) (h7 : Nat) (h8 : Nat) (h9 : Nat) : rc_Mi l yL_begin [Cond.codeWith yL_begin cL_begin 5 (some FieldType.int) [(0, 10, 13, 21), (0, 10, 17, 13), (0, 10, 21, 15)]] { frames := 7, cells := 1, slots := 6, locals := 104 } E [.ref h0, .int x0, .int x1, .ref h1] [(h0, .inr (11, [.ref h2, .ref h3, .ref h4, .ref h5, .ref h6, .ref h7, .ref h8, .int 3, .int 50, .int 1000, .int 100, .int 0, .int (-1)])), (h3, .inr (4, [.int 1, .ref h9, .int 1]))] sz (S := va_W) (fun (r : Int32) (u : va_W) => (x0 < 0 ∧ 1 = r ∧ u = []) ∨ (x1 < 0 ∧ x0 = 0 ∧ 1 = r ∧ u = []) ∨ (x0 = 0 ∧ x1 = 0 ∧ 2 = r ∧ u = []) ∨ (¬ x1 < 0 ∧ ¬ x1 < 1 ∧ x0 = 0 ∧ 1 = r ∧ u = []) ∨ (¬ x0 < 0 ∧ ¬ x0 < 1 ∧ 1 = r ∧ u = [])) (fun u => u) 1 6 := by
  refine rc_inWi (hh := [(0, 10, 13, 21), (0, 10, 17, 13), (0, 10, 21, 15)]) (cc := cL_begin) (maxL := 5) (ret := (some FieldType.int)) (by decide) rfl (Nat.le_of_ble_eq_true rfl) ?_
  intro p e s m args below meth c ls A htb hx hb hr hml _ hown hlocks hin hA hAm hw hl
  have hown : s.vm.findClass RL = some m.cls := hown
  have hl : lv_has ls 5 [(0, .ref h0), (1, .int x0), (2, .int x1), (3, .ref h1)] := hl
  refine lv_aload_n hx hb dL_begin_0 rfl (lv_at hl 3 rfl) ?_
  refine lv_iconst (v := 0) hx hb dL_begin_1 (by decide) ?_
  refine lv_aload_n hx hb dL_begin_2 rfl (lv_at hl 0 rfl) ?_
  refine lv_iload_n hx hb dL_begin_3 rfl (lv_at hl 1 rfl) ?_
  refine lv_iload_n hx hb dL_begin_4 rfl (lv_at hl 2 rfl) ?_
  refine rc_callxi (wr := []) (vx_runV (As := [.int x0, .int x1]) (rest := [.int 0, .ref h1]) (Ts := []) ⟨hx, hb, hml, hown, fun _ h9 => absurd h9 List.not_mem_nil⟩ (cw_X6_begin l hst E _ h0 x0 x1 h2 h3 h4 h5 h6 h7 h8 h9) (rc_cwV hAm qw_779 qw_1 qw_782 qw_780 qw_781 rfl rfl hd_X6_begin ⟨Nat.le_of_ble_eq_true rfl, Nat.le_of_ble_eq_true rfl⟩) (rc_preV hAm hA hw [0, 1] rfl rfl 0 rfl (q := vwCl[11]) rfl) rfl rfl hl.1 rfl (lv_room (Nat.le_of_ble_eq_true rfl)) dL_begin_5 ⟨Nat.le_of_ble_eq_true rfl, Nat.le_of_ble_eq_true rfl⟩) hA hw [0, 1] [] rfl rfl rfl (by decide) (fun x9 ce9 q9 H locs hp hw h91 h92 h93 => ?_) (fun r_1 u_2 H locs hp hw => ?_)
  · rcases hp with ⟨rfl, c_3⟩ | ⟨rfl, c_4, c_5⟩ | ⟨rfl, c_6, c_7⟩ | ⟨rfl, c_8, c_9, c_10⟩ | ⟨rfl, c_11, c_12⟩
    · refine vx_catch (own := RL) (name := "java/lang/IndexOutOfBoundsException") hown [] ⟨0, 10, 13, 21⟩ [⟨0, 10, 17, 13⟩, ⟨0, 10, 21, 15⟩] (by rw [htb]; rfl) (fun z9 h9 => absurd h9 List.not_mem_nil) (by decide) (by decide) (hAm.wd qw_612 rfl rfl) (hAm.wd qw_619 rfl rfl) h91 h92 h93 ?_
      refine lv_astore (lv' := [(4, .ref q9), (0, .ref h0), (1, .int x0), (2, .int x1), (3, .ref h1)]) hx hb dL_begin_13 hl (by decide) rfl (fun ls hl => ?_)
      refine lv_iconst (v := 1) hx hb dL_begin_15 (by decide) ?_
      exact rc_iret (v := 1) hx hb hr hlocks hw [] (Or.inl ⟨c_3, rfl, rfl⟩) [] rfl (by decide) (Nat.le_of_ble_eq_true rfl) (Nat.le_of_ble_eq_true rfl) dL_begin_16
    · obtain rfl : x0 = 0 := rc_eqc (b := 0) rfl (by have g_c_5 := rc_g5 (b := 0) c_5 rfl; omega)
      refine vx_catch (own := RL) (name := "java/lang/IndexOutOfBoundsException") hown [] ⟨0, 10, 13, 21⟩ [⟨0, 10, 17, 13⟩, ⟨0, 10, 21, 15⟩] (by rw [htb]; rfl) (fun z9 h9 => absurd h9 List.not_mem_nil) (by decide) (by decide) (hAm.wd qw_612 rfl rfl) (hAm.wd qw_619 rfl rfl) h91 h92 h93 ?_
      refine lv_astore (lv' := [(4, .ref q9), (0, .ref h0), (1, .int 0), (2, .int x1), (3, .ref h1)]) hx hb dL_begin_13 hl (by decide) rfl (fun ls hl => ?_)
      refine lv_iconst (v := 1) hx hb dL_begin_15 (by decide) ?_
      exact rc_iret (v := 1) hx hb hr hlocks hw [] (Or.inr (Or.inl ⟨c_4, rfl, rfl, rfl⟩)) [] rfl (by decide) (Nat.le_of_ble_eq_true rfl) (Nat.le_of_ble_eq_true rfl) dL_begin_16
    · obtain rfl : x0 = 0 := rc_eqc (b := 0) rfl (by have g_c_6 := rc_g5 (b := 0) c_6 rfl; omega)
      obtain rfl : x1 = 0 := rc_eqc (b := 0) rfl (by have g_c_7 := rc_g5 (b := 0) c_7 rfl; omega)
      refine vx_catch (own := RL) (name := "java/lang/IllegalArgumentException") hown [⟨0, 10, 13, 21⟩] ⟨0, 10, 17, 13⟩ [⟨0, 10, 21, 15⟩] (by rw [htb]; rfl) (List.forall_mem_cons.mpr ⟨Or.inr ⟨by decide, "java/lang/IndexOutOfBoundsException", hAm.wd qw_612 rfl rfl, hAm.1.2.2.2 ("java/lang/IllegalArgumentException", "java/lang/IndexOutOfBoundsException") (by decide)⟩, fun z9 h9 => absurd h9 List.not_mem_nil⟩) (by decide) (by decide) (hAm.wd qw_476 rfl rfl) (hAm.wd qw_490 rfl rfl) h91 h92 h93 ?_
      refine lv_astore (lv' := [(4, .ref q9), (0, .ref h0), (1, .int 0), (2, .int 0), (3, .ref h1)]) hx hb dL_begin_17 hl (by decide) rfl (fun ls hl => ?_)
      refine lv_iconst (v := 2) hx hb dL_begin_19 (by decide) ?_
      exact rc_iret (v := 2) hx hb hr hlocks hw [] (Or.inr (Or.inr (Or.inl ⟨rfl, rfl, rfl, rfl⟩))) [] rfl (by decide) (Nat.le_of_ble_eq_true rfl) (Nat.le_of_ble_eq_true rfl) dL_begin_20
    · obtain rfl : x0 = 0 := rc_eqc (b := 0) rfl (by have g_c_10 := rc_g5 (b := 0) c_10 rfl; omega)
      refine vx_catch (own := RL) (name := "java/lang/IndexOutOfBoundsException") hown [] ⟨0, 10, 13, 21⟩ [⟨0, 10, 17, 13⟩, ⟨0, 10, 21, 15⟩] (by rw [htb]; rfl) (fun z9 h9 => absurd h9 List.not_mem_nil) (by decide) (by decide) (hAm.wd qw_612 rfl rfl) (hAm.wd qw_619 rfl rfl) h91 h92 h93 ?_
      refine lv_astore (lv' := [(4, .ref q9), (0, .ref h0), (1, .int 0), (2, .int x1), (3, .ref h1)]) hx hb dL_begin_13 hl (by decide) rfl (fun ls hl => ?_)
      refine lv_iconst (v := 1) hx hb dL_begin_15 (by decide) ?_
      exact rc_iret (v := 1) hx hb hr hlocks hw [] (Or.inr (Or.inr (Or.inr (Or.inl ⟨c_8, c_9, rfl, rfl, rfl⟩)))) [] rfl (by decide) (Nat.le_of_ble_eq_true rfl) (Nat.le_of_ble_eq_true rfl) dL_begin_16
    · refine vx_catch (own := RL) (name := "java/lang/IndexOutOfBoundsException") hown [] ⟨0, 10, 13, 21⟩ [⟨0, 10, 17, 13⟩, ⟨0, 10, 21, 15⟩] (by rw [htb]; rfl) (fun z9 h9 => absurd h9 List.not_mem_nil) (by decide) (by decide) (hAm.wd qw_612 rfl rfl) (hAm.wd qw_619 rfl rfl) h91 h92 h93 ?_
      refine lv_astore (lv' := [(4, .ref q9), (0, .ref h0), (1, .int x0), (2, .int x1), (3, .ref h1)]) hx hb dL_begin_13 hl (by decide) rfl (fun ls hl => ?_)
      refine lv_iconst (v := 1) hx hb dL_begin_15 (by decide) ?_
      exact rc_iret (v := 1) hx hb hr hlocks hw [] (Or.inr (Or.inr (Or.inr (Or.inr ⟨c_11, c_12, rfl, rfl⟩)))) [] rfl (by decide) (Nat.le_of_ble_eq_true rfl) (Nat.le_of_ble_eq_true rfl) dL_begin_16
  · exact hp.elim
theorem hd_X6_drop : yX6_drop.cls ≠ "java/lang/invoke/MethodHandle" ∧ yX6_drop.cls ≠ "java/lang/invoke/VarHandle" ∧ (parseMethodDescriptor yX6_drop.desc).map (fun d => d.parameters.length) = some 0 := by decide +kernel
set_option maxHeartbeats 4000000 in
set_option maxRecDepth 100000 in
theorem cw_L_drop (l : Launch) (hst : l.stackTraces = false) (E : rc_E) (sz : Nat) (h0 : Nat) (h1 : Nat) (h2 : Nat) (h3 : Nat) (h4 : Nat) (h5 : Nat) (h6 : Nat) (h7 : Nat) (h8 : Nat) : rc_Mi l yL_drop [Cond.codeWith yL_drop cL_drop 3 (some FieldType.int) [(0, 8, 11, 15)]] { frames := 7, cells := 1, slots := 6, locals := 103 } E [.ref h0, .ref h1] [(h0, .inr (11, [.ref h2, .ref h3, .ref h4, .ref h5, .ref h6, .ref h7, .ref h8, .int 3, .int 50, .int 1000, .int 100, .int 0, .int (-1)])), (h8, .inr (5, [.int 0, .int (-1), .int (-1), .int (-1)]))] sz (S := va_W) (fun (r : Int32) (u : va_W) => (1 = r ∧ u = [])) (fun u => u) 1 6 := by
  refine rc_inWi (hh := [(0, 8, 11, 15)]) (cc := cL_drop) (maxL := 3) (ret := (some FieldType.int)) (by decide) rfl (Nat.le_of_ble_eq_true rfl) ?_
  intro p e s m args below meth c ls A htb hx hb hr hml _ hown hlocks hin hA hAm hw hl
  have hown : s.vm.findClass RL = some m.cls := hown
  have hl : lv_has ls 3 [(0, .ref h0), (1, .ref h1)] := hl
  refine lv_aload_n hx hb dL_drop_0 rfl (lv_at hl 1 rfl) ?_
  refine lv_iconst (v := 0) hx hb dL_drop_1 (by decide) ?_
  refine lv_aload_n hx hb dL_drop_2 rfl (lv_at hl 0 rfl) ?_
  refine rc_callxi (wr := []) (vx_runV (As := []) (rest := [.int 0, .ref h1]) (Ts := []) ⟨hx, hb, hml, hown, fun _ h9 => absurd h9 List.not_mem_nil⟩ (cw_X6_drop l hst E _ h0 h2 h3 h4 h5 h6 h7 h8) (rc_cwV hAm qw_792 qw_1 qw_795 qw_793 qw_794 rfl rfl hd_X6_drop ⟨Nat.le_of_ble_eq_true rfl, Nat.le_of_ble_eq_true rfl⟩) (rc_preV hAm hA hw [0, 1] rfl rfl 0 rfl (q := vwCl[11]) rfl) rfl rfl hl.1 rfl (lv_room (Nat.le_of_ble_eq_true rfl)) dL_drop_3 ⟨Nat.le_of_ble_eq_true rfl, Nat.le_of_ble_eq_true rfl⟩) hA hw [0, 1] [] rfl rfl rfl (by decide) (fun x9 ce9 q9 H locs hp hw h91 h92 h93 => ?_) (fun r_1 u_2 H locs hp hw => ?_)
  · obtain ⟨rfl⟩ := hp
    refine vx_catch (own := RL) (name := "java/lang/IllegalStateException") hown [] ⟨0, 8, 11, 15⟩ [] (by rw [htb]; rfl) (fun z9 h9 => absurd h9 List.not_mem_nil) (by decide) (by decide) (hAm.wd qw_477 rfl rfl) (hAm.wd qw_558 rfl rfl) h91 h92 h93 ?_
    refine lv_astore_n (lv' := [(2, .ref q9), (0, .ref h0), (1, .ref h1)]) hx hb dL_drop_11 rfl hl (by decide) rfl (fun ls hl => ?_)
    refine lv_iconst (v := 1) hx hb dL_drop_12 (by decide) ?_
    exact rc_iret (v := 1) hx hb hr hlocks hw [] (⟨rfl, rfl⟩) [] rfl (by decide) (Nat.le_of_ble_eq_true rfl) (Nat.le_of_ble_eq_true rfl) dL_drop_13
  · exact hp.elim
theorem hd_X6_ofCase : yX6_ofCase.cls ≠ "java/lang/invoke/MethodHandle" ∧ yX6_ofCase.cls ≠ "java/lang/invoke/VarHandle" ∧ (parseMethodDescriptor yX6_ofCase.desc).map (fun d => d.parameters.length) = some 1 := by decide +kernel
set_option maxHeartbeats 4000000 in
set_option maxRecDepth 100000 in
theorem cw_L_ofCase (l : Launch) (hst : l.stackTraces = false) (E : rc_E) (sz : Nat) (h0 : Nat) (x0 : Int32) (h1 : Nat) (h2 : Nat) (h3 : Nat) (h4 : Nat) (h5 : Nat) (h6 : Nat) (h7 : Nat) (h8 : Nat) : rc_Mi l yL_ofCase [Cond.codeWith yL_ofCase cL_ofCase 4 (some FieldType.int) [(0, 9, 12, 13)]] { frames := 7, cells := 1, slots := 6, locals := 103 } E [.ref h0, .int x0, .ref h1] [(h0, .inr (11, [.ref h2, .ref h3, .ref h4, .ref h5, .ref h6, .ref h7, .ref h8, .int 3, .int 50, .int 1000, .int 100, .int 0, .int (-1)])), (h8, .inr (5, [.int 0, .int (-1), .int (-1), .int (-1)])), (h1, .inl (E.2.1 4, 1, .inr (.inl (fun _ => 0))))] sz (S := va_W) (fun (r : Int32) (u : va_W) => (x0 < 0 ∧ 1 = r ∧ u = [(h1, .inl (E.2.1 4, 1, .inr (.inl (fun _ => 0))))]) ∨ (¬ x0 < 0 ∧ ¬ x0 ≤ 3 ∧ 1 = r ∧ u = [(h1, .inl (E.2.1 4, 1, .inr (.inl (fun _ => 0))))]) ∨ (x0 = 0 ∧ 0 = r ∧ u = [(h1, .inl (E.2.1 4, 1, .inr (.inl (vp_updL (fun _ => 0) 0 (-1)))))]) ∨ (x0 = 1 ∧ 0 = r ∧ u = [(h1, .inl (E.2.1 4, 1, .inr (.inl (vp_updL (fun _ => 0) 0 (-1)))))]) ∨ (x0 = 2 ∧ 0 = r ∧ u = [(h1, .inl (E.2.1 4, 1, .inr (.inl (vp_updL (fun _ => 0) 0 (-1)))))]) ∨ (x0 = 3 ∧ 0 = r ∧ u = [(h1, .inl (E.2.1 4, 1, .inr (.inl (vp_updL (fun _ => 0) 0 (-1)))))])) (fun u => u) 1 6 := by
  refine rc_inWi (hh := [(0, 9, 12, 13)]) (cc := cL_ofCase) (maxL := 4) (ret := (some FieldType.int)) (by decide) rfl (Nat.le_of_ble_eq_true rfl) ?_
  intro p e s m args below meth c ls A htb hx hb hr hml _ hown hlocks hin hA hAm hw hl
  have hown : s.vm.findClass RL = some m.cls := hown
  have hl : lv_has ls 4 [(0, .ref h0), (1, .int x0), (2, .ref h1)] := hl
  refine lv_aload_n hx hb dL_ofCase_0 rfl (lv_at hl 2 rfl) ?_
  refine lv_iconst (v := 0) hx hb dL_ofCase_1 (by decide) ?_
  refine lv_aload_n hx hb dL_ofCase_2 rfl (lv_at hl 0 rfl) ?_
  refine lv_iload_n hx hb dL_ofCase_3 rfl (lv_at hl 1 rfl) ?_
  refine rc_callxi (wr := [(h1, .inl (E.2.1 4, 1, .inr (.inl (fun _ => 0))))]) (vx_runV (As := [.int x0]) (rest := [.int 0, .ref h1]) (Ts := []) ⟨hx, hb, hml, hown, fun _ h9 => absurd h9 List.not_mem_nil⟩ (cw_X6_ofCase l hst E _ h0 x0 h2 h3 h4 h5 h6 h7 h8) (rc_cwV hAm qw_800 qw_1 qw_803 qw_801 qw_802 rfl rfl hd_X6_ofCase ⟨Nat.le_of_ble_eq_true rfl, Nat.le_of_ble_eq_true rfl⟩) (rc_preV hAm hA hw [0, 1] rfl rfl 0 rfl (q := vwCl[11]) rfl) rfl rfl hl.1 rfl (lv_room (Nat.le_of_ble_eq_true rfl)) dL_ofCase_4 ⟨Nat.le_of_ble_eq_true rfl, Nat.le_of_ble_eq_true rfl⟩) hA hw [0, 1] [2] rfl rfl rfl (by decide) (fun x9 ce9 q9 H locs hp hw h91 h92 h93 => ?_) (fun r_1 u_2 H locs hp hw => ?_)
  · rcases hp with ⟨rfl, c_3⟩ | ⟨rfl, c_4, c_5⟩
    · refine vx_catch (own := RL) (name := "java/lang/IllegalArgumentException") hown [] ⟨0, 9, 12, 13⟩ [] (by rw [htb]; rfl) (fun z9 h9 => absurd h9 List.not_mem_nil) (by decide) (by decide) (hAm.wd qw_476 rfl rfl) (hAm.wd qw_490 rfl rfl) h91 h92 h93 ?_
      refine lv_astore_n (lv' := [(3, .ref q9), (0, .ref h0), (1, .int x0), (2, .ref h1)]) hx hb dL_ofCase_12 rfl hl (by decide) rfl (fun ls hl => ?_)
      refine lv_iconst (v := 1) hx hb dL_ofCase_13 (by decide) ?_
      exact rc_iret (v := 1) hx hb hr hlocks hw [(h1, .inl (E.2.1 4, 1, .inr (.inl (fun _ => 0))))] (Or.inl ⟨c_3, rfl, rfl⟩) [0] rfl (by decide) (Nat.le_of_ble_eq_true rfl) (Nat.le_of_ble_eq_true rfl) dL_ofCase_14
    · refine vx_catch (own := RL) (name := "java/lang/IllegalArgumentException") hown [] ⟨0, 9, 12, 13⟩ [] (by rw [htb]; rfl) (fun z9 h9 => absurd h9 List.not_mem_nil) (by decide) (by decide) (hAm.wd qw_476 rfl rfl) (hAm.wd qw_490 rfl rfl) h91 h92 h93 ?_
      refine lv_astore_n (lv' := [(3, .ref q9), (0, .ref h0), (1, .int x0), (2, .ref h1)]) hx hb dL_ofCase_12 rfl hl (by decide) rfl (fun ls hl => ?_)
      refine lv_iconst (v := 1) hx hb dL_ofCase_13 (by decide) ?_
      exact rc_iret (v := 1) hx hb hr hlocks hw [(h1, .inl (E.2.1 4, 1, .inr (.inl (fun _ => 0))))] (Or.inr (Or.inl ⟨c_4, c_5, rfl, rfl⟩)) [0] rfl (by decide) (Nat.le_of_ble_eq_true rfl) (Nat.le_of_ble_eq_true rfl) dL_ofCase_14
  · rcases hp with ⟨c_6, rfl, rfl⟩ | ⟨c_7, rfl, rfl⟩ | ⟨c_8, rfl, rfl⟩ | ⟨c_9, rfl, rfl⟩
    · obtain rfl : x0 = 0 := rc_eqc (b := 0) rfl (by have g_c_6 := rc_g5 (b := 0) c_6 rfl; omega)
      have hw : rc_W E A s [(h1, .inl (E.2.1 4, 1, .inr (.inl (fun _ => 0)))), (h0, .inr (11, [.ref h2, .ref h3, .ref h4, .ref h5, .ref h6, .ref h7, .ref h8, .int 3, .int 50, .int 1000, .int 100, .int 0, .int (-1)])), (h8, .inr (5, [.int 0, .int (-1), .int (-1), .int (-1)]))] H locs := hw
      refine lv_i2l (v := (-1)) hx hb dL_ofCase_7 (by decide) ?_
      refine rc_last hx hb hAm hw 0 rfl (vp_in_iff.mpr (by decide)) [(h1, .inl (E.2.1 4, 1, .inr (.inl (vp_updL (fun _ => 0) 0 (-1))))), (h0, .inr (11, [.ref h2, .ref h3, .ref h4, .ref h5, .ref h6, .ref h7, .ref h8, .int 3, .int 50, .int 1000, .int 100, .int 0, .int (-1)])), (h8, .inr (5, [.int 0, .int (-1), .int (-1), .int (-1)]))] rfl dL_ofCase_8 (fun H locs hw => ?_)
      refine lv_goto (tgt := 15) hx hb dL_ofCase_9 (by decide) ?_
      refine lv_iconst (v := 0) hx hb dL_ofCase_15 (by decide) ?_
      exact rc_iret (v := 0) hx hb hr hlocks hw [(h1, .inl (E.2.1 4, 1, .inr (.inl (vp_updL (fun _ => 0) 0 (-1)))))] (Or.inr (Or.inr (Or.inl ⟨rfl, rfl, rfl⟩))) [0] rfl (by decide) (Nat.le_of_ble_eq_true rfl) (Nat.le_of_ble_eq_true rfl) dL_ofCase_16
    · obtain rfl : x0 = 1 := rc_eqc (b := 1) rfl (by have g_c_7 := rc_g5 (b := 1) c_7 rfl; omega)
      have hw : rc_W E A s [(h1, .inl (E.2.1 4, 1, .inr (.inl (fun _ => 0)))), (h0, .inr (11, [.ref h2, .ref h3, .ref h4, .ref h5, .ref h6, .ref h7, .ref h8, .int 3, .int 50, .int 1000, .int 100, .int 0, .int (-1)])), (h8, .inr (5, [.int 0, .int (-1), .int (-1), .int (-1)]))] H locs := hw
      refine lv_i2l (v := (-1)) hx hb dL_ofCase_7 (by decide) ?_
      refine rc_last hx hb hAm hw 0 rfl (vp_in_iff.mpr (by decide)) [(h1, .inl (E.2.1 4, 1, .inr (.inl (vp_updL (fun _ => 0) 0 (-1))))), (h0, .inr (11, [.ref h2, .ref h3, .ref h4, .ref h5, .ref h6, .ref h7, .ref h8, .int 3, .int 50, .int 1000, .int 100, .int 0, .int (-1)])), (h8, .inr (5, [.int 0, .int (-1), .int (-1), .int (-1)]))] rfl dL_ofCase_8 (fun H locs hw => ?_)
      refine lv_goto (tgt := 15) hx hb dL_ofCase_9 (by decide) ?_
      refine lv_iconst (v := 0) hx hb dL_ofCase_15 (by decide) ?_
      exact rc_iret (v := 0) hx hb hr hlocks hw [(h1, .inl (E.2.1 4, 1, .inr (.inl (vp_updL (fun _ => 0) 0 (-1)))))] (Or.inr (Or.inr (Or.inr (Or.inl ⟨rfl, rfl, rfl⟩)))) [0] rfl (by decide) (Nat.le_of_ble_eq_true rfl) (Nat.le_of_ble_eq_true rfl) dL_ofCase_16
    · obtain rfl : x0 = 2 := rc_eqc (b := 2) rfl (by have g_c_8 := rc_g5 (b := 2) c_8 rfl; omega)
      have hw : rc_W E A s [(h1, .inl (E.2.1 4, 1, .inr (.inl (fun _ => 0)))), (h0, .inr (11, [.ref h2, .ref h3, .ref h4, .ref h5, .ref h6, .ref h7, .ref h8, .int 3, .int 50, .int 1000, .int 100, .int 0, .int (-1)])), (h8, .inr (5, [.int 0, .int (-1), .int (-1), .int (-1)]))] H locs := hw
      refine lv_i2l (v := (-1)) hx hb dL_ofCase_7 (by decide) ?_
      refine rc_last hx hb hAm hw 0 rfl (vp_in_iff.mpr (by decide)) [(h1, .inl (E.2.1 4, 1, .inr (.inl (vp_updL (fun _ => 0) 0 (-1))))), (h0, .inr (11, [.ref h2, .ref h3, .ref h4, .ref h5, .ref h6, .ref h7, .ref h8, .int 3, .int 50, .int 1000, .int 100, .int 0, .int (-1)])), (h8, .inr (5, [.int 0, .int (-1), .int (-1), .int (-1)]))] rfl dL_ofCase_8 (fun H locs hw => ?_)
      refine lv_goto (tgt := 15) hx hb dL_ofCase_9 (by decide) ?_
      refine lv_iconst (v := 0) hx hb dL_ofCase_15 (by decide) ?_
      exact rc_iret (v := 0) hx hb hr hlocks hw [(h1, .inl (E.2.1 4, 1, .inr (.inl (vp_updL (fun _ => 0) 0 (-1)))))] (Or.inr (Or.inr (Or.inr (Or.inr (Or.inl ⟨rfl, rfl, rfl⟩))))) [0] rfl (by decide) (Nat.le_of_ble_eq_true rfl) (Nat.le_of_ble_eq_true rfl) dL_ofCase_16
    · obtain rfl : x0 = 3 := rc_eqc (b := 3) rfl (by have g_c_9 := rc_g5 (b := 3) c_9 rfl; omega)
      have hw : rc_W E A s [(h1, .inl (E.2.1 4, 1, .inr (.inl (fun _ => 0)))), (h0, .inr (11, [.ref h2, .ref h3, .ref h4, .ref h5, .ref h6, .ref h7, .ref h8, .int 3, .int 50, .int 1000, .int 100, .int 0, .int (-1)])), (h8, .inr (5, [.int 0, .int (-1), .int (-1), .int (-1)]))] H locs := hw
      refine lv_i2l (v := (-1)) hx hb dL_ofCase_7 (by decide) ?_
      refine rc_last hx hb hAm hw 0 rfl (vp_in_iff.mpr (by decide)) [(h1, .inl (E.2.1 4, 1, .inr (.inl (vp_updL (fun _ => 0) 0 (-1))))), (h0, .inr (11, [.ref h2, .ref h3, .ref h4, .ref h5, .ref h6, .ref h7, .ref h8, .int 3, .int 50, .int 1000, .int 100, .int 0, .int (-1)])), (h8, .inr (5, [.int 0, .int (-1), .int (-1), .int (-1)]))] rfl dL_ofCase_8 (fun H locs hw => ?_)
      refine lv_goto (tgt := 15) hx hb dL_ofCase_9 (by decide) ?_
      refine lv_iconst (v := 0) hx hb dL_ofCase_15 (by decide) ?_
      exact rc_iret (v := 0) hx hb hr hlocks hw [(h1, .inl (E.2.1 4, 1, .inr (.inl (vp_updL (fun _ => 0) 0 (-1)))))] (Or.inr (Or.inr (Or.inr (Or.inr (Or.inr ⟨rfl, rfl, rfl⟩))))) [0] rfl (by decide) (Nat.le_of_ble_eq_true rfl) (Nat.le_of_ble_eq_true rfl) dL_ofCase_16
theorem hd_X6_excuse : yX6_excuse.cls ≠ "java/lang/invoke/MethodHandle" ∧ yX6_excuse.cls ≠ "java/lang/invoke/VarHandle" ∧ (parseMethodDescriptor yX6_excuse.desc).map (fun d => d.parameters.length) = some 2 := by decide +kernel
set_option maxHeartbeats 4000000 in
set_option maxRecDepth 100000 in
theorem cw_L_excuse (l : Launch) (hst : l.stackTraces = false) (E : rc_E) (sz : Nat) (h0 : Nat) (x0 : Int32) (x1 : Int32) (h1 : Nat) (h2 : Nat) (h3 : Nat) (h4 : Nat) (h5 : Nat) (h6 : Nat) (h7 : Nat) (h8 : Nat) (h9 : Nat) (h10 : Nat) : rc_Mi l yL_excuse [Cond.codeWith yL_excuse cL_excuse 5 (some FieldType.int) [(0, 10, 13, 21), (0, 10, 17, 13), (0, 10, 21, 15)]] { frames := 7, cells := 1, slots := 6, locals := 105 } E [.ref h0, .int x0, .int x1, .ref h1] [(h0, .inr (11, [.ref h2, .ref h3, .ref h4, .ref h5, .ref h6, .ref h7, .ref h8, .int 3, .int 50, .int 1000, .int 100, .int 0, .int (-1)])), (h3, .inr (4, [.int 1, .ref h9, .int 1])), (h5, .inr (6, [.ref h10, .int 0, .int 0]))] sz (S := va_W) (fun (r : Int32) (u : va_W) => (x0 < 0 ∧ 1 = r ∧ u = []) ∨ (x1 < 1 ∧ x0 = 0 ∧ 2 = r ∧ u = []) ∨ (¬ x1 < 1 ∧ x1 ≤ 100 ∧ x0 = 0 ∧ 3 = r ∧ u = []) ∨ (¬ x1 < 1 ∧ ¬ x1 ≤ 100 ∧ x0 = 0 ∧ 2 = r ∧ u = []) ∨ (¬ x0 < 0 ∧ ¬ x0 < 1 ∧ 1 = r ∧ u = [])) (fun u => u) 1 6 := by
  refine rc_inWi (hh := [(0, 10, 13, 21), (0, 10, 17, 13), (0, 10, 21, 15)]) (cc := cL_excuse) (maxL := 5) (ret := (some FieldType.int)) (by decide) rfl (Nat.le_of_ble_eq_true rfl) ?_
  intro p e s m args below meth c ls A htb hx hb hr hml _ hown hlocks hin hA hAm hw hl
  have hown : s.vm.findClass RL = some m.cls := hown
  have hl : lv_has ls 5 [(0, .ref h0), (1, .int x0), (2, .int x1), (3, .ref h1)] := hl
  refine lv_aload_n hx hb dL_excuse_0 rfl (lv_at hl 3 rfl) ?_
  refine lv_iconst (v := 0) hx hb dL_excuse_1 (by decide) ?_
  refine lv_aload_n hx hb dL_excuse_2 rfl (lv_at hl 0 rfl) ?_
  refine lv_iload_n hx hb dL_excuse_3 rfl (lv_at hl 1 rfl) ?_
  refine lv_iload_n hx hb dL_excuse_4 rfl (lv_at hl 2 rfl) ?_
  refine rc_callxi (wr := []) (vx_runV (As := [.int x0, .int x1]) (rest := [.int 0, .ref h1]) (Ts := []) ⟨hx, hb, hml, hown, fun _ h9 => absurd h9 List.not_mem_nil⟩ (cw_X6_excuse l hst E _ h0 x0 x1 h2 h3 h4 h5 h6 h7 h8 h9 h10) (rc_cwV hAm qw_807 qw_1 qw_810 qw_808 qw_809 rfl rfl hd_X6_excuse ⟨Nat.le_of_ble_eq_true rfl, Nat.le_of_ble_eq_true rfl⟩) (rc_preV hAm hA hw [0, 1, 2] rfl rfl 0 rfl (q := vwCl[11]) rfl) rfl rfl hl.1 rfl (lv_room (Nat.le_of_ble_eq_true rfl)) dL_excuse_5 ⟨Nat.le_of_ble_eq_true rfl, Nat.le_of_ble_eq_true rfl⟩) hA hw [0, 1, 2] [] rfl rfl rfl (by decide) (fun x9 ce9 q9 H locs hp hw h91 h92 h93 => ?_) (fun r_1 u_2 H locs hp hw => ?_)
  · rcases hp with ⟨rfl, c_3⟩ | ⟨rfl, c_4, c_5⟩ | ⟨rfl, c_6, c_7, c_8⟩ | ⟨rfl, c_9, c_10, c_11⟩ | ⟨rfl, c_12, c_13⟩
    · refine vx_catch (own := RL) (name := "java/lang/IndexOutOfBoundsException") hown [] ⟨0, 10, 13, 21⟩ [⟨0, 10, 17, 13⟩, ⟨0, 10, 21, 15⟩] (by rw [htb]; rfl) (fun z9 h9 => absurd h9 List.not_mem_nil) (by decide) (by decide) (hAm.wd qw_612 rfl rfl) (hAm.wd qw_619 rfl rfl) h91 h92 h93 ?_
      refine lv_astore (lv' := [(4, .ref q9), (0, .ref h0), (1, .int x0), (2, .int x1), (3, .ref h1)]) hx hb dL_excuse_13 hl (by decide) rfl (fun ls hl => ?_)
      refine lv_iconst (v := 1) hx hb dL_excuse_15 (by decide) ?_
      exact rc_iret (v := 1) hx hb hr hlocks hw [] (Or.inl ⟨c_3, rfl, rfl⟩) [] rfl (by decide) (Nat.le_of_ble_eq_true rfl) (Nat.le_of_ble_eq_true rfl) dL_excuse_16
    · obtain rfl : x0 = 0 := rc_eqc (b := 0) rfl (by have g_c_5 := rc_g5 (b := 0) c_5 rfl; omega)
      refine vx_catch (own := RL) (name := "java/lang/IllegalArgumentException") hown [⟨0, 10, 13, 21⟩] ⟨0, 10, 17, 13⟩ [⟨0, 10, 21, 15⟩] (by rw [htb]; rfl) (List.forall_mem_cons.mpr ⟨Or.inr ⟨by decide, "java/lang/IndexOutOfBoundsException", hAm.wd qw_612 rfl rfl, hAm.1.2.2.2 ("java/lang/IllegalArgumentException", "java/lang/IndexOutOfBoundsException") (by decide)⟩, fun z9 h9 => absurd h9 List.not_mem_nil⟩) (by decide) (by decide) (hAm.wd qw_476 rfl rfl) (hAm.wd qw_490 rfl rfl) h91 h92 h93 ?_
      refine lv_astore (lv' := [(4, .ref q9), (0, .ref h0), (1, .int 0), (2, .int x1), (3, .ref h1)]) hx hb dL_excuse_17 hl (by decide) rfl (fun ls hl => ?_)
      refine lv_iconst (v := 2) hx hb dL_excuse_19 (by decide) ?_
      exact rc_iret (v := 2) hx hb hr hlocks hw [] (Or.inr (Or.inl ⟨c_4, rfl, rfl, rfl⟩)) [] rfl (by decide) (Nat.le_of_ble_eq_true rfl) (Nat.le_of_ble_eq_true rfl) dL_excuse_20
    · obtain rfl : x0 = 0 := rc_eqc (b := 0) rfl (by have g_c_8 := rc_g5 (b := 0) c_8 rfl; omega)
      refine vx_catch (own := RL) (name := "java/lang/IllegalStateException") hown [⟨0, 10, 13, 21⟩, ⟨0, 10, 17, 13⟩] ⟨0, 10, 21, 15⟩ [] (by rw [htb]; rfl) (List.forall_mem_cons.mpr ⟨Or.inr ⟨by decide, "java/lang/IndexOutOfBoundsException", hAm.wd qw_612 rfl rfl, hAm.1.2.2.2 ("java/lang/IllegalStateException", "java/lang/IndexOutOfBoundsException") (by decide)⟩, List.forall_mem_cons.mpr ⟨Or.inr ⟨by decide, "java/lang/IllegalArgumentException", hAm.wd qw_476 rfl rfl, hAm.1.2.2.2 ("java/lang/IllegalStateException", "java/lang/IllegalArgumentException") (by decide)⟩, fun z9 h9 => absurd h9 List.not_mem_nil⟩⟩) (by decide) (by decide) (hAm.wd qw_477 rfl rfl) (hAm.wd qw_558 rfl rfl) h91 h92 h93 ?_
      refine lv_astore (lv' := [(4, .ref q9), (0, .ref h0), (1, .int 0), (2, .int x1), (3, .ref h1)]) hx hb dL_excuse_21 hl (by decide) rfl (fun ls hl => ?_)
      refine lv_iconst (v := 3) hx hb dL_excuse_23 (by decide) ?_
      exact rc_iret (v := 3) hx hb hr hlocks hw [] (Or.inr (Or.inr (Or.inl ⟨c_6, c_7, rfl, rfl, rfl⟩))) [] rfl (by decide) (Nat.le_of_ble_eq_true rfl) (Nat.le_of_ble_eq_true rfl) dL_excuse_24
    · obtain rfl : x0 = 0 := rc_eqc (b := 0) rfl (by have g_c_11 := rc_g5 (b := 0) c_11 rfl; omega)
      refine vx_catch (own := RL) (name := "java/lang/IllegalArgumentException") hown [⟨0, 10, 13, 21⟩] ⟨0, 10, 17, 13⟩ [⟨0, 10, 21, 15⟩] (by rw [htb]; rfl) (List.forall_mem_cons.mpr ⟨Or.inr ⟨by decide, "java/lang/IndexOutOfBoundsException", hAm.wd qw_612 rfl rfl, hAm.1.2.2.2 ("java/lang/IllegalArgumentException", "java/lang/IndexOutOfBoundsException") (by decide)⟩, fun z9 h9 => absurd h9 List.not_mem_nil⟩) (by decide) (by decide) (hAm.wd qw_476 rfl rfl) (hAm.wd qw_490 rfl rfl) h91 h92 h93 ?_
      refine lv_astore (lv' := [(4, .ref q9), (0, .ref h0), (1, .int 0), (2, .int x1), (3, .ref h1)]) hx hb dL_excuse_17 hl (by decide) rfl (fun ls hl => ?_)
      refine lv_iconst (v := 2) hx hb dL_excuse_19 (by decide) ?_
      exact rc_iret (v := 2) hx hb hr hlocks hw [] (Or.inr (Or.inr (Or.inr (Or.inl ⟨c_9, c_10, rfl, rfl, rfl⟩)))) [] rfl (by decide) (Nat.le_of_ble_eq_true rfl) (Nat.le_of_ble_eq_true rfl) dL_excuse_20
    · refine vx_catch (own := RL) (name := "java/lang/IndexOutOfBoundsException") hown [] ⟨0, 10, 13, 21⟩ [⟨0, 10, 17, 13⟩, ⟨0, 10, 21, 15⟩] (by rw [htb]; rfl) (fun z9 h9 => absurd h9 List.not_mem_nil) (by decide) (by decide) (hAm.wd qw_612 rfl rfl) (hAm.wd qw_619 rfl rfl) h91 h92 h93 ?_
      refine lv_astore (lv' := [(4, .ref q9), (0, .ref h0), (1, .int x0), (2, .int x1), (3, .ref h1)]) hx hb dL_excuse_13 hl (by decide) rfl (fun ls hl => ?_)
      refine lv_iconst (v := 1) hx hb dL_excuse_15 (by decide) ?_
      exact rc_iret (v := 1) hx hb hr hlocks hw [] (Or.inr (Or.inr (Or.inr (Or.inr ⟨c_12, c_13, rfl, rfl⟩)))) [] rfl (by decide) (Nat.le_of_ble_eq_true rfl) (Nat.le_of_ble_eq_true rfl) dL_excuse_16
  · exact hp.elim
theorem hd_X6_budget : yX6_budget.cls ≠ "java/lang/invoke/MethodHandle" ∧ yX6_budget.cls ≠ "java/lang/invoke/VarHandle" ∧ (parseMethodDescriptor yX6_budget.desc).map (fun d => d.parameters.length) = some 1 := by decide +kernel
set_option maxHeartbeats 4000000 in
set_option maxRecDepth 100000 in
theorem cw_L_budget (l : Launch) (hst : l.stackTraces = false) (E : rc_E) (sz : Nat) (h0 : Nat) (x0 : Int32) (h1 : Nat) (h2 : Nat) (h3 : Nat) (h4 : Nat) (h5 : Nat) (h6 : Nat) (h7 : Nat) (h8 : Nat) : rc_Mi l yL_budget [Cond.codeWith yL_budget cL_budget 4 (some FieldType.int) [(0, 9, 12, 13)]] { frames := 7, cells := 1, slots := 6, locals := 103 } E [.ref h0, .int x0, .ref h1] [(h0, .inr (11, [.ref h2, .ref h3, .ref h4, .ref h5, .ref h6, .ref h7, .ref h8, .int 3, .int 50, .int 1000, .int 100, .int 0, .int (-1)])), (h1, .inl (E.2.1 4, 1, .inr (.inl (fun _ => 0))))] sz (S := va_W) (fun (r : Int32) (u : va_W) => (x0 < 1 ∧ 1 = r ∧ u = [(h1, .inl (E.2.1 4, 1, .inr (.inl (fun _ => 0))))]) ∨ (¬ x0 < 1 ∧ ¬ x0 ≤ 5000 ∧ 1 = r ∧ u = [(h1, .inl (E.2.1 4, 1, .inr (.inl (fun _ => 0))))]) ∨ (¬ x0 < 1 ∧ x0 ≤ 5000 ∧ 0 = r ∧ u = [(h1, .inl (E.2.1 4, 1, .inr (.inl (vp_updL (fun _ => 0) 0 (((if (1000 + x0) < 5000 then (1000 + x0) else 5000)).toInt64)))))])) (fun u => u) 1 6 := by
  refine rc_inWi (hh := [(0, 9, 12, 13)]) (cc := cL_budget) (maxL := 4) (ret := (some FieldType.int)) (by decide) rfl (Nat.le_of_ble_eq_true rfl) ?_
  intro p e s m args below meth c ls A htb hx hb hr hml _ hown hlocks hin hA hAm hw hl
  have hown : s.vm.findClass RL = some m.cls := hown
  have hl : lv_has ls 4 [(0, .ref h0), (1, .int x0), (2, .ref h1)] := hl
  refine lv_aload_n hx hb dL_budget_0 rfl (lv_at hl 2 rfl) ?_
  refine lv_iconst (v := 0) hx hb dL_budget_1 (by decide) ?_
  refine lv_aload_n hx hb dL_budget_2 rfl (lv_at hl 0 rfl) ?_
  refine lv_iload_n hx hb dL_budget_3 rfl (lv_at hl 1 rfl) ?_
  refine rc_callxi (wr := [(h1, .inl (E.2.1 4, 1, .inr (.inl (fun _ => 0))))]) (vx_runV (As := [.int x0]) (rest := [.int 0, .ref h1]) (Ts := []) ⟨hx, hb, hml, hown, fun _ h9 => absurd h9 List.not_mem_nil⟩ (cw_X6_budget l hst E _ h0 x0 h2 h3 h4 h5 h6 h7 h8) (rc_cwV hAm qw_816 qw_1 qw_819 qw_817 qw_818 rfl rfl hd_X6_budget ⟨Nat.le_of_ble_eq_true rfl, Nat.le_of_ble_eq_true rfl⟩) (rc_preV hAm hA hw [0] rfl rfl 0 rfl (q := vwCl[11]) rfl) rfl rfl hl.1 rfl (lv_room (Nat.le_of_ble_eq_true rfl)) dL_budget_4 ⟨Nat.le_of_ble_eq_true rfl, Nat.le_of_ble_eq_true rfl⟩) hA hw [0] [1] rfl rfl rfl (by decide) (fun x9 ce9 q9 H locs hp hw h91 h92 h93 => ?_) (fun r_1 u_2 H locs hp hw => ?_)
  · rcases hp with ⟨rfl, c_3⟩ | ⟨rfl, c_4, c_5⟩
    · refine vx_catch (own := RL) (name := "java/lang/IllegalArgumentException") hown [] ⟨0, 9, 12, 13⟩ [] (by rw [htb]; rfl) (fun z9 h9 => absurd h9 List.not_mem_nil) (by decide) (by decide) (hAm.wd qw_476 rfl rfl) (hAm.wd qw_490 rfl rfl) h91 h92 h93 ?_
      refine lv_astore_n (lv' := [(3, .ref q9), (0, .ref h0), (1, .int x0), (2, .ref h1)]) hx hb dL_budget_12 rfl hl (by decide) rfl (fun ls hl => ?_)
      refine lv_iconst (v := 1) hx hb dL_budget_13 (by decide) ?_
      exact rc_iret (v := 1) hx hb hr hlocks hw [(h1, .inl (E.2.1 4, 1, .inr (.inl (fun _ => 0))))] (Or.inl ⟨c_3, rfl, rfl⟩) [0] rfl (by decide) (Nat.le_of_ble_eq_true rfl) (Nat.le_of_ble_eq_true rfl) dL_budget_14
    · refine vx_catch (own := RL) (name := "java/lang/IllegalArgumentException") hown [] ⟨0, 9, 12, 13⟩ [] (by rw [htb]; rfl) (fun z9 h9 => absurd h9 List.not_mem_nil) (by decide) (by decide) (hAm.wd qw_476 rfl rfl) (hAm.wd qw_490 rfl rfl) h91 h92 h93 ?_
      refine lv_astore_n (lv' := [(3, .ref q9), (0, .ref h0), (1, .int x0), (2, .ref h1)]) hx hb dL_budget_12 rfl hl (by decide) rfl (fun ls hl => ?_)
      refine lv_iconst (v := 1) hx hb dL_budget_13 (by decide) ?_
      exact rc_iret (v := 1) hx hb hr hlocks hw [(h1, .inl (E.2.1 4, 1, .inr (.inl (fun _ => 0))))] (Or.inr (Or.inl ⟨c_4, c_5, rfl, rfl⟩)) [0] rfl (by decide) (Nat.le_of_ble_eq_true rfl) (Nat.le_of_ble_eq_true rfl) dL_budget_14
  · obtain ⟨c_6, c_7, rfl, rfl⟩ := hp
    have hw : rc_W E A s [(h1, .inl (E.2.1 4, 1, .inr (.inl (fun _ => 0)))), (h0, .inr (11, [.ref h2, .ref h3, .ref h4, .ref h5, .ref h6, .ref h7, .ref h8, .int 3, .int 50, .int (if (1000 + x0) < 5000 then (1000 + x0) else 5000), .int 100, .int 0, .int (-1)]))] H locs := hw
    refine lv_i2l (v := ((if (1000 + x0) < 5000 then (1000 + x0) else 5000)).toInt64) hx hb dL_budget_7 rfl ?_
    refine rc_last hx hb hAm hw 0 rfl (vp_in_iff.mpr (by decide)) [(h1, .inl (E.2.1 4, 1, .inr (.inl (vp_updL (fun _ => 0) 0 (((if (1000 + x0) < 5000 then (1000 + x0) else 5000)).toInt64))))), (h0, .inr (11, [.ref h2, .ref h3, .ref h4, .ref h5, .ref h6, .ref h7, .ref h8, .int 3, .int 50, .int (if (1000 + x0) < 5000 then (1000 + x0) else 5000), .int 100, .int 0, .int (-1)]))] rfl dL_budget_8 (fun H locs hw => ?_)
    refine lv_goto (tgt := 15) hx hb dL_budget_9 (by decide) ?_
    refine lv_iconst (v := 0) hx hb dL_budget_15 (by decide) ?_
    exact rc_iret (v := 0) hx hb hr hlocks hw [(h1, .inl (E.2.1 4, 1, .inr (.inl (vp_updL (fun _ => 0) 0 (((if (1000 + x0) < 5000 then (1000 + x0) else 5000)).toInt64)))))] (Or.inr (Or.inr ⟨c_6, c_7, rfl, rfl⟩)) [0] rfl (by decide) (Nat.le_of_ble_eq_true rfl) (Nat.le_of_ble_eq_true rfl) dL_budget_16
theorem hd_X6_many : yX6_many.cls ≠ "java/lang/invoke/MethodHandle" ∧ yX6_many.cls ≠ "java/lang/invoke/VarHandle" ∧ (parseMethodDescriptor yX6_many.desc).map (fun d => d.parameters.length) = some 1 := by decide +kernel
set_option maxHeartbeats 4000000 in
set_option maxRecDepth 100000 in
theorem cw_L_many (l : Launch) (hst : l.stackTraces = false) (E : rc_E) (sz : Nat) (h0 : Nat) (x0 : Int32) (h1 : Nat) (h2 : Nat) (h3 : Nat) (h4 : Nat) (h5 : Nat) (h6 : Nat) (h7 : Nat) (h8 : Nat) (h9 : Nat) (h10 : Nat) : rc_Mi l yL_many [Cond.codeWith yL_many cL_many 4 (some FieldType.int) [(0, 9, 12, 13)]] { frames := 7, cells := 1, slots := 6, locals := 128 } E [.ref h0, .int x0, .ref h1] [(h0, .inr (11, [.ref h2, .ref h3, .ref h4, .ref h5, .ref h6, .ref h7, .ref h8, .int 3, .int 50, .int 1000, .int 100, .int 0, .int (-1)])), (h2, .inr (4, [.int 0, .ref (E.2.2 0), .int 0])), (h3, .inr (4, [.int 1, .ref h9, .int 1])), (h9, .inl (E.2.1 2, 10, .inr (.inr (.inr (.inr (rc_rows [h5])))))), (h5, .inr (6, [.ref h10, .int 0, .int 0])), (h4, .inr (4, [.int 0, .ref (E.2.2 0), .int 0])), (h1, .inl (E.2.1 4, 1, .inr (.inl (fun _ => 0))))] sz (S := va_W) (fun (r : Int32) (u : va_W) => (x0 < 0 ∧ 1 = r ∧ u = [(h1, .inl (E.2.1 4, 1, .inr (.inl (fun _ => 0))))]) ∨ (¬ x0 < 0 ∧ ¬ x0 ≤ 8 ∧ 1 = r ∧ u = [(h1, .inl (E.2.1 4, 1, .inr (.inl (fun _ => 0))))]) ∨ (x0 = 0 ∧ 0 = r ∧ u = [(h1, .inl (E.2.1 4, 1, .inr (.inl (vp_updL (fun _ => 0) 0 0))))]) ∨ (x0 = 1 ∧ 0 = r ∧ u = [(h1, .inl (E.2.1 4, 1, .inr (.inl (vp_updL (fun _ => 0) 0 1))))]) ∨ (x0 = 2 ∧ 0 = r ∧ u = [(h1, .inl (E.2.1 4, 1, .inr (.inl (vp_updL (fun _ => 0) 0 0))))]) ∨ (x0 = 3 ∧ 0 = r ∧ u = [(h1, .inl (E.2.1 4, 1, .inr (.inl (vp_updL (fun _ => 0) 0 0))))]) ∨ (x0 = 4 ∧ 0 = r ∧ u = [(h1, .inl (E.2.1 4, 1, .inr (.inl (vp_updL (fun _ => 0) 0 1000))))]) ∨ (x0 = 5 ∧ 0 = r ∧ u = [(h1, .inl (E.2.1 4, 1, .inr (.inl (vp_updL (fun _ => 0) 0 100))))]) ∨ (x0 = 6 ∧ 0 = r ∧ u = [(h1, .inl (E.2.1 4, 1, .inr (.inl (vp_updL (fun _ => 0) 0 0))))]) ∨ (x0 = 7 ∧ 0 = r ∧ u = [(h1, .inl (E.2.1 4, 1, .inr (.inl (vp_updL (fun _ => 0) 0 0))))]) ∨ (x0 = 8 ∧ 0 = r ∧ u = [(h1, .inl (E.2.1 4, 1, .inr (.inl (vp_updL (fun _ => 0) 0 0))))])) (fun u => u) 1 6 := by
  refine rc_inWi (hh := [(0, 9, 12, 13)]) (cc := cL_many) (maxL := 4) (ret := (some FieldType.int)) (by decide) rfl (Nat.le_of_ble_eq_true rfl) ?_
  intro p e s m args below meth c ls A htb hx hb hr hml _ hown hlocks hin hA hAm hw hl
  have hown : s.vm.findClass RL = some m.cls := hown
  have hl : lv_has ls 4 [(0, .ref h0), (1, .int x0), (2, .ref h1)] := hl
  refine lv_aload_n hx hb dL_many_0 rfl (lv_at hl 2 rfl) ?_
  refine lv_iconst (v := 0) hx hb dL_many_1 (by decide) ?_
  refine lv_aload_n hx hb dL_many_2 rfl (lv_at hl 0 rfl) ?_
  refine lv_iload_n hx hb dL_many_3 rfl (lv_at hl 1 rfl) ?_
  refine rc_callxi (wr := [(h1, .inl (E.2.1 4, 1, .inr (.inl (fun _ => 0))))]) (vx_runV (As := [.int x0]) (rest := [.int 0, .ref h1]) (Ts := []) ⟨hx, hb, hml, hown, fun _ h9 => absurd h9 List.not_mem_nil⟩ (cw_X6_many l hst E _ h0 x0 h2 h3 h4 h5 h6 h7 h8 h9 h10) (rc_cwV hAm qw_825 qw_1 qw_828 qw_826 qw_827 rfl rfl hd_X6_many ⟨Nat.le_of_ble_eq_true rfl, Nat.le_of_ble_eq_true rfl⟩) (rc_preV hAm hA hw [0, 1, 2, 3, 4, 5] rfl rfl 0 rfl (q := vwCl[11]) rfl) rfl rfl hl.1 rfl (lv_room (Nat.le_of_ble_eq_true rfl)) dL_many_4 ⟨Nat.le_of_ble_eq_true rfl, Nat.le_of_ble_eq_true rfl⟩) hA hw [0, 1, 2, 3, 4, 5] [6] rfl rfl rfl (by decide) (fun x9 ce9 q9 H locs hp hw h91 h92 h93 => ?_) (fun r_1 u_2 H locs hp hw => ?_)
  · rcases hp with ⟨rfl, c_3⟩ | ⟨rfl, c_4, c_5⟩
    · refine vx_catch (own := RL) (name := "java/lang/IllegalArgumentException") hown [] ⟨0, 9, 12, 13⟩ [] (by rw [htb]; rfl) (fun z9 h9 => absurd h9 List.not_mem_nil) (by decide) (by decide) (hAm.wd qw_476 rfl rfl) (hAm.wd qw_490 rfl rfl) h91 h92 h93 ?_
      refine lv_astore_n (lv' := [(3, .ref q9), (0, .ref h0), (1, .int x0), (2, .ref h1)]) hx hb dL_many_12 rfl hl (by decide) rfl (fun ls hl => ?_)
      refine lv_iconst (v := 1) hx hb dL_many_13 (by decide) ?_
      exact rc_iret (v := 1) hx hb hr hlocks hw [(h1, .inl (E.2.1 4, 1, .inr (.inl (fun _ => 0))))] (Or.inl ⟨c_3, rfl, rfl⟩) [0] rfl (by decide) (Nat.le_of_ble_eq_true rfl) (Nat.le_of_ble_eq_true rfl) dL_many_14
    · refine vx_catch (own := RL) (name := "java/lang/IllegalArgumentException") hown [] ⟨0, 9, 12, 13⟩ [] (by rw [htb]; rfl) (fun z9 h9 => absurd h9 List.not_mem_nil) (by decide) (by decide) (hAm.wd qw_476 rfl rfl) (hAm.wd qw_490 rfl rfl) h91 h92 h93 ?_
      refine lv_astore_n (lv' := [(3, .ref q9), (0, .ref h0), (1, .int x0), (2, .ref h1)]) hx hb dL_many_12 rfl hl (by decide) rfl (fun ls hl => ?_)
      refine lv_iconst (v := 1) hx hb dL_many_13 (by decide) ?_
      exact rc_iret (v := 1) hx hb hr hlocks hw [(h1, .inl (E.2.1 4, 1, .inr (.inl (fun _ => 0))))] (Or.inr (Or.inl ⟨c_4, c_5, rfl, rfl⟩)) [0] rfl (by decide) (Nat.le_of_ble_eq_true rfl) (Nat.le_of_ble_eq_true rfl) dL_many_14
  · rcases hp with ⟨c_6, rfl, rfl⟩ | ⟨c_7, rfl, rfl⟩ | ⟨c_8, rfl, rfl⟩ | ⟨c_9, rfl, rfl⟩ | ⟨c_10, rfl, rfl⟩ | ⟨c_11, rfl, rfl⟩ | ⟨c_12, rfl, rfl⟩ | ⟨c_13, rfl, rfl⟩ | ⟨c_14, rfl, rfl⟩
    · obtain rfl : x0 = 0 := rc_eqc (b := 0) rfl (by have g_c_6 := rc_g5 (b := 0) c_6 rfl; omega)
      have hw : rc_W E A s [(h1, .inl (E.2.1 4, 1, .inr (.inl (fun _ => 0)))), (h0, .inr (11, [.ref h2, .ref h3, .ref h4, .ref h5, .ref h6, .ref h7, .ref h8, .int 3, .int 50, .int 1000, .int 100, .int 0, .int (-1)])), (h2, .inr (4, [.int 0, .ref (E.2.2 0), .int 0])), (h3, .inr (4, [.int 1, .ref h9, .int 1])), (h9, .inl (E.2.1 2, 10, .inr (.inr (.inr (.inr (rc_rows [h5])))))), (h5, .inr (6, [.ref h10, .int 0, .int 0])), (h4, .inr (4, [.int 0, .ref (E.2.2 0), .int 0]))] H locs := hw
      refine lv_i2l (v := 0) hx hb dL_many_7 (by decide) ?_
      refine rc_last hx hb hAm hw 0 rfl (vp_in_iff.mpr (by decide)) [(h1, .inl (E.2.1 4, 1, .inr (.inl (vp_updL (fun _ => 0) 0 0)))), (h0, .inr (11, [.ref h2, .ref h3, .ref h4, .ref h5, .ref h6, .ref h7, .ref h8, .int 3, .int 50, .int 1000, .int 100, .int 0, .int (-1)])), (h2, .inr (4, [.int 0, .ref (E.2.2 0), .int 0])), (h3, .inr (4, [.int 1, .ref h9, .int 1])), (h9, .inl (E.2.1 2, 10, .inr (.inr (.inr (.inr (rc_rows [h5])))))), (h5, .inr (6, [.ref h10, .int 0, .int 0])), (h4, .inr (4, [.int 0, .ref (E.2.2 0), .int 0]))] rfl dL_many_8 (fun H locs hw => ?_)
      refine lv_goto (tgt := 15) hx hb dL_many_9 (by decide) ?_
      refine lv_iconst (v := 0) hx hb dL_many_15 (by decide) ?_
      exact rc_iret (v := 0) hx hb hr hlocks hw [(h1, .inl (E.2.1 4, 1, .inr (.inl (vp_updL (fun _ => 0) 0 0))))] (Or.inr (Or.inr (Or.inl ⟨rfl, rfl, rfl⟩))) [0] rfl (by decide) (Nat.le_of_ble_eq_true rfl) (Nat.le_of_ble_eq_true rfl) dL_many_16
    · obtain rfl : x0 = 1 := rc_eqc (b := 1) rfl (by have g_c_7 := rc_g5 (b := 1) c_7 rfl; omega)
      have hw : rc_W E A s [(h1, .inl (E.2.1 4, 1, .inr (.inl (fun _ => 0)))), (h0, .inr (11, [.ref h2, .ref h3, .ref h4, .ref h5, .ref h6, .ref h7, .ref h8, .int 3, .int 50, .int 1000, .int 100, .int 0, .int (-1)])), (h2, .inr (4, [.int 0, .ref (E.2.2 0), .int 0])), (h3, .inr (4, [.int 1, .ref h9, .int 1])), (h9, .inl (E.2.1 2, 10, .inr (.inr (.inr (.inr (rc_rows [h5])))))), (h5, .inr (6, [.ref h10, .int 0, .int 0])), (h4, .inr (4, [.int 0, .ref (E.2.2 0), .int 0]))] H locs := hw
      refine lv_i2l (v := 1) hx hb dL_many_7 (by decide) ?_
      refine rc_last hx hb hAm hw 0 rfl (vp_in_iff.mpr (by decide)) [(h1, .inl (E.2.1 4, 1, .inr (.inl (vp_updL (fun _ => 0) 0 1)))), (h0, .inr (11, [.ref h2, .ref h3, .ref h4, .ref h5, .ref h6, .ref h7, .ref h8, .int 3, .int 50, .int 1000, .int 100, .int 0, .int (-1)])), (h2, .inr (4, [.int 0, .ref (E.2.2 0), .int 0])), (h3, .inr (4, [.int 1, .ref h9, .int 1])), (h9, .inl (E.2.1 2, 10, .inr (.inr (.inr (.inr (rc_rows [h5])))))), (h5, .inr (6, [.ref h10, .int 0, .int 0])), (h4, .inr (4, [.int 0, .ref (E.2.2 0), .int 0]))] rfl dL_many_8 (fun H locs hw => ?_)
      refine lv_goto (tgt := 15) hx hb dL_many_9 (by decide) ?_
      refine lv_iconst (v := 0) hx hb dL_many_15 (by decide) ?_
      exact rc_iret (v := 0) hx hb hr hlocks hw [(h1, .inl (E.2.1 4, 1, .inr (.inl (vp_updL (fun _ => 0) 0 1))))] (Or.inr (Or.inr (Or.inr (Or.inl ⟨rfl, rfl, rfl⟩)))) [0] rfl (by decide) (Nat.le_of_ble_eq_true rfl) (Nat.le_of_ble_eq_true rfl) dL_many_16
    · obtain rfl : x0 = 2 := rc_eqc (b := 2) rfl (by have g_c_8 := rc_g5 (b := 2) c_8 rfl; omega)
      have hw : rc_W E A s [(h1, .inl (E.2.1 4, 1, .inr (.inl (fun _ => 0)))), (h0, .inr (11, [.ref h2, .ref h3, .ref h4, .ref h5, .ref h6, .ref h7, .ref h8, .int 3, .int 50, .int 1000, .int 100, .int 0, .int (-1)])), (h2, .inr (4, [.int 0, .ref (E.2.2 0), .int 0])), (h3, .inr (4, [.int 1, .ref h9, .int 1])), (h9, .inl (E.2.1 2, 10, .inr (.inr (.inr (.inr (rc_rows [h5])))))), (h5, .inr (6, [.ref h10, .int 0, .int 0])), (h4, .inr (4, [.int 0, .ref (E.2.2 0), .int 0]))] H locs := hw
      refine lv_i2l (v := 0) hx hb dL_many_7 (by decide) ?_
      refine rc_last hx hb hAm hw 0 rfl (vp_in_iff.mpr (by decide)) [(h1, .inl (E.2.1 4, 1, .inr (.inl (vp_updL (fun _ => 0) 0 0)))), (h0, .inr (11, [.ref h2, .ref h3, .ref h4, .ref h5, .ref h6, .ref h7, .ref h8, .int 3, .int 50, .int 1000, .int 100, .int 0, .int (-1)])), (h2, .inr (4, [.int 0, .ref (E.2.2 0), .int 0])), (h3, .inr (4, [.int 1, .ref h9, .int 1])), (h9, .inl (E.2.1 2, 10, .inr (.inr (.inr (.inr (rc_rows [h5])))))), (h5, .inr (6, [.ref h10, .int 0, .int 0])), (h4, .inr (4, [.int 0, .ref (E.2.2 0), .int 0]))] rfl dL_many_8 (fun H locs hw => ?_)
      refine lv_goto (tgt := 15) hx hb dL_many_9 (by decide) ?_
      refine lv_iconst (v := 0) hx hb dL_many_15 (by decide) ?_
      exact rc_iret (v := 0) hx hb hr hlocks hw [(h1, .inl (E.2.1 4, 1, .inr (.inl (vp_updL (fun _ => 0) 0 0))))] (Or.inr (Or.inr (Or.inr (Or.inr (Or.inl ⟨rfl, rfl, rfl⟩))))) [0] rfl (by decide) (Nat.le_of_ble_eq_true rfl) (Nat.le_of_ble_eq_true rfl) dL_many_16
    · obtain rfl : x0 = 3 := rc_eqc (b := 3) rfl (by have g_c_9 := rc_g5 (b := 3) c_9 rfl; omega)
      have hw : rc_W E A s [(h1, .inl (E.2.1 4, 1, .inr (.inl (fun _ => 0)))), (h0, .inr (11, [.ref h2, .ref h3, .ref h4, .ref h5, .ref h6, .ref h7, .ref h8, .int 3, .int 50, .int 1000, .int 100, .int 0, .int (-1)])), (h2, .inr (4, [.int 0, .ref (E.2.2 0), .int 0])), (h3, .inr (4, [.int 1, .ref h9, .int 1])), (h9, .inl (E.2.1 2, 10, .inr (.inr (.inr (.inr (rc_rows [h5])))))), (h5, .inr (6, [.ref h10, .int 0, .int 0])), (h4, .inr (4, [.int 0, .ref (E.2.2 0), .int 0]))] H locs := hw
      refine lv_i2l (v := 0) hx hb dL_many_7 (by decide) ?_
      refine rc_last hx hb hAm hw 0 rfl (vp_in_iff.mpr (by decide)) [(h1, .inl (E.2.1 4, 1, .inr (.inl (vp_updL (fun _ => 0) 0 0)))), (h0, .inr (11, [.ref h2, .ref h3, .ref h4, .ref h5, .ref h6, .ref h7, .ref h8, .int 3, .int 50, .int 1000, .int 100, .int 0, .int (-1)])), (h2, .inr (4, [.int 0, .ref (E.2.2 0), .int 0])), (h3, .inr (4, [.int 1, .ref h9, .int 1])), (h9, .inl (E.2.1 2, 10, .inr (.inr (.inr (.inr (rc_rows [h5])))))), (h5, .inr (6, [.ref h10, .int 0, .int 0])), (h4, .inr (4, [.int 0, .ref (E.2.2 0), .int 0]))] rfl dL_many_8 (fun H locs hw => ?_)
      refine lv_goto (tgt := 15) hx hb dL_many_9 (by decide) ?_
      refine lv_iconst (v := 0) hx hb dL_many_15 (by decide) ?_
      exact rc_iret (v := 0) hx hb hr hlocks hw [(h1, .inl (E.2.1 4, 1, .inr (.inl (vp_updL (fun _ => 0) 0 0))))] (Or.inr (Or.inr (Or.inr (Or.inr (Or.inr (Or.inl ⟨rfl, rfl, rfl⟩)))))) [0] rfl (by decide) (Nat.le_of_ble_eq_true rfl) (Nat.le_of_ble_eq_true rfl) dL_many_16
    · obtain rfl : x0 = 4 := rc_eqc (b := 4) rfl (by have g_c_10 := rc_g5 (b := 4) c_10 rfl; omega)
      have hw : rc_W E A s [(h1, .inl (E.2.1 4, 1, .inr (.inl (fun _ => 0)))), (h0, .inr (11, [.ref h2, .ref h3, .ref h4, .ref h5, .ref h6, .ref h7, .ref h8, .int 3, .int 50, .int 1000, .int 100, .int 0, .int (-1)])), (h2, .inr (4, [.int 0, .ref (E.2.2 0), .int 0])), (h3, .inr (4, [.int 1, .ref h9, .int 1])), (h9, .inl (E.2.1 2, 10, .inr (.inr (.inr (.inr (rc_rows [h5])))))), (h5, .inr (6, [.ref h10, .int 0, .int 0])), (h4, .inr (4, [.int 0, .ref (E.2.2 0), .int 0]))] H locs := hw
      refine lv_i2l (v := 1000) hx hb dL_many_7 (by decide) ?_
      refine rc_last hx hb hAm hw 0 rfl (vp_in_iff.mpr (by decide)) [(h1, .inl (E.2.1 4, 1, .inr (.inl (vp_updL (fun _ => 0) 0 1000)))), (h0, .inr (11, [.ref h2, .ref h3, .ref h4, .ref h5, .ref h6, .ref h7, .ref h8, .int 3, .int 50, .int 1000, .int 100, .int 0, .int (-1)])), (h2, .inr (4, [.int 0, .ref (E.2.2 0), .int 0])), (h3, .inr (4, [.int 1, .ref h9, .int 1])), (h9, .inl (E.2.1 2, 10, .inr (.inr (.inr (.inr (rc_rows [h5])))))), (h5, .inr (6, [.ref h10, .int 0, .int 0])), (h4, .inr (4, [.int 0, .ref (E.2.2 0), .int 0]))] rfl dL_many_8 (fun H locs hw => ?_)
      refine lv_goto (tgt := 15) hx hb dL_many_9 (by decide) ?_
      refine lv_iconst (v := 0) hx hb dL_many_15 (by decide) ?_
      exact rc_iret (v := 0) hx hb hr hlocks hw [(h1, .inl (E.2.1 4, 1, .inr (.inl (vp_updL (fun _ => 0) 0 1000))))] (Or.inr (Or.inr (Or.inr (Or.inr (Or.inr (Or.inr (Or.inl ⟨rfl, rfl, rfl⟩))))))) [0] rfl (by decide) (Nat.le_of_ble_eq_true rfl) (Nat.le_of_ble_eq_true rfl) dL_many_16
    · obtain rfl : x0 = 5 := rc_eqc (b := 5) rfl (by have g_c_11 := rc_g5 (b := 5) c_11 rfl; omega)
      have hw : rc_W E A s [(h1, .inl (E.2.1 4, 1, .inr (.inl (fun _ => 0)))), (h0, .inr (11, [.ref h2, .ref h3, .ref h4, .ref h5, .ref h6, .ref h7, .ref h8, .int 3, .int 50, .int 1000, .int 100, .int 0, .int (-1)])), (h2, .inr (4, [.int 0, .ref (E.2.2 0), .int 0])), (h3, .inr (4, [.int 1, .ref h9, .int 1])), (h9, .inl (E.2.1 2, 10, .inr (.inr (.inr (.inr (rc_rows [h5])))))), (h5, .inr (6, [.ref h10, .int 0, .int 0])), (h4, .inr (4, [.int 0, .ref (E.2.2 0), .int 0]))] H locs := hw
      refine lv_i2l (v := 100) hx hb dL_many_7 (by decide) ?_
      refine rc_last hx hb hAm hw 0 rfl (vp_in_iff.mpr (by decide)) [(h1, .inl (E.2.1 4, 1, .inr (.inl (vp_updL (fun _ => 0) 0 100)))), (h0, .inr (11, [.ref h2, .ref h3, .ref h4, .ref h5, .ref h6, .ref h7, .ref h8, .int 3, .int 50, .int 1000, .int 100, .int 0, .int (-1)])), (h2, .inr (4, [.int 0, .ref (E.2.2 0), .int 0])), (h3, .inr (4, [.int 1, .ref h9, .int 1])), (h9, .inl (E.2.1 2, 10, .inr (.inr (.inr (.inr (rc_rows [h5])))))), (h5, .inr (6, [.ref h10, .int 0, .int 0])), (h4, .inr (4, [.int 0, .ref (E.2.2 0), .int 0]))] rfl dL_many_8 (fun H locs hw => ?_)
      refine lv_goto (tgt := 15) hx hb dL_many_9 (by decide) ?_
      refine lv_iconst (v := 0) hx hb dL_many_15 (by decide) ?_
      exact rc_iret (v := 0) hx hb hr hlocks hw [(h1, .inl (E.2.1 4, 1, .inr (.inl (vp_updL (fun _ => 0) 0 100))))] (Or.inr (Or.inr (Or.inr (Or.inr (Or.inr (Or.inr (Or.inr (Or.inl ⟨rfl, rfl, rfl⟩)))))))) [0] rfl (by decide) (Nat.le_of_ble_eq_true rfl) (Nat.le_of_ble_eq_true rfl) dL_many_16
    · obtain rfl : x0 = 6 := rc_eqc (b := 6) rfl (by have g_c_12 := rc_g5 (b := 6) c_12 rfl; omega)
      have hw : rc_W E A s [(h1, .inl (E.2.1 4, 1, .inr (.inl (fun _ => 0)))), (h0, .inr (11, [.ref h2, .ref h3, .ref h4, .ref h5, .ref h6, .ref h7, .ref h8, .int 3, .int 50, .int 1000, .int 100, .int 0, .int (-1)])), (h2, .inr (4, [.int 0, .ref (E.2.2 0), .int 0])), (h3, .inr (4, [.int 1, .ref h9, .int 1])), (h9, .inl (E.2.1 2, 10, .inr (.inr (.inr (.inr (rc_rows [h5])))))), (h5, .inr (6, [.ref h10, .int 0, .int 0])), (h4, .inr (4, [.int 0, .ref (E.2.2 0), .int 0]))] H locs := hw
      refine lv_i2l (v := 0) hx hb dL_many_7 (by decide) ?_
      refine rc_last hx hb hAm hw 0 rfl (vp_in_iff.mpr (by decide)) [(h1, .inl (E.2.1 4, 1, .inr (.inl (vp_updL (fun _ => 0) 0 0)))), (h0, .inr (11, [.ref h2, .ref h3, .ref h4, .ref h5, .ref h6, .ref h7, .ref h8, .int 3, .int 50, .int 1000, .int 100, .int 0, .int (-1)])), (h2, .inr (4, [.int 0, .ref (E.2.2 0), .int 0])), (h3, .inr (4, [.int 1, .ref h9, .int 1])), (h9, .inl (E.2.1 2, 10, .inr (.inr (.inr (.inr (rc_rows [h5])))))), (h5, .inr (6, [.ref h10, .int 0, .int 0])), (h4, .inr (4, [.int 0, .ref (E.2.2 0), .int 0]))] rfl dL_many_8 (fun H locs hw => ?_)
      refine lv_goto (tgt := 15) hx hb dL_many_9 (by decide) ?_
      refine lv_iconst (v := 0) hx hb dL_many_15 (by decide) ?_
      exact rc_iret (v := 0) hx hb hr hlocks hw [(h1, .inl (E.2.1 4, 1, .inr (.inl (vp_updL (fun _ => 0) 0 0))))] (Or.inr (Or.inr (Or.inr (Or.inr (Or.inr (Or.inr (Or.inr (Or.inr (Or.inl ⟨rfl, rfl, rfl⟩))))))))) [0] rfl (by decide) (Nat.le_of_ble_eq_true rfl) (Nat.le_of_ble_eq_true rfl) dL_many_16
    · obtain rfl : x0 = 7 := rc_eqc (b := 7) rfl (by have g_c_13 := rc_g5 (b := 7) c_13 rfl; omega)
      have hw : rc_W E A s [(h1, .inl (E.2.1 4, 1, .inr (.inl (fun _ => 0)))), (h0, .inr (11, [.ref h2, .ref h3, .ref h4, .ref h5, .ref h6, .ref h7, .ref h8, .int 3, .int 50, .int 1000, .int 100, .int 0, .int (-1)])), (h2, .inr (4, [.int 0, .ref (E.2.2 0), .int 0])), (h3, .inr (4, [.int 1, .ref h9, .int 1])), (h9, .inl (E.2.1 2, 10, .inr (.inr (.inr (.inr (rc_rows [h5])))))), (h5, .inr (6, [.ref h10, .int 0, .int 0])), (h4, .inr (4, [.int 0, .ref (E.2.2 0), .int 0]))] H locs := hw
      refine lv_i2l (v := 0) hx hb dL_many_7 (by decide) ?_
      refine rc_last hx hb hAm hw 0 rfl (vp_in_iff.mpr (by decide)) [(h1, .inl (E.2.1 4, 1, .inr (.inl (vp_updL (fun _ => 0) 0 0)))), (h0, .inr (11, [.ref h2, .ref h3, .ref h4, .ref h5, .ref h6, .ref h7, .ref h8, .int 3, .int 50, .int 1000, .int 100, .int 0, .int (-1)])), (h2, .inr (4, [.int 0, .ref (E.2.2 0), .int 0])), (h3, .inr (4, [.int 1, .ref h9, .int 1])), (h9, .inl (E.2.1 2, 10, .inr (.inr (.inr (.inr (rc_rows [h5])))))), (h5, .inr (6, [.ref h10, .int 0, .int 0])), (h4, .inr (4, [.int 0, .ref (E.2.2 0), .int 0]))] rfl dL_many_8 (fun H locs hw => ?_)
      refine lv_goto (tgt := 15) hx hb dL_many_9 (by decide) ?_
      refine lv_iconst (v := 0) hx hb dL_many_15 (by decide) ?_
      exact rc_iret (v := 0) hx hb hr hlocks hw [(h1, .inl (E.2.1 4, 1, .inr (.inl (vp_updL (fun _ => 0) 0 0))))] (Or.inr (Or.inr (Or.inr (Or.inr (Or.inr (Or.inr (Or.inr (Or.inr (Or.inr (Or.inl ⟨rfl, rfl, rfl⟩)))))))))) [0] rfl (by decide) (Nat.le_of_ble_eq_true rfl) (Nat.le_of_ble_eq_true rfl) dL_many_16
    · obtain rfl : x0 = 8 := rc_eqc (b := 8) rfl (by have g_c_14 := rc_g5 (b := 8) c_14 rfl; omega)
      have hw : rc_W E A s [(h1, .inl (E.2.1 4, 1, .inr (.inl (fun _ => 0)))), (h0, .inr (11, [.ref h2, .ref h3, .ref h4, .ref h5, .ref h6, .ref h7, .ref h8, .int 3, .int 50, .int 1000, .int 100, .int 0, .int (-1)])), (h2, .inr (4, [.int 0, .ref (E.2.2 0), .int 0])), (h3, .inr (4, [.int 1, .ref h9, .int 1])), (h9, .inl (E.2.1 2, 10, .inr (.inr (.inr (.inr (rc_rows [h5])))))), (h5, .inr (6, [.ref h10, .int 0, .int 0])), (h4, .inr (4, [.int 0, .ref (E.2.2 0), .int 0]))] H locs := hw
      refine lv_i2l (v := 0) hx hb dL_many_7 (by decide) ?_
      refine rc_last hx hb hAm hw 0 rfl (vp_in_iff.mpr (by decide)) [(h1, .inl (E.2.1 4, 1, .inr (.inl (vp_updL (fun _ => 0) 0 0)))), (h0, .inr (11, [.ref h2, .ref h3, .ref h4, .ref h5, .ref h6, .ref h7, .ref h8, .int 3, .int 50, .int 1000, .int 100, .int 0, .int (-1)])), (h2, .inr (4, [.int 0, .ref (E.2.2 0), .int 0])), (h3, .inr (4, [.int 1, .ref h9, .int 1])), (h9, .inl (E.2.1 2, 10, .inr (.inr (.inr (.inr (rc_rows [h5])))))), (h5, .inr (6, [.ref h10, .int 0, .int 0])), (h4, .inr (4, [.int 0, .ref (E.2.2 0), .int 0]))] rfl dL_many_8 (fun H locs hw => ?_)
      refine lv_goto (tgt := 15) hx hb dL_many_9 (by decide) ?_
      refine lv_iconst (v := 0) hx hb dL_many_15 (by decide) ?_
      exact rc_iret (v := 0) hx hb hr hlocks hw [(h1, .inl (E.2.1 4, 1, .inr (.inl (vp_updL (fun _ => 0) 0 0))))] (Or.inr (Or.inr (Or.inr (Or.inr (Or.inr (Or.inr (Or.inr (Or.inr (Or.inr (Or.inr ⟨rfl, rfl, rfl⟩)))))))))) [0] rfl (by decide) (Nat.le_of_ble_eq_true rfl) (Nat.le_of_ble_eq_true rfl) dL_many_16
theorem hd_X6_minutesFor : yX6_minutesFor.cls ≠ "java/lang/invoke/MethodHandle" ∧ yX6_minutesFor.cls ≠ "java/lang/invoke/VarHandle" ∧ (parseMethodDescriptor yX6_minutesFor.desc).map (fun d => d.parameters.length) = some 1 := by decide +kernel
set_option maxHeartbeats 4000000 in
set_option maxRecDepth 100000 in
theorem cw_L_minutesFor (l : Launch) (hst : l.stackTraces = false) (E : rc_E) (sz : Nat) (h0 : Nat) (x0 : Int32) (h1 : Nat) (h2 : Nat) (h3 : Nat) (h4 : Nat) (h5 : Nat) (h6 : Nat) (h7 : Nat) (h8 : Nat) (h9 : Nat) (h10 : Nat) : rc_Mi l yL_minutesFor [Cond.codeWith yL_minutesFor cL_minutesFor 4 (some FieldType.int) [(0, 9, 12, 21)]] { frames := 7, cells := 1, slots := 6, locals := 103 } E [.ref h0, .int x0, .ref h1] [(h0, .inr (11, [.ref h2, .ref h3, .ref h4, .ref h5, .ref h6, .ref h7, .ref h8, .int 3, .int 50, .int 1000, .int 100, .int 0, .int (-1)])), (h2, .inr (4, [.int 0, .ref (E.2.2 0), .int 0])), (h3, .inr (4, [.int 1, .ref h9, .int 1])), (h5, .inr (6, [.ref h10, .int 0, .int 0])), (h10, .inr (4, [.int 0, .ref (E.2.2 0), .int 0])), (h1, .inl (E.2.1 4, 1, .inr (.inl (fun _ => 0))))] sz (S := va_W) (fun (r : Int32) (u : va_W) => (x0 < 0 ∧ 1 = r ∧ u = [(h1, .inl (E.2.1 4, 1, .inr (.inl (fun _ => 0))))]) ∨ (¬ x0 < 0 ∧ ¬ x0 < 1 ∧ 1 = r ∧ u = [(h1, .inl (E.2.1 4, 1, .inr (.inl (fun _ => 0))))]) ∨ (x0 = 0 ∧ 0 = r ∧ u = [(h1, .inl (E.2.1 4, 1, .inr (.inl (vp_updL (fun _ => 0) 0 (-1)))))])) (fun u => u) 1 6 := by
  refine rc_inWi (hh := [(0, 9, 12, 21)]) (cc := cL_minutesFor) (maxL := 4) (ret := (some FieldType.int)) (by decide) rfl (Nat.le_of_ble_eq_true rfl) ?_
  intro p e s m args below meth c ls A htb hx hb hr hml _ hown hlocks hin hA hAm hw hl
  have hown : s.vm.findClass RL = some m.cls := hown
  have hl : lv_has ls 4 [(0, .ref h0), (1, .int x0), (2, .ref h1)] := hl
  refine lv_aload_n hx hb dL_minutesFor_0 rfl (lv_at hl 2 rfl) ?_
  refine lv_iconst (v := 0) hx hb dL_minutesFor_1 (by decide) ?_
  refine lv_aload_n hx hb dL_minutesFor_2 rfl (lv_at hl 0 rfl) ?_
  refine lv_iload_n hx hb dL_minutesFor_3 rfl (lv_at hl 1 rfl) ?_
  refine rc_callxi (wr := [(h1, .inl (E.2.1 4, 1, .inr (.inl (fun _ => 0))))]) (vx_runV (As := [.int x0]) (rest := [.int 0, .ref h1]) (Ts := []) ⟨hx, hb, hml, hown, fun _ h9 => absurd h9 List.not_mem_nil⟩ (cw_X6_minutesFor l hst E _ h0 x0 h2 h3 h4 h5 h6 h7 h8 h9 h10) (rc_cwV hAm qw_832 qw_1 qw_835 qw_833 qw_834 rfl rfl hd_X6_minutesFor ⟨Nat.le_of_ble_eq_true rfl, Nat.le_of_ble_eq_true rfl⟩) (rc_preV hAm hA hw [0, 1, 2, 3, 4] rfl rfl 0 rfl (q := vwCl[11]) rfl) rfl rfl hl.1 rfl (lv_room (Nat.le_of_ble_eq_true rfl)) dL_minutesFor_4 ⟨Nat.le_of_ble_eq_true rfl, Nat.le_of_ble_eq_true rfl⟩) hA hw [0, 1, 2, 3, 4] [5] rfl rfl rfl (by decide) (fun x9 ce9 q9 H locs hp hw h91 h92 h93 => ?_) (fun r_1 u_2 H locs hp hw => ?_)
  · rcases hp with ⟨rfl, c_3⟩ | ⟨rfl, c_4, c_5⟩
    · refine vx_catch (own := RL) (name := "java/lang/IndexOutOfBoundsException") hown [] ⟨0, 9, 12, 21⟩ [] (by rw [htb]; rfl) (fun z9 h9 => absurd h9 List.not_mem_nil) (by decide) (by decide) (hAm.wd qw_612 rfl rfl) (hAm.wd qw_619 rfl rfl) h91 h92 h93 ?_
      refine lv_astore_n (lv' := [(3, .ref q9), (0, .ref h0), (1, .int x0), (2, .ref h1)]) hx hb dL_minutesFor_12 rfl hl (by decide) rfl (fun ls hl => ?_)
      refine lv_iconst (v := 1) hx hb dL_minutesFor_13 (by decide) ?_
      exact rc_iret (v := 1) hx hb hr hlocks hw [(h1, .inl (E.2.1 4, 1, .inr (.inl (fun _ => 0))))] (Or.inl ⟨c_3, rfl, rfl⟩) [0] rfl (by decide) (Nat.le_of_ble_eq_true rfl) (Nat.le_of_ble_eq_true rfl) dL_minutesFor_14
    · refine vx_catch (own := RL) (name := "java/lang/IndexOutOfBoundsException") hown [] ⟨0, 9, 12, 21⟩ [] (by rw [htb]; rfl) (fun z9 h9 => absurd h9 List.not_mem_nil) (by decide) (by decide) (hAm.wd qw_612 rfl rfl) (hAm.wd qw_619 rfl rfl) h91 h92 h93 ?_
      refine lv_astore_n (lv' := [(3, .ref q9), (0, .ref h0), (1, .int x0), (2, .ref h1)]) hx hb dL_minutesFor_12 rfl hl (by decide) rfl (fun ls hl => ?_)
      refine lv_iconst (v := 1) hx hb dL_minutesFor_13 (by decide) ?_
      exact rc_iret (v := 1) hx hb hr hlocks hw [(h1, .inl (E.2.1 4, 1, .inr (.inl (fun _ => 0))))] (Or.inr (Or.inl ⟨c_4, c_5, rfl, rfl⟩)) [0] rfl (by decide) (Nat.le_of_ble_eq_true rfl) (Nat.le_of_ble_eq_true rfl) dL_minutesFor_14
  · obtain ⟨c_6, rfl, rfl⟩ := hp
    obtain rfl : x0 = 0 := rc_eqc (b := 0) rfl (by have g_c_6 := rc_g5 (b := 0) c_6 rfl; omega)
    have hw : rc_W E A s [(h1, .inl (E.2.1 4, 1, .inr (.inl (fun _ => 0)))), (h0, .inr (11, [.ref h2, .ref h3, .ref h4, .ref h5, .ref h6, .ref h7, .ref h8, .int 3, .int 50, .int 1000, .int 100, .int 0, .int (-1)])), (h2, .inr (4, [.int 0, .ref (E.2.2 0), .int 0])), (h3, .inr (4, [.int 1, .ref h9, .int 1])), (h5, .inr (6, [.ref h10, .int 0, .int 0])), (h10, .inr (4, [.int 0, .ref (E.2.2 0), .int 0]))] H locs := hw
    refine lv_i2l (v := (-1)) hx hb dL_minutesFor_7 (by decide) ?_
    refine rc_last hx hb hAm hw 0 rfl (vp_in_iff.mpr (by decide)) [(h1, .inl (E.2.1 4, 1, .inr (.inl (vp_updL (fun _ => 0) 0 (-1))))), (h0, .inr (11, [.ref h2, .ref h3, .ref h4, .ref h5, .ref h6, .ref h7, .ref h8, .int 3, .int 50, .int 1000, .int 100, .int 0, .int (-1)])), (h2, .inr (4, [.int 0, .ref (E.2.2 0), .int 0])), (h3, .inr (4, [.int 1, .ref h9, .int 1])), (h5, .inr (6, [.ref h10, .int 0, .int 0])), (h10, .inr (4, [.int 0, .ref (E.2.2 0), .int 0]))] rfl dL_minutesFor_8 (fun H locs hw => ?_)
    refine lv_goto (tgt := 15) hx hb dL_minutesFor_9 (by decide) ?_
    refine lv_iconst (v := 0) hx hb dL_minutesFor_15 (by decide) ?_
    exact rc_iret (v := 0) hx hb hr hlocks hw [(h1, .inl (E.2.1 4, 1, .inr (.inl (vp_updL (fun _ => 0) 0 (-1)))))] (Or.inr (Or.inr ⟨rfl, rfl, rfl⟩)) [0] rfl (by decide) (Nat.le_of_ble_eq_true rfl) (Nat.le_of_ble_eq_true rfl) dL_minutesFor_16
theorem hd_X6_verdictWith : yX6_verdictWith.cls ≠ "java/lang/invoke/MethodHandle" ∧ yX6_verdictWith.cls ≠ "java/lang/invoke/VarHandle" ∧ (parseMethodDescriptor yX6_verdictWith.desc).map (fun d => d.parameters.length) = some 3 := by decide +kernel
set_option maxHeartbeats 4000000 in
set_option maxRecDepth 100000 in
theorem cw_L_verdictWith (l : Launch) (hst : l.stackTraces = false) (E : rc_E) (sz : Nat) (h0 : Nat) (x0 : Int32) (x1 : Int32) (x2 : Int32) (h1 : Nat) (h2 : Nat) (h3 : Nat) (h4 : Nat) (h5 : Nat) (h6 : Nat) (h7 : Nat) (h8 : Nat) (h9 : Nat) (h10 : Nat) (h11 : Nat) (h12 : Nat) (h13 : Nat) (h14 : Nat) (h15 : Nat) (h16 : Nat) (h17 : Nat) (h18 : Nat) (h19 : Nat) (h20 : Nat) (h21 : Nat) (h22 : Nat) (h23 : Nat) : rc_Mi l yL_verdictWith [Cond.codeWith yL_verdictWith cL_verdictWith 6 (some FieldType.int) [(0, 12, 15, 21), (0, 12, 19, 13)]] { frames := 7, cells := 1, slots := 6, locals := 105 } E [.ref h0, .int x0, .int x1, .int x2, .ref h1] [(h0, .inr (11, [.ref h2, .ref h3, .ref h4, .ref h5, .ref h6, .ref h7, .ref h8, .int 3, .int 50, .int 1000, .int 100, .int 0, .int (-1)])), (h3, .inr (4, [.int 1, .ref h9, .int 1])), (h5, .inr (6, [.ref h10, .int 0, .int 0])), (h10, .inr (4, [.int 0, .ref (E.2.2 0), .int 0])), (h7, .inr (7, [.ref h11, .ref h12, .ref h13, .ref h14, .int 0, .int 0, .int 0, .int 1, .int 1, .int 1])), (h11, .inr (10, [.ref h15, .int 0])), (h12, .inr (10, [.ref h16, .int 0])), (h16, .inl (E.2.1 0, 6, .inl (fun _ => 0))), (h13, .inl (E.2.1 0, 12, .inl (fun _ => 0))), (h14, .inl (E.2.1 1, 7, .inr (.inr (.inr (.inr (rc_rows [h17, h18, h19, h20, h21, h22, h23])))))), (h17, .inl (E.2.1 0, 133, .inl (fun _ => 0))), (h18, .inl (E.2.1 0, 133, .inl (fun _ => 0))), (h19, .inl (E.2.1 0, 133, .inl (fun _ => 0))), (h20, .inl (E.2.1 0, 133, .inl (fun _ => 0))), (h21, .inl (E.2.1 0, 133, .inl (fun _ => 0))), (h22, .inl (E.2.1 0, 133, .inl (fun _ => 0))), (h23, .inl (E.2.1 0, 133, .inl (fun _ => 0))), (h1, .inl (E.2.1 4, 1, .inr (.inl (fun _ => 0))))] sz (S := va_W) (fun (r : Int32) (u : va_W) => (x0 < 0 ∧ 1 = r ∧ u = [(h1, .inl (E.2.1 4, 1, .inr (.inl (fun _ => 0))))]) ∨ (x1 < 0 ∧ x0 = 0 ∧ 1 = r ∧ u = [(h1, .inl (E.2.1 4, 1, .inr (.inl (fun _ => 0))))]) ∨ (x2 < 1 ∧ x0 = 0 ∧ x1 = 0 ∧ 2 = r ∧ u = [(h1, .inl (E.2.1 4, 1, .inr (.inl (fun _ => 0))))]) ∨ (¬ x2 < 1 ∧ ¬ x2 ≤ 20000 ∧ x0 = 0 ∧ x1 = 0 ∧ 2 = r ∧ u = [(h1, .inl (E.2.1 4, 1, .inr (.inl (fun _ => 0))))]) ∨ (¬ x1 < 0 ∧ ¬ x1 < 1 ∧ x0 = 0 ∧ 1 = r ∧ u = [(h1, .inl (E.2.1 4, 1, .inr (.inl (fun _ => 0))))]) ∨ (¬ x0 < 0 ∧ ¬ x0 < 1 ∧ 1 = r ∧ u = [(h1, .inl (E.2.1 4, 1, .inr (.inl (fun _ => 0))))]) ∨ (¬ x2 < 1 ∧ x2 ≤ 20000 ∧ x0 = 0 ∧ x1 = 0 ∧ 0 = r ∧ u = [(h1, .inl (E.2.1 4, 1, .inr (.inl (vp_updL (fun _ => 0) 0 0))))])) (fun u => u) 1 6 := by
  refine rc_inWi (hh := [(0, 12, 15, 21), (0, 12, 19, 13)]) (cc := cL_verdictWith) (maxL := 6) (ret := (some FieldType.int)) (by decide) rfl (Nat.le_of_ble_eq_true rfl) ?_
  intro p e s m args below meth c ls A htb hx hb hr hml _ hown hlocks hin hA hAm hw hl
  have hown : s.vm.findClass RL = some m.cls := hown
  have hl : lv_has ls 6 [(0, .ref h0), (1, .int x0), (2, .int x1), (3, .int x2), (4, .ref h1)] := hl
  refine lv_aload hx hb dL_verdictWith_0 (lv_at hl 4 rfl) ?_
  refine lv_iconst (v := 0) hx hb dL_verdictWith_2 (by decide) ?_
  refine lv_aload_n hx hb dL_verdictWith_3 rfl (lv_at hl 0 rfl) ?_
  refine lv_iload_n hx hb dL_verdictWith_4 rfl (lv_at hl 1 rfl) ?_
  refine lv_iload_n hx hb dL_verdictWith_5 rfl (lv_at hl 2 rfl) ?_
  refine lv_iload_n hx hb dL_verdictWith_6 rfl (lv_at hl 3 rfl) ?_
  refine rc_callxi (wr := [(h1, .inl (E.2.1 4, 1, .inr (.inl (fun _ => 0))))]) (vx_runV (As := [.int x0, .int x1, .int x2]) (rest := [.int 0, .ref h1]) (Ts := []) ⟨hx, hb, hml, hown, fun _ h9 => absurd h9 List.not_mem_nil⟩ (cw_X6_verdictWith l hst E _ h0 x0 x1 x2 h2 h3 h4 h5 h6 h7 h8 h9 h10 h11 h12 h13 h14 h15 h16 h17 h18 h19 h20 h21 h22 h23) (rc_cwV hAm qw_839 qw_1 qw_842 qw_840 qw_841 rfl rfl hd_X6_verdictWith ⟨Nat.le_of_ble_eq_true rfl, Nat.le_of_ble_eq_true rfl⟩) (rc_preV hAm hA hw [0, 1, 2, 3, 4, 5, 6, 7, 8, 9, 10, 11, 12, 13, 14, 15, 16] rfl rfl 0 rfl (q := vwCl[11]) rfl) rfl rfl hl.1 rfl (lv_room (Nat.le_of_ble_eq_true rfl)) dL_verdictWith_7 ⟨Nat.le_of_ble_eq_true rfl, Nat.le_of_ble_eq_true rfl⟩) hA hw [0, 1, 2, 3, 4, 5, 6, 7, 8, 9, 10, 11, 12, 13, 14, 15, 16] [17] rfl rfl rfl (by decide) (fun x9 ce9 q9 H locs hp hw h91 h92 h93 => ?_) (fun r_1 u_2 H locs hp hw => ?_)
  · rcases hp with ⟨rfl, c_3⟩ | ⟨rfl, c_4, c_5⟩ | ⟨rfl, c_6, c_7, c_8⟩ | ⟨rfl, c_9, c_10, c_11, c_12⟩ | ⟨rfl, c_13, c_14, c_15⟩ | ⟨rfl, c_16, c_17⟩
    · refine vx_catch (own := RL) (name := "java/lang/IndexOutOfBoundsException") hown [] ⟨0, 12, 15, 21⟩ [⟨0, 12, 19, 13⟩] (by rw [htb]; rfl) (fun z9 h9 => absurd h9 List.not_mem_nil) (by decide) (by decide) (hAm.wd qw_612 rfl rfl) (hAm.wd qw_619 rfl rfl) h91 h92 h93 ?_
      refine lv_astore (lv' := [(5, .ref q9), (0, .ref h0), (1, .int x0), (2, .int x1), (3, .int x2), (4, .ref h1)]) hx hb dL_verdictWith_15 hl (by decide) rfl (fun ls hl => ?_)
      refine lv_iconst (v := 1) hx hb dL_verdictWith_17 (by decide) ?_
      exact rc_iret (v := 1) hx hb hr hlocks hw [(h1, .inl (E.2.1 4, 1, .inr (.inl (fun _ => 0))))] (Or.inl ⟨c_3, rfl, rfl⟩) [0] rfl (by decide) (Nat.le_of_ble_eq_true rfl) (Nat.le_of_ble_eq_true rfl) dL_verdictWith_18
    · obtain rfl : x0 = 0 := rc_eqc (b := 0) rfl (by have g_c_5 := rc_g5 (b := 0) c_5 rfl; omega)
      refine vx_catch (own := RL) (name := "java/lang/IndexOutOfBoundsException") hown [] ⟨0, 12, 15, 21⟩ [⟨0, 12, 19, 13⟩] (by rw [htb]; rfl) (fun z9 h9 => absurd h9 List.not_mem_nil) (by decide) (by decide) (hAm.wd qw_612 rfl rfl) (hAm.wd qw_619 rfl rfl) h91 h92 h93 ?_
      refine lv_astore (lv' := [(5, .ref q9), (0, .ref h0), (1, .int 0), (2, .int x1), (3, .int x2), (4, .ref h1)]) hx hb dL_verdictWith_15 hl (by decide) rfl (fun ls hl => ?_)
      refine lv_iconst (v := 1) hx hb dL_verdictWith_17 (by decide) ?_
      exact rc_iret (v := 1) hx hb hr hlocks hw [(h1, .inl (E.2.1 4, 1, .inr (.inl (fun _ => 0))))] (Or.inr (Or.inl ⟨c_4, rfl, rfl, rfl⟩)) [0] rfl (by decide) (Nat.le_of_ble_eq_true rfl) (Nat.le_of_ble_eq_true rfl) dL_verdictWith_18
    · obtain rfl : x0 = 0 := rc_eqc (b := 0) rfl (by have g_c_7 := rc_g5 (b := 0) c_7 rfl; omega)
      obtain rfl : x1 = 0 := rc_eqc (b := 0) rfl (by have g_c_8 := rc_g5 (b := 0) c_8 rfl; omega)
      refine vx_catch (own := RL) (name := "java/lang/IllegalArgumentException") hown [⟨0, 12, 15, 21⟩] ⟨0, 12, 19, 13⟩ [] (by rw [htb]; rfl) (List.forall_mem_cons.mpr ⟨Or.inr ⟨by decide, "java/lang/IndexOutOfBoundsException", hAm.wd qw_612 rfl rfl, hAm.1.2.2.2 ("java/lang/IllegalArgumentException", "java/lang/IndexOutOfBoundsException") (by decide)⟩, fun z9 h9 => absurd h9 List.not_mem_nil⟩) (by decide) (by decide) (hAm.wd qw_476 rfl rfl) (hAm.wd qw_490 rfl rfl) h91 h92 h93 ?_
      refine lv_astore (lv' := [(5, .ref q9), (0, .ref h0), (1, .int 0), (2, .int 0), (3, .int x2), (4, .ref h1)]) hx hb dL_verdictWith_19 hl (by decide) rfl (fun ls hl => ?_)
      refine lv_iconst (v := 2) hx hb dL_verdictWith_21 (by decide) ?_
      exact rc_iret (v := 2) hx hb hr hlocks hw [(h1, .inl (E.2.1 4, 1, .inr (.inl (fun _ => 0))))] (Or.inr (Or.inr (Or.inl ⟨c_6, rfl, rfl, rfl, rfl⟩))) [0] rfl (by decide) (Nat.le_of_ble_eq_true rfl) (Nat.le_of_ble_eq_true rfl) dL_verdictWith_22
    · obtain rfl : x0 = 0 := rc_eqc (b := 0) rfl (by have g_c_11 := rc_g5 (b := 0) c_11 rfl; omega)
      obtain rfl : x1 = 0 := rc_eqc (b := 0) rfl (by have g_c_12 := rc_g5 (b := 0) c_12 rfl; omega)
      refine vx_catch (own := RL) (name := "java/lang/IllegalArgumentException") hown [⟨0, 12, 15, 21⟩] ⟨0, 12, 19, 13⟩ [] (by rw [htb]; rfl) (List.forall_mem_cons.mpr ⟨Or.inr ⟨by decide, "java/lang/IndexOutOfBoundsException", hAm.wd qw_612 rfl rfl, hAm.1.2.2.2 ("java/lang/IllegalArgumentException", "java/lang/IndexOutOfBoundsException") (by decide)⟩, fun z9 h9 => absurd h9 List.not_mem_nil⟩) (by decide) (by decide) (hAm.wd qw_476 rfl rfl) (hAm.wd qw_490 rfl rfl) h91 h92 h93 ?_
      refine lv_astore (lv' := [(5, .ref q9), (0, .ref h0), (1, .int 0), (2, .int 0), (3, .int x2), (4, .ref h1)]) hx hb dL_verdictWith_19 hl (by decide) rfl (fun ls hl => ?_)
      refine lv_iconst (v := 2) hx hb dL_verdictWith_21 (by decide) ?_
      exact rc_iret (v := 2) hx hb hr hlocks hw [(h1, .inl (E.2.1 4, 1, .inr (.inl (fun _ => 0))))] (Or.inr (Or.inr (Or.inr (Or.inl ⟨c_9, c_10, rfl, rfl, rfl, rfl⟩)))) [0] rfl (by decide) (Nat.le_of_ble_eq_true rfl) (Nat.le_of_ble_eq_true rfl) dL_verdictWith_22
    · obtain rfl : x0 = 0 := rc_eqc (b := 0) rfl (by have g_c_15 := rc_g5 (b := 0) c_15 rfl; omega)
      refine vx_catch (own := RL) (name := "java/lang/IndexOutOfBoundsException") hown [] ⟨0, 12, 15, 21⟩ [⟨0, 12, 19, 13⟩] (by rw [htb]; rfl) (fun z9 h9 => absurd h9 List.not_mem_nil) (by decide) (by decide) (hAm.wd qw_612 rfl rfl) (hAm.wd qw_619 rfl rfl) h91 h92 h93 ?_
      refine lv_astore (lv' := [(5, .ref q9), (0, .ref h0), (1, .int 0), (2, .int x1), (3, .int x2), (4, .ref h1)]) hx hb dL_verdictWith_15 hl (by decide) rfl (fun ls hl => ?_)
      refine lv_iconst (v := 1) hx hb dL_verdictWith_17 (by decide) ?_
      exact rc_iret (v := 1) hx hb hr hlocks hw [(h1, .inl (E.2.1 4, 1, .inr (.inl (fun _ => 0))))] (Or.inr (Or.inr (Or.inr (Or.inr (Or.inl ⟨c_13, c_14, rfl, rfl, rfl⟩))))) [0] rfl (by decide) (Nat.le_of_ble_eq_true rfl) (Nat.le_of_ble_eq_true rfl) dL_verdictWith_18
    · refine vx_catch (own := RL) (name := "java/lang/IndexOutOfBoundsException") hown [] ⟨0, 12, 15, 21⟩ [⟨0, 12, 19, 13⟩] (by rw [htb]; rfl) (fun z9 h9 => absurd h9 List.not_mem_nil) (by decide) (by decide) (hAm.wd qw_612 rfl rfl) (hAm.wd qw_619 rfl rfl) h91 h92 h93 ?_
      refine lv_astore (lv' := [(5, .ref q9), (0, .ref h0), (1, .int x0), (2, .int x1), (3, .int x2), (4, .ref h1)]) hx hb dL_verdictWith_15 hl (by decide) rfl (fun ls hl => ?_)
      refine lv_iconst (v := 1) hx hb dL_verdictWith_17 (by decide) ?_
      exact rc_iret (v := 1) hx hb hr hlocks hw [(h1, .inl (E.2.1 4, 1, .inr (.inl (fun _ => 0))))] (Or.inr (Or.inr (Or.inr (Or.inr (Or.inr (Or.inl ⟨c_16, c_17, rfl, rfl⟩)))))) [0] rfl (by decide) (Nat.le_of_ble_eq_true rfl) (Nat.le_of_ble_eq_true rfl) dL_verdictWith_18
  · obtain ⟨c_18, c_19, c_20, c_21, rfl, rfl⟩ := hp
    obtain rfl : x0 = 0 := rc_eqc (b := 0) rfl (by have g_c_20 := rc_g5 (b := 0) c_20 rfl; omega)
    obtain rfl : x1 = 0 := rc_eqc (b := 0) rfl (by have g_c_21 := rc_g5 (b := 0) c_21 rfl; omega)
    have hw : rc_W E A s [(h1, .inl (E.2.1 4, 1, .inr (.inl (fun _ => 0)))), (h0, .inr (11, [.ref h2, .ref h3, .ref h4, .ref h5, .ref h6, .ref h7, .ref h8, .int 3, .int 50, .int 1000, .int 100, .int 0, .int (-1)])), (h3, .inr (4, [.int 1, .ref h9, .int 1])), (h5, .inr (6, [.ref h10, .int 0, .int 0])), (h10, .inr (4, [.int 0, .ref (E.2.2 0), .int 0])), (h7, .inr (7, [.ref h11, .ref h12, .ref h13, .ref h14, .int 1, .int 0, .int 0, .int 1, .int 1, .int 1])), (h11, .inr (10, [.ref h15, .int 0])), (h12, .inr (10, [.ref h16, .int 1])), (h16, .inl (E.2.1 0, 6, .inl (upd (fun _ => 0) 0 x2))), (h13, .inl (E.2.1 0, 12, .inl (upd (fun _ => 0) 0 x2))), (h14, .inl (E.2.1 1, 7, .inr (.inr (.inr (.inr (rc_rows [h17, h18, h19, h20, h21, h22, h23])))))), (h17, .inl (E.2.1 0, 133, .inl (upd (upd (fun _ => 0) 0 0) 0 1))), (h18, .inl (E.2.1 0, 133, .inl (upd (fun _ => 0) 0 0))), (h19, .inl (E.2.1 0, 133, .inl (upd (fun _ => 0) 0 0))), (h20, .inl (E.2.1 0, 133, .inl (upd (fun _ => 0) 0 0))), (h21, .inl (E.2.1 0, 133, .inl (upd (fun _ => 0) 0 0))), (h22, .inl (E.2.1 0, 133, .inl (upd (fun _ => 0) 0 0))), (h23, .inl (E.2.1 0, 133, .inl (upd (fun _ => 0) 0 0)))] H locs := hw
    refine lv_i2l (v := 0) hx hb dL_verdictWith_10 (by decide) ?_
    refine rc_last hx hb hAm hw 0 rfl (vp_in_iff.mpr (by decide)) [(h1, .inl (E.2.1 4, 1, .inr (.inl (vp_updL (fun _ => 0) 0 0)))), (h0, .inr (11, [.ref h2, .ref h3, .ref h4, .ref h5, .ref h6, .ref h7, .ref h8, .int 3, .int 50, .int 1000, .int 100, .int 0, .int (-1)])), (h3, .inr (4, [.int 1, .ref h9, .int 1])), (h5, .inr (6, [.ref h10, .int 0, .int 0])), (h10, .inr (4, [.int 0, .ref (E.2.2 0), .int 0])), (h7, .inr (7, [.ref h11, .ref h12, .ref h13, .ref h14, .int 1, .int 0, .int 0, .int 1, .int 1, .int 1])), (h11, .inr (10, [.ref h15, .int 0])), (h12, .inr (10, [.ref h16, .int 1])), (h16, .inl (E.2.1 0, 6, .inl (upd (fun _ => 0) 0 x2))), (h13, .inl (E.2.1 0, 12, .inl (upd (fun _ => 0) 0 x2))), (h14, .inl (E.2.1 1, 7, .inr (.inr (.inr (.inr (rc_rows [h17, h18, h19, h20, h21, h22, h23])))))), (h17, .inl (E.2.1 0, 133, .inl (upd (upd (fun _ => 0) 0 0) 0 1))), (h18, .inl (E.2.1 0, 133, .inl (upd (fun _ => 0) 0 0))), (h19, .inl (E.2.1 0, 133, .inl (upd (fun _ => 0) 0 0))), (h20, .inl (E.2.1 0, 133, .inl (upd (fun _ => 0) 0 0))), (h21, .inl (E.2.1 0, 133, .inl (upd (fun _ => 0) 0 0))), (h22, .inl (E.2.1 0, 133, .inl (upd (fun _ => 0) 0 0))), (h23, .inl (E.2.1 0, 133, .inl (upd (fun _ => 0) 0 0)))] rfl dL_verdictWith_11 (fun H locs hw => ?_)
    refine lv_goto (tgt := 23) hx hb dL_verdictWith_12 (by decide) ?_
    refine lv_iconst (v := 0) hx hb dL_verdictWith_23 (by decide) ?_
    exact rc_iret (v := 0) hx hb hr hlocks hw [(h1, .inl (E.2.1 4, 1, .inr (.inl (vp_updL (fun _ => 0) 0 0))))] (Or.inr (Or.inr (Or.inr (Or.inr (Or.inr (Or.inr ⟨c_18, c_19, rfl, rfl, rfl, rfl⟩)))))) [0] rfl (by decide) (Nat.le_of_ble_eq_true rfl) (Nat.le_of_ble_eq_true rfl) dL_verdictWith_24
theorem hd_X6_without : yX6_without.cls ≠ "java/lang/invoke/MethodHandle" ∧ yX6_without.cls ≠ "java/lang/invoke/VarHandle" ∧ (parseMethodDescriptor yX6_without.desc).map (fun d => d.parameters.length) = some 1 := by decide +kernel
set_option maxHeartbeats 4000000 in
set_option maxRecDepth 100000 in
theorem cw_L_without (l : Launch) (hst : l.stackTraces = false) (E : rc_E) (sz : Nat) (h0 : Nat) (x0 : Int32) (h1 : Nat) (h2 : Nat) (h3 : Nat) (h4 : Nat) (h5 : Nat) (h6 : Nat) (h7 : Nat) (h8 : Nat) : rc_Mi l yL_without [Cond.codeWith yL_without cL_without 4 (some FieldType.int) [(0, 9, 12, 21)]] { frames := 7, cells := 1, slots := 6, locals := 103 } E [.ref h0, .int x0, .ref h1] [(h0, .inr (11, [.ref h2, .ref h3, .ref h4, .ref h5, .ref h6, .ref h7, .ref h8, .int 3, .int 50, .int 1000, .int 100, .int 0, .int (-1)])), (h2, .inr (4, [.int 0, .ref (E.2.2 0), .int 0]))] sz (S := va_W) (fun (r : Int32) (u : va_W) => (x0 < 0 ∧ 1 = r ∧ u = []) ∨ (¬ x0 < 0 ∧ 1 = r ∧ u = [])) (fun u => u) 1 6 := by
  refine rc_inWi (hh := [(0, 9, 12, 21)]) (cc := cL_without) (maxL := 4) (ret := (some FieldType.int)) (by decide) rfl (Nat.le_of_ble_eq_true rfl) ?_
  intro p e s m args below meth c ls A htb hx hb hr hml _ hown hlocks hin hA hAm hw hl
  have hown : s.vm.findClass RL = some m.cls := hown
  have hl : lv_has ls 4 [(0, .ref h0), (1, .int x0), (2, .ref h1)] := hl
  refine lv_aload_n hx hb dL_without_0 rfl (lv_at hl 2 rfl) ?_
  refine lv_iconst (v := 0) hx hb dL_without_1 (by decide) ?_
  refine lv_aload_n hx hb dL_without_2 rfl (lv_at hl 0 rfl) ?_
  refine lv_iload_n hx hb dL_without_3 rfl (lv_at hl 1 rfl) ?_
  refine rc_callxi (wr := []) (vx_runV (As := [.int x0]) (rest := [.int 0, .ref h1]) (Ts := []) ⟨hx, hb, hml, hown, fun _ h9 => absurd h9 List.not_mem_nil⟩ (cw_X6_without l hst E _ h0 x0 h2 h3 h4 h5 h6 h7 h8) (rc_cwV hAm qw_848 qw_1 qw_851 qw_849 qw_850 rfl rfl hd_X6_without ⟨Nat.le_of_ble_eq_true rfl, Nat.le_of_ble_eq_true rfl⟩) (rc_preV hAm hA hw [0, 1] rfl rfl 0 rfl (q := vwCl[11]) rfl) rfl rfl hl.1 rfl (lv_room (Nat.le_of_ble_eq_true rfl)) dL_without_4 ⟨Nat.le_of_ble_eq_true rfl, Nat.le_of_ble_eq_true rfl⟩) hA hw [0, 1] [] rfl rfl rfl (by decide) (fun x9 ce9 q9 H locs hp hw h91 h92 h93 => ?_) (fun r_1 u_2 H locs hp hw => ?_)
  · rcases hp with ⟨rfl, c_3⟩ | ⟨rfl, c_4⟩
    · refine vx_catch (own := RL) (name := "java/lang/IndexOutOfBoundsException") hown [] ⟨0, 9, 12, 21⟩ [] (by rw [htb]; rfl) (fun z9 h9 => absurd h9 List.not_mem_nil) (by decide) (by decide) (hAm.wd qw_612 rfl rfl) (hAm.wd qw_619 rfl rfl) h91 h92 h93 ?_
      refine lv_astore_n (lv' := [(3, .ref q9), (0, .ref h0), (1, .int x0), (2, .ref h1)]) hx hb dL_without_12 rfl hl (by decide) rfl (fun ls hl => ?_)
      refine lv_iconst (v := 1) hx hb dL_without_13 (by decide) ?_
      exact rc_iret (v := 1) hx hb hr hlocks hw [] (Or.inl ⟨c_3, rfl, rfl⟩) [] rfl (by decide) (Nat.le_of_ble_eq_true rfl) (Nat.le_of_ble_eq_true rfl) dL_without_14
    · refine vx_catch (own := RL) (name := "java/lang/IndexOutOfBoundsException") hown [] ⟨0, 9, 12, 21⟩ [] (by rw [htb]; rfl) (fun z9 h9 => absurd h9 List.not_mem_nil) (by decide) (by decide) (hAm.wd qw_612 rfl rfl) (hAm.wd qw_619 rfl rfl) h91 h92 h93 ?_
      refine lv_astore_n (lv' := [(3, .ref q9), (0, .ref h0), (1, .int x0), (2, .ref h1)]) hx hb dL_without_12 rfl hl (by decide) rfl (fun ls hl => ?_)
      refine lv_iconst (v := 1) hx hb dL_without_13 (by decide) ?_
      exact rc_iret (v := 1) hx hb hr hlocks hw [] (Or.inr ⟨c_4, rfl, rfl⟩) [] rfl (by decide) (Nat.le_of_ble_eq_true rfl) (Nat.le_of_ble_eq_true rfl) dL_without_14
  · exact hp.elim
theorem hd_X6_machine : yX6_machine.cls ≠ "java/lang/invoke/MethodHandle" ∧ yX6_machine.cls ≠ "java/lang/invoke/VarHandle" ∧ (parseMethodDescriptor yX6_machine.desc).map (fun d => d.parameters.length) = some 2 := by decide +kernel
set_option maxHeartbeats 4000000 in
set_option maxRecDepth 100000 in
theorem cw_L_machine (l : Launch) (hst : l.stackTraces = false) (E : rc_E) (sz : Nat) (h0 : Nat) (x0 : Int32) (x1 : Int32) (h1 : Nat) (h2 : Nat) (h3 : Nat) (h4 : Nat) (h5 : Nat) (h6 : Nat) (h7 : Nat) (h8 : Nat) : rc_Mi l yL_machine [Cond.codeWith yL_machine cL_machine 5 (some FieldType.int) [(0, 10, 13, 13), (0, 10, 17, 15)]] { frames := 7, cells := 2, slots := 18, locals := 123 } E [.ref h0, .int x0, .int x1, .ref h1] [(h0, .inr (11, [.ref h2, .ref h3, .ref h4, .ref h5, .ref h6, .ref h7, .ref h8, .int 3, .int 50, .int 1000, .int 100, .int 0, .int (-1)])), (h2, .inr (4, [.int 0, .ref (E.2.2 0), .int 0])), (h1, .inl (E.2.1 4, 1, .inr (.inl (fun _ => 0))))] sz (S := va_W) (fun (r : Int32) (u : va_W) => (x0 < 1 ∧ 1 = r ∧ u = [(h1, .inl (E.2.1 4, 1, .inr (.inl (fun _ => 0))))]) ∨ (¬ x0 < 1 ∧ x0 ≤ 60 ∧ x1 < 50 ∧ 1 = r ∧ u = [(h1, .inl (E.2.1 4, 1, .inr (.inl (fun _ => 0))))]) ∨ (¬ x0 < 1 ∧ x0 ≤ 60 ∧ ¬ x1 < 50 ∧ ¬ x1 ≤ 200 ∧ 1 = r ∧ u = [(h1, .inl (E.2.1 4, 1, .inr (.inl (fun _ => 0))))]) ∨ (¬ x0 < 1 ∧ ¬ x0 ≤ 60 ∧ 1 = r ∧ u = [(h1, .inl (E.2.1 4, 1, .inr (.inl (fun _ => 0))))]) ∨ (¬ x0 < 1 ∧ x0 ≤ 60 ∧ ¬ x1 < 50 ∧ x1 ≤ 200 ∧ 0 = r ∧ u = [(h1, .inl (E.2.1 4, 1, .inr (.inl (vp_updL (fun _ => 0) 0 0))))])) (fun u => u) 2 18 := by
  refine rc_inWi (hh := [(0, 10, 13, 13), (0, 10, 17, 15)]) (cc := cL_machine) (maxL := 5) (ret := (some FieldType.int)) (by decide) rfl (Nat.le_of_ble_eq_true rfl) ?_
  intro p e s m args below meth c ls A htb hx hb hr hml _ hown hlocks hin hA hAm hw hl
  have hown : s.vm.findClass RL = some m.cls := hown
  have hl : lv_has ls 5 [(0, .ref h0), (1, .int x0), (2, .int x1), (3, .ref h1)] := hl
  refine lv_aload_n hx hb dL_machine_0 rfl (lv_at hl 3 rfl) ?_
  refine lv_iconst (v := 0) hx hb dL_machine_1 (by decide) ?_
  refine lv_aload_n hx hb dL_machine_2 rfl (lv_at hl 0 rfl) ?_
  refine lv_iload_n hx hb dL_machine_3 rfl (lv_at hl 1 rfl) ?_
  refine lv_iload_n hx hb dL_machine_4 rfl (lv_at hl 2 rfl) ?_
  refine rc_callxi (wr := [(h1, .inl (E.2.1 4, 1, .inr (.inl (fun _ => 0))))]) (vx_runV (As := [.int x0, .int x1]) (rest := [.int 0, .ref h1]) (Ts := []) ⟨hx, hb, hml, hown, fun _ h9 => absurd h9 List.not_mem_nil⟩ (cw_X6_machine l hst E _ h0 x0 x1 h2 h3 h4 h5 h6 h7 h8) (rc_cwV hAm qw_478 qw_1 qw_481 qw_479 qw_480 rfl rfl hd_X6_machine ⟨Nat.le_of_ble_eq_true rfl, Nat.le_of_ble_eq_true rfl⟩) (rc_preV hAm hA hw [0, 1] rfl rfl 0 rfl (q := vwCl[11]) rfl) rfl rfl hl.1 rfl (lv_room (Nat.le_of_ble_eq_true rfl)) dL_machine_5 ⟨Nat.le_of_ble_eq_true rfl, Nat.le_of_ble_eq_true rfl⟩) hA hw [0, 1] [2] rfl rfl rfl (by decide) (fun x9 ce9 q9 H locs hp hw h91 h92 h93 => ?_) (fun r_1 u_2 H locs hp hw => ?_)
  · rcases hp with ⟨rfl, c_3⟩ | ⟨rfl, c_4, c_5, c_6⟩ | ⟨rfl, c_7, c_8, c_9, c_10⟩ | ⟨rfl, c_11, c_12⟩
    · refine vx_catch (own := RL) (name := "java/lang/IllegalArgumentException") hown [] ⟨0, 10, 13, 13⟩ [⟨0, 10, 17, 15⟩] (by rw [htb]; rfl) (fun z9 h9 => absurd h9 List.not_mem_nil) (by decide) (by decide) (hAm.wd qw_476 rfl rfl) (hAm.wd qw_490 rfl rfl) h91 h92 h93 ?_
      refine lv_astore (lv' := [(4, .ref q9), (0, .ref h0), (1, .int x0), (2, .int x1), (3, .ref h1)]) hx hb dL_machine_13 hl (by decide) rfl (fun ls hl => ?_)
      refine lv_iconst (v := 1) hx hb dL_machine_15 (by decide) ?_
      exact rc_iret (v := 1) hx hb hr hlocks hw [(h1, .inl (E.2.1 4, 1, .inr (.inl (fun _ => 0))))] (Or.inl ⟨c_3, rfl, rfl⟩) [0] rfl (by decide) (Nat.le_of_ble_eq_true rfl) (Nat.le_of_ble_eq_true rfl) dL_machine_16
    · refine vx_catch (own := RL) (name := "java/lang/IllegalArgumentException") hown [] ⟨0, 10, 13, 13⟩ [⟨0, 10, 17, 15⟩] (by rw [htb]; rfl) (fun z9 h9 => absurd h9 List.not_mem_nil) (by decide) (by decide) (hAm.wd qw_476 rfl rfl) (hAm.wd qw_490 rfl rfl) h91 h92 h93 ?_
      refine lv_astore (lv' := [(4, .ref q9), (0, .ref h0), (1, .int x0), (2, .int x1), (3, .ref h1)]) hx hb dL_machine_13 hl (by decide) rfl (fun ls hl => ?_)
      refine lv_iconst (v := 1) hx hb dL_machine_15 (by decide) ?_
      exact rc_iret (v := 1) hx hb hr hlocks hw [(h1, .inl (E.2.1 4, 1, .inr (.inl (fun _ => 0))))] (Or.inr (Or.inl ⟨c_4, c_5, c_6, rfl, rfl⟩)) [0] rfl (by decide) (Nat.le_of_ble_eq_true rfl) (Nat.le_of_ble_eq_true rfl) dL_machine_16
    · refine vx_catch (own := RL) (name := "java/lang/IllegalArgumentException") hown [] ⟨0, 10, 13, 13⟩ [⟨0, 10, 17, 15⟩] (by rw [htb]; rfl) (fun z9 h9 => absurd h9 List.not_mem_nil) (by decide) (by decide) (hAm.wd qw_476 rfl rfl) (hAm.wd qw_490 rfl rfl) h91 h92 h93 ?_
      refine lv_astore (lv' := [(4, .ref q9), (0, .ref h0), (1, .int x0), (2, .int x1), (3, .ref h1)]) hx hb dL_machine_13 hl (by decide) rfl (fun ls hl => ?_)
      refine lv_iconst (v := 1) hx hb dL_machine_15 (by decide) ?_
      exact rc_iret (v := 1) hx hb hr hlocks hw [(h1, .inl (E.2.1 4, 1, .inr (.inl (fun _ => 0))))] (Or.inr (Or.inr (Or.inl ⟨c_7, c_8, c_9, c_10, rfl, rfl⟩))) [0] rfl (by decide) (Nat.le_of_ble_eq_true rfl) (Nat.le_of_ble_eq_true rfl) dL_machine_16
    · refine vx_catch (own := RL) (name := "java/lang/IllegalArgumentException") hown [] ⟨0, 10, 13, 13⟩ [⟨0, 10, 17, 15⟩] (by rw [htb]; rfl) (fun z9 h9 => absurd h9 List.not_mem_nil) (by decide) (by decide) (hAm.wd qw_476 rfl rfl) (hAm.wd qw_490 rfl rfl) h91 h92 h93 ?_
      refine lv_astore (lv' := [(4, .ref q9), (0, .ref h0), (1, .int x0), (2, .int x1), (3, .ref h1)]) hx hb dL_machine_13 hl (by decide) rfl (fun ls hl => ?_)
      refine lv_iconst (v := 1) hx hb dL_machine_15 (by decide) ?_
      exact rc_iret (v := 1) hx hb hr hlocks hw [(h1, .inl (E.2.1 4, 1, .inr (.inl (fun _ => 0))))] (Or.inr (Or.inr (Or.inr (Or.inl ⟨c_11, c_12, rfl, rfl⟩)))) [0] rfl (by decide) (Nat.le_of_ble_eq_true rfl) (Nat.le_of_ble_eq_true rfl) dL_machine_16
  · obtain ⟨q1, q2, c_13, c_14, c_15, c_16, rfl, rfl⟩ := hp
    have hw : rc_W E A s [(h1, .inl (E.2.1 4, 1, .inr (.inl (fun _ => 0)))), (h0, .inr (11, [.ref h2, .ref h3, .ref h4, .ref h5, .ref h6, .ref h7, .ref h8, .int 3, .int 50, .int 1000, .int 100, .int 0, .int (-1)])), (h2, .inr (4, [.int 1, .ref q2, .int 1])), (q1, .inr (8, [.int 0, .int x0, .int x1, .int x1, .int x1, .int 1, .int 0, .int 0])), (q2, .inl (E.2.1 2, 10, .inr (.inr (.inr (.inr (rc_rows [q1]))))))] H locs := hw
    refine lv_i2l (v := 0) hx hb dL_machine_8 (by decide) ?_
    refine rc_last hx hb hAm hw 0 rfl (vp_in_iff.mpr (by decide)) [(h1, .inl (E.2.1 4, 1, .inr (.inl (vp_updL (fun _ => 0) 0 0)))), (h0, .inr (11, [.ref h2, .ref h3, .ref h4, .ref h5, .ref h6, .ref h7, .ref h8, .int 3, .int 50, .int 1000, .int 100, .int 0, .int (-1)])), (h2, .inr (4, [.int 1, .ref q2, .int 1])), (q1, .inr (8, [.int 0, .int x0, .int x1, .int x1, .int x1, .int 1, .int 0, .int 0])), (q2, .inl (E.2.1 2, 10, .inr (.inr (.inr (.inr (rc_rows [q1]))))))] rfl dL_machine_9 (fun H locs hw => ?_)
    refine lv_goto (tgt := 21) hx hb dL_machine_10 (by decide) ?_
    refine lv_iconst (v := 0) hx hb dL_machine_21 (by decide) ?_
    exact rc_iret (v := 0) hx hb hr hlocks hw [(h1, .inl (E.2.1 4, 1, .inr (.inl (vp_updL (fun _ => 0) 0 0))))] (Or.inr (Or.inr (Or.inr (Or.inr ⟨c_13, c_14, c_15, c_16, rfl, rfl⟩)))) [0] rfl (by decide) (Nat.le_of_ble_eq_true rfl) (Nat.le_of_ble_eq_true rfl) dL_machine_22
theorem hd_X6_changes : yX6_changes.cls ≠ "java/lang/invoke/MethodHandle" ∧ yX6_changes.cls ≠ "java/lang/invoke/VarHandle" ∧ (parseMethodDescriptor yX6_changes.desc).map (fun d => d.parameters.length) = some 1 := by decide +kernel
set_option maxHeartbeats 4000000 in
set_option maxRecDepth 100000 in
theorem cw_L_changes (l : Launch) (hst : l.stackTraces = false) (E : rc_E) (sz : Nat) (h0 : Nat) (x0 : Int32) (h1 : Nat) (h2 : Nat) (h3 : Nat) (h4 : Nat) (h5 : Nat) (h6 : Nat) (h7 : Nat) (h8 : Nat) (h9 : Nat) (h10 : Nat) : rc_Mi l yL_changes [Cond.codeWith yL_changes cL_changes 4 (some FieldType.int) [(0, 9, 12, 13), (0, 9, 15, 15)]] { frames := 8, cells := 82, slots := 353, locals := 193 } E [.ref h0, .int x0, .ref h1] [(h0, .inr (11, [.ref h2, .ref h3, .ref h4, .ref h5, .ref h6, .ref h7, .ref h8, .int 3, .int 50, .int 1000, .int 100, .int 0, .int (-1)])), (h3, .inr (4, [.int 1, .ref h9, .int 1])), (h9, .inl (E.2.1 2, 10, .inr (.inr (.inr (.inr (rc_rows [h5])))))), (h5, .inr (6, [.ref h10, .int 0, .int 0])), (h1, .inl (E.2.1 4, 1, .inr (.inl (fun _ => 0))))] sz (S := va_W) (fun (r : Int32) (u : va_W) => (x0 < 1 ∧ 1 = r ∧ u = [(h1, .inl (E.2.1 4, 1, .inr (.inl (fun _ => 0))))]) ∨ (¬ x0 < 1 ∧ x0 ≤ 39 ∧ ¬ (1 + x0) ≤ 40 ∧ 2 = r ∧ u = [(h1, .inl (E.2.1 4, 1, .inr (.inl (fun _ => 0))))]) ∨ (¬ x0 < 1 ∧ ¬ x0 ≤ 39 ∧ 1 = r ∧ u = [(h1, .inl (E.2.1 4, 1, .inr (.inl (fun _ => 0))))]) ∨ ((1 + x0) ≤ 40 ∧ x0 = 1 ∧ 0 = r ∧ u = [(h1, .inl (E.2.1 4, 1, .inr (.inl (vp_updL (fun _ => 0) 0 2))))]) ∨ ((1 + x0) ≤ 40 ∧ x0 = 2 ∧ 0 = r ∧ u = [(h1, .inl (E.2.1 4, 1, .inr (.inl (vp_updL (fun _ => 0) 0 3))))]) ∨ ((1 + x0) ≤ 40 ∧ x0 = 3 ∧ 0 = r ∧ u = [(h1, .inl (E.2.1 4, 1, .inr (.inl (vp_updL (fun _ => 0) 0 4))))]) ∨ ((1 + x0) ≤ 40 ∧ x0 = 4 ∧ 0 = r ∧ u = [(h1, .inl (E.2.1 4, 1, .inr (.inl (vp_updL (fun _ => 0) 0 5))))]) ∨ ((1 + x0) ≤ 40 ∧ x0 = 5 ∧ 0 = r ∧ u = [(h1, .inl (E.2.1 4, 1, .inr (.inl (vp_updL (fun _ => 0) 0 6))))]) ∨ ((1 + x0) ≤ 40 ∧ x0 = 6 ∧ 0 = r ∧ u = [(h1, .inl (E.2.1 4, 1, .inr (.inl (vp_updL (fun _ => 0) 0 7))))]) ∨ ((1 + x0) ≤ 40 ∧ x0 = 7 ∧ 0 = r ∧ u = [(h1, .inl (E.2.1 4, 1, .inr (.inl (vp_updL (fun _ => 0) 0 8))))]) ∨ ((1 + x0) ≤ 40 ∧ x0 = 8 ∧ 0 = r ∧ u = [(h1, .inl (E.2.1 4, 1, .inr (.inl (vp_updL (fun _ => 0) 0 9))))]) ∨ ((1 + x0) ≤ 40 ∧ x0 = 9 ∧ 0 = r ∧ u = [(h1, .inl (E.2.1 4, 1, .inr (.inl (vp_updL (fun _ => 0) 0 10))))]) ∨ ((1 + x0) ≤ 40 ∧ x0 = 10 ∧ 0 = r ∧ u = [(h1, .inl (E.2.1 4, 1, .inr (.inl (vp_updL (fun _ => 0) 0 11))))]) ∨ ((1 + x0) ≤ 40 ∧ x0 = 11 ∧ 0 = r ∧ u = [(h1, .inl (E.2.1 4, 1, .inr (.inl (vp_updL (fun _ => 0) 0 12))))]) ∨ ((1 + x0) ≤ 40 ∧ x0 = 12 ∧ 0 = r ∧ u = [(h1, .inl (E.2.1 4, 1, .inr (.inl (vp_updL (fun _ => 0) 0 13))))]) ∨ ((1 + x0) ≤ 40 ∧ x0 = 13 ∧ 0 = r ∧ u = [(h1, .inl (E.2.1 4, 1, .inr (.inl (vp_updL (fun _ => 0) 0 14))))]) ∨ ((1 + x0) ≤ 40 ∧ x0 = 14 ∧ 0 = r ∧ u = [(h1, .inl (E.2.1 4, 1, .inr (.inl (vp_updL (fun _ => 0) 0 15))))]) ∨ ((1 + x0) ≤ 40 ∧ x0 = 15 ∧ 0 = r ∧ u = [(h1, .inl (E.2.1 4, 1, .inr (.inl (vp_updL (fun _ => 0) 0 16))))]) ∨ ((1 + x0) ≤ 40 ∧ x0 = 16 ∧ 0 = r ∧ u = [(h1, .inl (E.2.1 4, 1, .inr (.inl (vp_updL (fun _ => 0) 0 17))))]) ∨ ((1 + x0) ≤ 40 ∧ x0 = 17 ∧ 0 = r ∧ u = [(h1, .inl (E.2.1 4, 1, .inr (.inl (vp_updL (fun _ => 0) 0 18))))]) ∨ ((1 + x0) ≤ 40 ∧ x0 = 18 ∧ 0 = r ∧ u = [(h1, .inl (E.2.1 4, 1, .inr (.inl (vp_updL (fun _ => 0) 0 19))))]) ∨ ((1 + x0) ≤ 40 ∧ x0 = 19 ∧ 0 = r ∧ u = [(h1, .inl (E.2.1 4, 1, .inr (.inl (vp_updL (fun _ => 0) 0 20))))]) ∨ ((1 + x0) ≤ 40 ∧ x0 = 20 ∧ 0 = r ∧ u = [(h1, .inl (E.2.1 4, 1, .inr (.inl (vp_updL (fun _ => 0) 0 21))))]) ∨ ((1 + x0) ≤ 40 ∧ x0 = 21 ∧ 0 = r ∧ u = [(h1, .inl (E.2.1 4, 1, .inr (.inl (vp_updL (fun _ => 0) 0 22))))]) ∨ ((1 + x0) ≤ 40 ∧ x0 = 22 ∧ 0 = r ∧ u = [(h1, .inl (E.2.1 4, 1, .inr (.inl (vp_updL (fun _ => 0) 0 23))))]) ∨ ((1 + x0) ≤ 40 ∧ x0 = 23 ∧ 0 = r ∧ u = [(h1, .inl (E.2.1 4, 1, .inr (.inl (vp_updL (fun _ => 0) 0 24))))]) ∨ ((1 + x0) ≤ 40 ∧ x0 = 24 ∧ 0 = r ∧ u = [(h1, .inl (E.2.1 4, 1, .inr (.inl (vp_updL (fun _ => 0) 0 25))))]) ∨ ((1 + x0) ≤ 40 ∧ x0 = 25 ∧ 0 = r ∧ u = [(h1, .inl (E.2.1 4, 1, .inr (.inl (vp_updL (fun _ => 0) 0 26))))]) ∨ ((1 + x0) ≤ 40 ∧ x0 = 26 ∧ 0 = r ∧ u = [(h1, .inl (E.2.1 4, 1, .inr (.inl (vp_updL (fun _ => 0) 0 27))))]) ∨ ((1 + x0) ≤ 40 ∧ x0 = 27 ∧ 0 = r ∧ u = [(h1, .inl (E.2.1 4, 1, .inr (.inl (vp_updL (fun _ => 0) 0 28))))]) ∨ ((1 + x0) ≤ 40 ∧ x0 = 28 ∧ 0 = r ∧ u = [(h1, .inl (E.2.1 4, 1, .inr (.inl (vp_updL (fun _ => 0) 0 29))))]) ∨ ((1 + x0) ≤ 40 ∧ x0 = 29 ∧ 0 = r ∧ u = [(h1, .inl (E.2.1 4, 1, .inr (.inl (vp_updL (fun _ => 0) 0 30))))]) ∨ ((1 + x0) ≤ 40 ∧ x0 = 30 ∧ 0 = r ∧ u = [(h1, .inl (E.2.1 4, 1, .inr (.inl (vp_updL (fun _ => 0) 0 31))))]) ∨ ((1 + x0) ≤ 40 ∧ x0 = 31 ∧ 0 = r ∧ u = [(h1, .inl (E.2.1 4, 1, .inr (.inl (vp_updL (fun _ => 0) 0 32))))]) ∨ ((1 + x0) ≤ 40 ∧ x0 = 32 ∧ 0 = r ∧ u = [(h1, .inl (E.2.1 4, 1, .inr (.inl (vp_updL (fun _ => 0) 0 33))))]) ∨ ((1 + x0) ≤ 40 ∧ x0 = 33 ∧ 0 = r ∧ u = [(h1, .inl (E.2.1 4, 1, .inr (.inl (vp_updL (fun _ => 0) 0 34))))]) ∨ ((1 + x0) ≤ 40 ∧ x0 = 34 ∧ 0 = r ∧ u = [(h1, .inl (E.2.1 4, 1, .inr (.inl (vp_updL (fun _ => 0) 0 35))))]) ∨ ((1 + x0) ≤ 40 ∧ x0 = 35 ∧ 0 = r ∧ u = [(h1, .inl (E.2.1 4, 1, .inr (.inl (vp_updL (fun _ => 0) 0 36))))]) ∨ ((1 + x0) ≤ 40 ∧ x0 = 36 ∧ 0 = r ∧ u = [(h1, .inl (E.2.1 4, 1, .inr (.inl (vp_updL (fun _ => 0) 0 37))))]) ∨ ((1 + x0) ≤ 40 ∧ x0 = 37 ∧ 0 = r ∧ u = [(h1, .inl (E.2.1 4, 1, .inr (.inl (vp_updL (fun _ => 0) 0 38))))]) ∨ ((1 + x0) ≤ 40 ∧ x0 = 38 ∧ 0 = r ∧ u = [(h1, .inl (E.2.1 4, 1, .inr (.inl (vp_updL (fun _ => 0) 0 39))))]) ∨ ((1 + x0) ≤ 40 ∧ x0 = 39 ∧ 0 = r ∧ u = [(h1, .inl (E.2.1 4, 1, .inr (.inl (vp_updL (fun _ => 0) 0 40))))])) (fun u => u) 82 353 := by
  refine rc_inWi (hh := [(0, 9, 12, 13), (0, 9, 15, 15)]) (cc := cL_changes) (maxL := 4) (ret := (some FieldType.int)) (by decide) rfl (Nat.le_of_ble_eq_true rfl) ?_
  intro p e s m args below meth c ls A htb hx hb hr hml _ hown hlocks hin hA hAm hw hl
  have hown : s.vm.findClass RL = some m.cls := hown
  have hl : lv_has ls 4 [(0, .ref h0), (1, .int x0), (2, .ref h1)] := hl
  refine lv_aload_n hx hb dL_changes_0 rfl (lv_at hl 2 rfl) ?_
  refine lv_iconst (v := 0) hx hb dL_changes_1 (by decide) ?_
  refine lv_aload_n hx hb dL_changes_2 rfl (lv_at hl 0 rfl) ?_
  refine lv_iload_n hx hb dL_changes_3 rfl (lv_at hl 1 rfl) ?_
  refine rc_callxi (wr := [(h1, .inl (E.2.1 4, 1, .inr (.inl (fun _ => 0))))]) (vx_runV (As := [.int x0]) (rest := [.int 0, .ref h1]) (Ts := []) ⟨hx, hb, hml, hown, fun _ h9 => absurd h9 List.not_mem_nil⟩ (cw_X6_changes l hst E _ h0 x0 h2 h3 h4 h5 h6 h7 h8 h9 h10) (rc_cwV hAm qw_675 qw_1 qw_678 qw_676 qw_677 rfl rfl hd_X6_changes ⟨Nat.le_of_ble_eq_true rfl, Nat.le_of_ble_eq_true rfl⟩) (rc_preV hAm hA hw [0, 1, 2, 3] rfl rfl 0 rfl (q := vwCl[11]) rfl) rfl rfl hl.1 rfl (lv_room (Nat.le_of_ble_eq_true rfl)) dL_changes_4 ⟨Nat.le_of_ble_eq_true rfl, Nat.le_of_ble_eq_true rfl⟩) hA hw [0, 1, 2, 3] [4] rfl rfl rfl (by decide) (fun x9 ce9 q9 H locs hp hw h91 h92 h93 => ?_) (fun r_1 u_2 H locs hp hw => ?_)
  · rcases hp with ⟨rfl, c_3⟩ | ⟨rfl, c_4, c_5, c_6⟩ | ⟨rfl, c_7, c_8⟩
    · refine vx_catch (own := RL) (name := "java/lang/IllegalArgumentException") hown [] ⟨0, 9, 12, 13⟩ [⟨0, 9, 15, 15⟩] (by rw [htb]; rfl) (fun z9 h9 => absurd h9 List.not_mem_nil) (by decide) (by decide) (hAm.wd qw_476 rfl rfl) (hAm.wd qw_490 rfl rfl) h91 h92 h93 ?_
      refine lv_astore_n (lv' := [(3, .ref q9), (0, .ref h0), (1, .int x0), (2, .ref h1)]) hx hb dL_changes_12 rfl hl (by decide) rfl (fun ls hl => ?_)
      refine lv_iconst (v := 1) hx hb dL_changes_13 (by decide) ?_
      exact rc_iret (v := 1) hx hb hr hlocks hw [(h1, .inl (E.2.1 4, 1, .inr (.inl (fun _ => 0))))] (Or.inl ⟨c_3, rfl, rfl⟩) [0] rfl (by decide) (Nat.le_of_ble_eq_true rfl) (Nat.le_of_ble_eq_true rfl) dL_changes_14
    · refine vx_catch (own := RL) (name := "java/lang/IllegalStateException") hown [⟨0, 9, 12, 13⟩] ⟨0, 9, 15, 15⟩ [] (by rw [htb]; rfl) (List.forall_mem_cons.mpr ⟨Or.inr ⟨by decide, "java/lang/IllegalArgumentException", hAm.wd qw_476 rfl rfl, hAm.1.2.2.2 ("java/lang/IllegalStateException", "java/lang/IllegalArgumentException") (by decide)⟩, fun z9 h9 => absurd h9 List.not_mem_nil⟩) (by decide) (by decide) (hAm.wd qw_477 rfl rfl) (hAm.wd qw_558 rfl rfl) h91 h92 h93 ?_
      refine lv_astore_n (lv' := [(3, .ref q9), (0, .ref h0), (1, .int x0), (2, .ref h1)]) hx hb dL_changes_15 rfl hl (by decide) rfl (fun ls hl => ?_)
      refine lv_iconst (v := 2) hx hb dL_changes_16 (by decide) ?_
      exact rc_iret (v := 2) hx hb hr hlocks hw [(h1, .inl (E.2.1 4, 1, .inr (.inl (fun _ => 0))))] (Or.inr (Or.inl ⟨c_4, c_5, c_6, rfl, rfl⟩)) [0] rfl (by decide) (Nat.le_of_ble_eq_true rfl) (Nat.le_of_ble_eq_true rfl) dL_changes_17
    · refine vx_catch (own := RL) (name := "java/lang/IllegalArgumentException") hown [] ⟨0, 9, 12, 13⟩ [⟨0, 9, 15, 15⟩] (by rw [htb]; rfl) (fun z9 h9 => absurd h9 List.not_mem_nil) (by decide) (by decide) (hAm.wd qw_476 rfl rfl) (hAm.wd qw_490 rfl rfl) h91 h92 h93 ?_
      refine lv_astore_n (lv' := [(3, .ref q9), (0, .ref h0), (1, .int x0), (2, .ref h1)]) hx hb dL_changes_12 rfl hl (by decide) rfl (fun ls hl => ?_)
      refine lv_iconst (v := 1) hx hb dL_changes_13 (by decide) ?_
      exact rc_iret (v := 1) hx hb hr hlocks hw [(h1, .inl (E.2.1 4, 1, .inr (.inl (fun _ => 0))))] (Or.inr (Or.inr (Or.inl ⟨c_7, c_8, rfl, rfl⟩))) [0] rfl (by decide) (Nat.le_of_ble_eq_true rfl) (Nat.le_of_ble_eq_true rfl) dL_changes_14
  · rcases hp with ⟨c_9, c_10, rfl, rfl⟩ | ⟨c_11, c_12, rfl, rfl⟩ | ⟨c_13, c_14, rfl, rfl⟩ | ⟨c_15, c_16, rfl, rfl⟩ | ⟨c_17, c_18, rfl, rfl⟩ | ⟨c_19, c_20, rfl, rfl⟩ | ⟨c_21, c_22, rfl, rfl⟩ | ⟨c_23, c_24, rfl, rfl⟩ | ⟨c_25, c_26, rfl, rfl⟩ | ⟨c_27, c_28, rfl, rfl⟩ | ⟨c_29, c_30, rfl, rfl⟩ | ⟨c_31, c_32, rfl, rfl⟩ | ⟨c_33, c_34, rfl, rfl⟩ | ⟨c_35, c_36, rfl, rfl⟩ | ⟨c_37, c_38, rfl, rfl⟩ | ⟨c_39, c_40, rfl, rfl⟩ | ⟨c_41, c_42, rfl, rfl⟩ | ⟨c_43, c_44, rfl, rfl⟩ | ⟨c_45, c_46, rfl, rfl⟩ | ⟨c_47, c_48, rfl, rfl⟩ | ⟨c_49, c_50, rfl, rfl⟩ | ⟨c_51, c_52, rfl, rfl⟩ | ⟨c_53, c_54, rfl, rfl⟩ | ⟨c_55, c_56, rfl, rfl⟩ | ⟨c_57, c_58, rfl, rfl⟩ | ⟨c_59, c_60, rfl, rfl⟩ | ⟨c_61, c_62, rfl, rfl⟩ | ⟨c_63, c_64, rfl, rfl⟩ | ⟨c_65, c_66, rfl, rfl⟩ | ⟨c_67, c_68, rfl, rfl⟩ | ⟨c_69, c_70, rfl, rfl⟩ | ⟨c_71, c_72, rfl, rfl⟩ | ⟨c_73, c_74, rfl, rfl⟩ | ⟨c_75, c_76, rfl, rfl⟩ | ⟨c_77, c_78, rfl, rfl⟩ | ⟨c_79, c_80, rfl, rfl⟩ | ⟨c_81, c_82, rfl, rfl⟩ | ⟨c_83, c_84, rfl, rfl⟩ | ⟨c_85, c_86, rfl, rfl⟩
    · obtain rfl : x0 = 1 := rc_eqc (b := 1) rfl (by have g_c_10 := rc_g5 (b := 1) c_10 rfl; omega)
      have hw : rc_W E A s [(h1, .inl (E.2.1 4, 1, .inr (.inl (fun _ => 0))))] H locs := hw
      refine lv_i2l (v := 2) hx hb dL_changes_7 (by decide) ?_
      refine rc_last hx hb hAm hw 0 rfl (vp_in_iff.mpr (by decide)) [(h1, .inl (E.2.1 4, 1, .inr (.inl (vp_updL (fun _ => 0) 0 2))))] rfl dL_changes_8 (fun H locs hw => ?_)
      refine lv_goto (tgt := 18) hx hb dL_changes_9 (by decide) ?_
      refine lv_iconst (v := 0) hx hb dL_changes_18 (by decide) ?_
      exact rc_iret (v := 0) hx hb hr hlocks hw [(h1, .inl (E.2.1 4, 1, .inr (.inl (vp_updL (fun _ => 0) 0 2))))] (Or.inr (Or.inr (Or.inr (Or.inl ⟨c_9, rfl, rfl, rfl⟩)))) [0] rfl (by decide) (Nat.le_of_ble_eq_true rfl) (Nat.le_of_ble_eq_true rfl) dL_changes_19
    · obtain rfl : x0 = 2 := rc_eqc (b := 2) rfl (by have g_c_12 := rc_g5 (b := 2) c_12 rfl; omega)
      have hw : rc_W E A s [(h1, .inl (E.2.1 4, 1, .inr (.inl (fun _ => 0))))] H locs := hw
      refine lv_i2l (v := 3) hx hb dL_changes_7 (by decide) ?_
      refine rc_last hx hb hAm hw 0 rfl (vp_in_iff.mpr (by decide)) [(h1, .inl (E.2.1 4, 1, .inr (.inl (vp_updL (fun _ => 0) 0 3))))] rfl dL_changes_8 (fun H locs hw => ?_)
      refine lv_goto (tgt := 18) hx hb dL_changes_9 (by decide) ?_
      refine lv_iconst (v := 0) hx hb dL_changes_18 (by decide) ?_
      exact rc_iret (v := 0) hx hb hr hlocks hw [(h1, .inl (E.2.1 4, 1, .inr (.inl (vp_updL (fun _ => 0) 0 3))))] (Or.inr (Or.inr (Or.inr (Or.inr (Or.inl ⟨c_11, rfl, rfl, rfl⟩))))) [0] rfl (by decide) (Nat.le_of_ble_eq_true rfl) (Nat.le_of_ble_eq_true rfl) dL_changes_19
    · obtain rfl : x0 = 3 := rc_eqc (b := 3) rfl (by have g_c_14 := rc_g5 (b := 3) c_14 rfl; omega)
      have hw : rc_W E A s [(h1, .inl (E.2.1 4, 1, .inr (.inl (fun _ => 0))))] H locs := hw
      refine lv_i2l (v := 4) hx hb dL_changes_7 (by decide) ?_
      refine rc_last hx hb hAm hw 0 rfl (vp_in_iff.mpr (by decide)) [(h1, .inl (E.2.1 4, 1, .inr (.inl (vp_updL (fun _ => 0) 0 4))))] rfl dL_changes_8 (fun H locs hw => ?_)
      refine lv_goto (tgt := 18) hx hb dL_changes_9 (by decide) ?_
      refine lv_iconst (v := 0) hx hb dL_changes_18 (by decide) ?_
      exact rc_iret (v := 0) hx hb hr hlocks hw [(h1, .inl (E.2.1 4, 1, .inr (.inl (vp_updL (fun _ => 0) 0 4))))] (Or.inr (Or.inr (Or.inr (Or.inr (Or.inr (Or.inl ⟨c_13, rfl, rfl, rfl⟩)))))) [0] rfl (by decide) (Nat.le_of_ble_eq_true rfl) (Nat.le_of_ble_eq_true rfl) dL_changes_19
    · obtain rfl : x0 = 4 := rc_eqc (b := 4) rfl (by have g_c_16 := rc_g5 (b := 4) c_16 rfl; omega)
      have hw : rc_W E A s [(h1, .inl (E.2.1 4, 1, .inr (.inl (fun _ => 0))))] H locs := hw
      refine lv_i2l (v := 5) hx hb dL_changes_7 (by decide) ?_
      refine rc_last hx hb hAm hw 0 rfl (vp_in_iff.mpr (by decide)) [(h1, .inl (E.2.1 4, 1, .inr (.inl (vp_updL (fun _ => 0) 0 5))))] rfl dL_changes_8 (fun H locs hw => ?_)
      refine lv_goto (tgt := 18) hx hb dL_changes_9 (by decide) ?_
      refine lv_iconst (v := 0) hx hb dL_changes_18 (by decide) ?_
      exact rc_iret (v := 0) hx hb hr hlocks hw [(h1, .inl (E.2.1 4, 1, .inr (.inl (vp_updL (fun _ => 0) 0 5))))] (Or.inr (Or.inr (Or.inr (Or.inr (Or.inr (Or.inr (Or.inl ⟨c_15, rfl, rfl, rfl⟩))))))) [0] rfl (by decide) (Nat.le_of_ble_eq_true rfl) (Nat.le_of_ble_eq_true rfl) dL_changes_19
    · obtain rfl : x0 = 5 := rc_eqc (b := 5) rfl (by have g_c_18 := rc_g5 (b := 5) c_18 rfl; omega)
      have hw : rc_W E A s [(h1, .inl (E.2.1 4, 1, .inr (.inl (fun _ => 0))))] H locs := hw
      refine lv_i2l (v := 6) hx hb dL_changes_7 (by decide) ?_
      refine rc_last hx hb hAm hw 0 rfl (vp_in_iff.mpr (by decide)) [(h1, .inl (E.2.1 4, 1, .inr (.inl (vp_updL (fun _ => 0) 0 6))))] rfl dL_changes_8 (fun H locs hw => ?_)
      refine lv_goto (tgt := 18) hx hb dL_changes_9 (by decide) ?_
      refine lv_iconst (v := 0) hx hb dL_changes_18 (by decide) ?_
      exact rc_iret (v := 0) hx hb hr hlocks hw [(h1, .inl (E.2.1 4, 1, .inr (.inl (vp_updL (fun _ => 0) 0 6))))] (Or.inr (Or.inr (Or.inr (Or.inr (Or.inr (Or.inr (Or.inr (Or.inl ⟨c_17, rfl, rfl, rfl⟩)))))))) [0] rfl (by decide) (Nat.le_of_ble_eq_true rfl) (Nat.le_of_ble_eq_true rfl) dL_changes_19
    · obtain rfl : x0 = 6 := rc_eqc (b := 6) rfl (by have g_c_20 := rc_g5 (b := 6) c_20 rfl; omega)
      have hw : rc_W E A s [(h1, .inl (E.2.1 4, 1, .inr (.inl (fun _ => 0))))] H locs := hw
      refine lv_i2l (v := 7) hx hb dL_changes_7 (by decide) ?_
      refine rc_last hx hb hAm hw 0 rfl (vp_in_iff.mpr (by decide)) [(h1, .inl (E.2.1 4, 1, .inr (.inl (vp_updL (fun _ => 0) 0 7))))] rfl dL_changes_8 (fun H locs hw => ?_)
      refine lv_goto (tgt := 18) hx hb dL_changes_9 (by decide) ?_
      refine lv_iconst (v := 0) hx hb dL_changes_18 (by decide) ?_
      exact rc_iret (v := 0) hx hb hr hlocks hw [(h1, .inl (E.2.1 4, 1, .inr (.inl (vp_updL (fun _ => 0) 0 7))))] (Or.inr (Or.inr (Or.inr (Or.inr (Or.inr (Or.inr (Or.inr (Or.inr (Or.inl ⟨c_19, rfl, rfl, rfl⟩))))))))) [0] rfl (by decide) (Nat.le_of_ble_eq_true rfl) (Nat.le_of_ble_eq_true rfl) dL_changes_19
    · obtain rfl : x0 = 7 := rc_eqc (b := 7) rfl (by have g_c_22 := rc_g5 (b := 7) c_22 rfl; omega)
      have hw : rc_W E A s [(h1, .inl (E.2.1 4, 1, .inr (.inl (fun _ => 0))))] H locs := hw
      refine lv_i2l (v := 8) hx hb dL_changes_7 (by decide) ?_
      refine rc_last hx hb hAm hw 0 rfl (vp_in_iff.mpr (by decide)) [(h1, .inl (E.2.1 4, 1, .inr (.inl (vp_updL (fun _ => 0) 0 8))))] rfl dL_changes_8 (fun H locs hw => ?_)
      refine lv_goto (tgt := 18) hx hb dL_changes_9 (by decide) ?_
      refine lv_iconst (v := 0) hx hb dL_changes_18 (by decide) ?_
      exact rc_iret (v := 0) hx hb hr hlocks hw [(h1, .inl (E.2.1 4, 1, .inr (.inl (vp_updL (fun _ => 0) 0 8))))] (Or.inr (Or.inr (Or.inr (Or.inr (Or.inr (Or.inr (Or.inr (Or.inr (Or.inr (Or.inl ⟨c_21, rfl, rfl, rfl⟩)))))))))) [0] rfl (by decide) (Nat.le_of_ble_eq_true rfl) (Nat.le_of_ble_eq_true rfl) dL_changes_19
    · obtain rfl : x0 = 8 := rc_eqc (b := 8) rfl (by have g_c_24 := rc_g5 (b := 8) c_24 rfl; omega)
      have hw : rc_W E A s [(h1, .inl (E.2.1 4, 1, .inr (.inl (fun _ => 0))))] H locs := hw
      refine lv_i2l (v := 9) hx hb dL_changes_7 (by decide) ?_
      refine rc_last hx hb hAm hw 0 rfl (vp_in_iff.mpr (by decide)) [(h1, .inl (E.2.1 4, 1, .inr (.inl (vp_updL (fun _ => 0) 0 9))))] rfl dL_changes_8 (fun H locs hw => ?_)
      refine lv_goto (tgt := 18) hx hb dL_changes_9 (by decide) ?_
      refine lv_iconst (v := 0) hx hb dL_changes_18 (by decide) ?_
      exact rc_iret (v := 0) hx hb hr hlocks hw [(h1, .inl (E.2.1 4, 1, .inr (.inl (vp_updL (fun _ => 0) 0 9))))] (Or.inr (Or.inr (Or.inr (Or.inr (Or.inr (Or.inr (Or.inr (Or.inr (Or.inr (Or.inr (Or.inl ⟨c_23, rfl, rfl, rfl⟩))))))))))) [0] rfl (by decide) (Nat.le_of_ble_eq_true rfl) (Nat.le_of_ble_eq_true rfl) dL_changes_19
    · obtain rfl : x0 = 9 := rc_eqc (b := 9) rfl (by have g_c_26 := rc_g5 (b := 9) c_26 rfl; omega)
      have hw : rc_W E A s [(h1, .inl (E.2.1 4, 1, .inr (.inl (fun _ => 0))))] H locs := hw
      refine lv_i2l (v := 10) hx hb dL_changes_7 (by decide) ?_
      refine rc_last hx hb hAm hw 0 rfl (vp_in_iff.mpr (by decide)) [(h1, .inl (E.2.1 4, 1, .inr (.inl (vp_updL (fun _ => 0) 0 10))))] rfl dL_changes_8 (fun H locs hw => ?_)
      refine lv_goto (tgt := 18) hx hb dL_changes_9 (by decide) ?_
      refine lv_iconst (v := 0) hx hb dL_changes_18 (by decide) ?_
      exact rc_iret (v := 0) hx hb hr hlocks hw [(h1, .inl (E.2.1 4, 1, .inr (.inl (vp_updL (fun _ => 0) 0 10))))] (Or.inr (Or.inr (Or.inr (Or.inr (Or.inr (Or.inr (Or.inr (Or.inr (Or.inr (Or.inr (Or.inr (Or.inl ⟨c_25, rfl, rfl, rfl⟩)))))))))))) [0] rfl (by decide) (Nat.le_of_ble_eq_true rfl) (Nat.le_of_ble_eq_true rfl) dL_changes_19
    · obtain rfl : x0 = 10 := rc_eqc (b := 10) rfl (by have g_c_28 := rc_g5 (b := 10) c_28 rfl; omega)
      have hw : rc_W E A s [(h1, .inl (E.2.1 4, 1, .inr (.inl (fun _ => 0))))] H locs := hw
      refine lv_i2l (v := 11) hx hb dL_changes_7 (by decide) ?_
      refine rc_last hx hb hAm hw 0 rfl (vp_in_iff.mpr (by decide)) [(h1, .inl (E.2.1 4, 1, .inr (.inl (vp_updL (fun _ => 0) 0 11))))] rfl dL_changes_8 (fun H locs hw => ?_)
      refine lv_goto (tgt := 18) hx hb dL_changes_9 (by decide) ?_
      refine lv_iconst (v := 0) hx hb dL_changes_18 (by decide) ?_
      exact rc_iret (v := 0) hx hb hr hlocks hw [(h1, .inl (E.2.1 4, 1, .inr (.inl (vp_updL (fun _ => 0) 0 11))))] (Or.inr (Or.inr (Or.inr (Or.inr (Or.inr (Or.inr (Or.inr (Or.inr (Or.inr (Or.inr (Or.inr (Or.inr (Or.inl ⟨c_27, rfl, rfl, rfl⟩))))))))))))) [0] rfl (by decide) (Nat.le_of_ble_eq_true rfl) (Nat.le_of_ble_eq_true rfl) dL_changes_19
    · obtain rfl : x0 = 11 := rc_eqc (b := 11) rfl (by have g_c_30 := rc_g5 (b := 11) c_30 rfl; omega)
      have hw : rc_W E A s [(h1, .inl (E.2.1 4, 1, .inr (.inl (fun _ => 0))))] H locs := hw
      refine lv_i2l (v := 12) hx hb dL_changes_7 (by decide) ?_
      refine rc_last hx hb hAm hw 0 rfl (vp_in_iff.mpr (by decide)) [(h1, .inl (E.2.1 4, 1, .inr (.inl (vp_updL (fun _ => 0) 0 12))))] rfl dL_changes_8 (fun H locs hw => ?_)
      refine lv_goto (tgt := 18) hx hb dL_changes_9 (by decide) ?_
      refine lv_iconst (v := 0) hx hb dL_changes_18 (by decide) ?_
      exact rc_iret (v := 0) hx hb hr hlocks hw [(h1, .inl (E.2.1 4, 1, .inr (.inl (vp_updL (fun _ => 0) 0 12))))] (Or.inr (Or.inr (Or.inr (Or.inr (Or.inr (Or.inr (Or.inr (Or.inr (Or.inr (Or.inr (Or.inr (Or.inr (Or.inr (Or.inl ⟨c_29, rfl, rfl, rfl⟩)))))))))))))) [0] rfl (by decide) (Nat.le_of_ble_eq_true rfl) (Nat.le_of_ble_eq_true rfl) dL_changes_19
    · obtain rfl : x0 = 12 := rc_eqc (b := 12) rfl (by have g_c_32 := rc_g5 (b := 12) c_32 rfl; omega)
      have hw : rc_W E A s [(h1, .inl (E.2.1 4, 1, .inr (.inl (fun _ => 0))))] H locs := hw
      refine lv_i2l (v := 13) hx hb dL_changes_7 (by decide) ?_
      refine rc_last hx hb hAm hw 0 rfl (vp_in_iff.mpr (by decide)) [(h1, .inl (E.2.1 4, 1, .inr (.inl (vp_updL (fun _ => 0) 0 13))))] rfl dL_changes_8 (fun H locs hw => ?_)
      refine lv_goto (tgt := 18) hx hb dL_changes_9 (by decide) ?_
      refine lv_iconst (v := 0) hx hb dL_changes_18 (by decide) ?_
      exact rc_iret (v := 0) hx hb hr hlocks hw [(h1, .inl (E.2.1 4, 1, .inr (.inl (vp_updL (fun _ => 0) 0 13))))] (Or.inr (Or.inr (Or.inr (Or.inr (Or.inr (Or.inr (Or.inr (Or.inr (Or.inr (Or.inr (Or.inr (Or.inr (Or.inr (Or.inr (Or.inl ⟨c_31, rfl, rfl, rfl⟩))))))))))))))) [0] rfl (by decide) (Nat.le_of_ble_eq_true rfl) (Nat.le_of_ble_eq_true rfl) dL_changes_19
    · obtain rfl : x0 = 13 := rc_eqc (b := 13) rfl (by have g_c_34 := rc_g5 (b := 13) c_34 rfl; omega)
      have hw : rc_W E A s [(h1, .inl (E.2.1 4, 1, .inr (.inl (fun _ => 0))))] H locs := hw
      refine lv_i2l (v := 14) hx hb dL_changes_7 (by decide) ?_
      refine rc_last hx hb hAm hw 0 rfl (vp_in_iff.mpr (by decide)) [(h1, .inl (E.2.1 4, 1, .inr (.inl (vp_updL (fun _ => 0) 0 14))))] rfl dL_changes_8 (fun H locs hw => ?_)
      refine lv_goto (tgt := 18) hx hb dL_changes_9 (by decide) ?_
      refine lv_iconst (v := 0) hx hb dL_changes_18 (by decide) ?_
      exact rc_iret (v := 0) hx hb hr hlocks hw [(h1, .inl (E.2.1 4, 1, .inr (.inl (vp_updL (fun _ => 0) 0 14))))] (Or.inr (Or.inr (Or.inr (Or.inr (Or.inr (Or.inr (Or.inr (Or.inr (Or.inr (Or.inr (Or.inr (Or.inr (Or.inr (Or.inr (Or.inr (Or.inl ⟨c_33, rfl, rfl, rfl⟩)))))))))))))))) [0] rfl (by decide) (Nat.le_of_ble_eq_true rfl) (Nat.le_of_ble_eq_true rfl) dL_changes_19
    · obtain rfl : x0 = 14 := rc_eqc (b := 14) rfl (by have g_c_36 := rc_g5 (b := 14) c_36 rfl; omega)
      have hw : rc_W E A s [(h1, .inl (E.2.1 4, 1, .inr (.inl (fun _ => 0))))] H locs := hw
      refine lv_i2l (v := 15) hx hb dL_changes_7 (by decide) ?_
      refine rc_last hx hb hAm hw 0 rfl (vp_in_iff.mpr (by decide)) [(h1, .inl (E.2.1 4, 1, .inr (.inl (vp_updL (fun _ => 0) 0 15))))] rfl dL_changes_8 (fun H locs hw => ?_)
      refine lv_goto (tgt := 18) hx hb dL_changes_9 (by decide) ?_
      refine lv_iconst (v := 0) hx hb dL_changes_18 (by decide) ?_
      exact rc_iret (v := 0) hx hb hr hlocks hw [(h1, .inl (E.2.1 4, 1, .inr (.inl (vp_updL (fun _ => 0) 0 15))))] (Or.inr (Or.inr (Or.inr (Or.inr (Or.inr (Or.inr (Or.inr (Or.inr (Or.inr (Or.inr (Or.inr (Or.inr (Or.inr (Or.inr (Or.inr (Or.inr (Or.inl ⟨c_35, rfl, rfl, rfl⟩))))))))))))))))) [0] rfl (by decide) (Nat.le_of_ble_eq_true rfl) (Nat.le_of_ble_eq_true rfl) dL_changes_19
    · obtain rfl : x0 = 15 := rc_eqc (b := 15) rfl (by have g_c_38 := rc_g5 (b := 15) c_38 rfl; omega)
      have hw : rc_W E A s [(h1, .inl (E.2.1 4, 1, .inr (.inl (fun _ => 0))))] H locs := hw
      refine lv_i2l (v := 16) hx hb dL_changes_7 (by decide) ?_
      refine rc_last hx hb hAm hw 0 rfl (vp_in_iff.mpr (by decide)) [(h1, .inl (E.2.1 4, 1, .inr (.inl (vp_updL (fun _ => 0) 0 16))))] rfl dL_changes_8 (fun H locs hw => ?_)
      refine lv_goto (tgt := 18) hx hb dL_changes_9 (by decide) ?_
      refine lv_iconst (v := 0) hx hb dL_changes_18 (by decide) ?_
      exact rc_iret (v := 0) hx hb hr hlocks hw [(h1, .inl (E.2.1 4, 1, .inr (.inl (vp_updL (fun _ => 0) 0 16))))] (Or.inr (Or.inr (Or.inr (Or.inr (Or.inr (Or.inr (Or.inr (Or.inr (Or.inr (Or.inr (Or.inr (Or.inr (Or.inr (Or.inr (Or.inr (Or.inr (Or.inr (Or.inl ⟨c_37, rfl, rfl, rfl⟩)))))))))))))))))) [0] rfl (by decide) (Nat.le_of_ble_eq_true rfl) (Nat.le_of_ble_eq_true rfl) dL_changes_19
    · obtain rfl : x0 = 16 := rc_eqc (b := 16) rfl (by have g_c_40 := rc_g5 (b := 16) c_40 rfl; omega)
      have hw : rc_W E A s [(h1, .inl (E.2.1 4, 1, .inr (.inl (fun _ => 0))))] H locs := hw
      refine lv_i2l (v := 17) hx hb dL_changes_7 (by decide) ?_
      refine rc_last hx hb hAm hw 0 rfl (vp_in_iff.mpr (by decide)) [(h1, .inl (E.2.1 4, 1, .inr (.inl (vp_updL (fun _ => 0) 0 17))))] rfl dL_changes_8 (fun H locs hw => ?_)
      refine lv_goto (tgt := 18) hx hb dL_changes_9 (by decide) ?_
      refine lv_iconst (v := 0) hx hb dL_changes_18 (by decide) ?_
      exact rc_iret (v := 0) hx hb hr hlocks hw [(h1, .inl (E.2.1 4, 1, .inr (.inl (vp_updL (fun _ => 0) 0 17))))] (Or.inr (Or.inr (Or.inr (Or.inr (Or.inr (Or.inr (Or.inr (Or.inr (Or.inr (Or.inr (Or.inr (Or.inr (Or.inr (Or.inr (Or.inr (Or.inr (Or.inr (Or.inr (Or.inl ⟨c_39, rfl, rfl, rfl⟩))))))))))))))))))) [0] rfl (by decide) (Nat.le_of_ble_eq_true rfl) (Nat.le_of_ble_eq_true rfl) dL_changes_19
    · obtain rfl : x0 = 17 := rc_eqc (b := 17) rfl (by have g_c_42 := rc_g5 (b := 17) c_42 rfl; omega)
      have hw : rc_W E A s [(h1, .inl (E.2.1 4, 1, .inr (.inl (fun _ => 0))))] H locs := hw
      refine lv_i2l (v := 18) hx hb dL_changes_7 (by decide) ?_
      refine rc_last hx hb hAm hw 0 rfl (vp_in_iff.mpr (by decide)) [(h1, .inl (E.2.1 4, 1, .inr (.inl (vp_updL (fun _ => 0) 0 18))))] rfl dL_changes_8 (fun H locs hw => ?_)
      refine lv_goto (tgt := 18) hx hb dL_changes_9 (by decide) ?_
      refine lv_iconst (v := 0) hx hb dL_changes_18 (by decide) ?_
      exact rc_iret (v := 0) hx hb hr hlocks hw [(h1, .inl (E.2.1 4, 1, .inr (.inl (vp_updL (fun _ => 0) 0 18))))] (Or.inr (Or.inr (Or.inr (Or.inr (Or.inr (Or.inr (Or.inr (Or.inr (Or.inr (Or.inr (Or.inr (Or.inr (Or.inr (Or.inr (Or.inr (Or.inr (Or.inr (Or.inr (Or.inr (Or.inl ⟨c_41, rfl, rfl, rfl⟩)))))))))))))))))))) [0] rfl (by decide) (Nat.le_of_ble_eq_true rfl) (Nat.le_of_ble_eq_true rfl) dL_changes_19
    · obtain rfl : x0 = 18 := rc_eqc (b := 18) rfl (by have g_c_44 := rc_g5 (b := 18) c_44 rfl; omega)
      have hw : rc_W E A s [(h1, .inl (E.2.1 4, 1, .inr (.inl (fun _ => 0))))] H locs := hw
      refine lv_i2l (v := 19) hx hb dL_changes_7 (by decide) ?_
      refine rc_last hx hb hAm hw 0 rfl (vp_in_iff.mpr (by decide)) [(h1, .inl (E.2.1 4, 1, .inr (.inl (vp_updL (fun _ => 0) 0 19))))] rfl dL_changes_8 (fun H locs hw => ?_)
      refine lv_goto (tgt := 18) hx hb dL_changes_9 (by decide) ?_
      refine lv_iconst (v := 0) hx hb dL_changes_18 (by decide) ?_
      exact rc_iret (v := 0) hx hb hr hlocks hw [(h1, .inl (E.2.1 4, 1, .inr (.inl (vp_updL (fun _ => 0) 0 19))))] (Or.inr (Or.inr (Or.inr (Or.inr (Or.inr (Or.inr (Or.inr (Or.inr (Or.inr (Or.inr (Or.inr (Or.inr (Or.inr (Or.inr (Or.inr (Or.inr (Or.inr (Or.inr (Or.inr (Or.inr (Or.inl ⟨c_43, rfl, rfl, rfl⟩))))))))))))))))))))) [0] rfl (by decide) (Nat.le_of_ble_eq_true rfl) (Nat.le_of_ble_eq_true rfl) dL_changes_19
    · obtain rfl : x0 = 19 := rc_eqc (b := 19) rfl (by have g_c_46 := rc_g5 (b := 19) c_46 rfl; omega)
      have hw : rc_W E A s [(h1, .inl (E.2.1 4, 1, .inr (.inl (fun _ => 0))))] H locs := hw
      refine lv_i2l (v := 20) hx hb dL_changes_7 (by decide) ?_
      refine rc_last hx hb hAm hw 0 rfl (vp_in_iff.mpr (by decide)) [(h1, .inl (E.2.1 4, 1, .inr (.inl (vp_updL (fun _ => 0) 0 20))))] rfl dL_changes_8 (fun H locs hw => ?_)
      refine lv_goto (tgt := 18) hx hb dL_changes_9 (by decide) ?_
      refine lv_iconst (v := 0) hx hb dL_changes_18 (by decide) ?_
      exact rc_iret (v := 0) hx hb hr hlocks hw [(h1, .inl (E.2.1 4, 1, .inr (.inl (vp_updL (fun _ => 0) 0 20))))] (Or.inr (Or.inr (Or.inr (Or.inr (Or.inr (Or.inr (Or.inr (Or.inr (Or.inr (Or.inr (Or.inr (Or.inr (Or.inr (Or.inr (Or.inr (Or.inr (Or.inr (Or.inr (Or.inr (Or.inr (Or.inr (Or.inl ⟨c_45, rfl, rfl, rfl⟩)))))))))))))))))))))) [0] rfl (by decide) (Nat.le_of_ble_eq_true rfl) (Nat.le_of_ble_eq_true rfl) dL_changes_19
    · obtain rfl : x0 = 20 := rc_eqc (b := 20) rfl (by have g_c_48 := rc_g5 (b := 20) c_48 rfl; omega)
      have hw : rc_W E A s [(h1, .inl (E.2.1 4, 1, .inr (.inl (fun _ => 0))))] H locs := hw
      refine lv_i2l (v := 21) hx hb dL_changes_7 (by decide) ?_
      refine rc_last hx hb hAm hw 0 rfl (vp_in_iff.mpr (by decide)) [(h1, .inl (E.2.1 4, 1, .inr (.inl (vp_updL (fun _ => 0) 0 21))))] rfl dL_changes_8 (fun H locs hw => ?_)
      refine lv_goto (tgt := 18) hx hb dL_changes_9 (by decide) ?_
      refine lv_iconst (v := 0) hx hb dL_changes_18 (by decide) ?_
      exact rc_iret (v := 0) hx hb hr hlocks hw [(h1, .inl (E.2.1 4, 1, .inr (.inl (vp_updL (fun _ => 0) 0 21))))] (Or.inr (Or.inr (Or.inr (Or.inr (Or.inr (Or.inr (Or.inr (Or.inr (Or.inr (Or.inr (Or.inr (Or.inr (Or.inr (Or.inr (Or.inr (Or.inr (Or.inr (Or.inr (Or.inr (Or.inr (Or.inr (Or.inr (Or.inl ⟨c_47, rfl, rfl, rfl⟩))))))))))))))))))))))) [0] rfl (by decide) (Nat.le_of_ble_eq_true rfl) (Nat.le_of_ble_eq_true rfl) dL_changes_19
    · obtain rfl : x0 = 21 := rc_eqc (b := 21) rfl (by have g_c_50 := rc_g5 (b := 21) c_50 rfl; omega)
      have hw : rc_W E A s [(h1, .inl (E.2.1 4, 1, .inr (.inl (fun _ => 0))))] H locs := hw
      refine lv_i2l (v := 22) hx hb dL_changes_7 (by decide) ?_
      refine rc_last hx hb hAm hw 0 rfl (vp_in_iff.mpr (by decide)) [(h1, .inl (E.2.1 4, 1, .inr (.inl (vp_updL (fun _ => 0) 0 22))))] rfl dL_changes_8 (fun H locs hw => ?_)
      refine lv_goto (tgt := 18) hx hb dL_changes_9 (by decide) ?_
      refine lv_iconst (v := 0) hx hb dL_changes_18 (by decide) ?_
      exact rc_iret (v := 0) hx hb hr hlocks hw [(h1, .inl (E.2.1 4, 1, .inr (.inl (vp_updL (fun _ => 0) 0 22))))] (Or.inr (Or.inr (Or.inr (Or.inr (Or.inr (Or.inr (Or.inr (Or.inr (Or.inr (Or.inr (Or.inr (Or.inr (Or.inr (Or.inr (Or.inr (Or.inr (Or.inr (Or.inr (Or.inr (Or.inr (Or.inr (Or.inr (Or.inr (Or.inl ⟨c_49, rfl, rfl, rfl⟩)))))))))))))))))))))))) [0] rfl (by decide) (Nat.le_of_ble_eq_true rfl) (Nat.le_of_ble_eq_true rfl) dL_changes_19
    · obtain rfl : x0 = 22 := rc_eqc (b := 22) rfl (by have g_c_52 := rc_g5 (b := 22) c_52 rfl; omega)
      have hw : rc_W E A s [(h1, .inl (E.2.1 4, 1, .inr (.inl (fun _ => 0))))] H locs := hw
      refine lv_i2l (v := 23) hx hb dL_changes_7 (by decide) ?_
      refine rc_last hx hb hAm hw 0 rfl (vp_in_iff.mpr (by decide)) [(h1, .inl (E.2.1 4, 1, .inr (.inl (vp_updL (fun _ => 0) 0 23))))] rfl dL_changes_8 (fun H locs hw => ?_)
      refine lv_goto (tgt := 18) hx hb dL_changes_9 (by decide) ?_
      refine lv_iconst (v := 0) hx hb dL_changes_18 (by decide) ?_
      exact rc_iret (v := 0) hx hb hr hlocks hw [(h1, .inl (E.2.1 4, 1, .inr (.inl (vp_updL (fun _ => 0) 0 23))))] (Or.inr (Or.inr (Or.inr (Or.inr (Or.inr (Or.inr (Or.inr (Or.inr (Or.inr (Or.inr (Or.inr (Or.inr (Or.inr (Or.inr (Or.inr (Or.inr (Or.inr (Or.inr (Or.inr (Or.inr (Or.inr (Or.inr (Or.inr (Or.inr (Or.inl ⟨c_51, rfl, rfl, rfl⟩))))))))))))))))))))))))) [0] rfl (by decide) (Nat.le_of_ble_eq_true rfl) (Nat.le_of_ble_eq_true rfl) dL_changes_19
    · obtain rfl : x0 = 23 := rc_eqc (b := 23) rfl (by have g_c_54 := rc_g5 (b := 23) c_54 rfl; omega)
      have hw : rc_W E A s [(h1, .inl (E.2.1 4, 1, .inr (.inl (fun _ => 0))))] H locs := hw
      refine lv_i2l (v := 24) hx hb dL_changes_7 (by decide) ?_
      refine rc_last hx hb hAm hw 0 rfl (vp_in_iff.mpr (by decide)) [(h1, .inl (E.2.1 4, 1, .inr (.inl (vp_updL (fun _ => 0) 0 24))))] rfl dL_changes_8 (fun H locs hw => ?_)
      refine lv_goto (tgt := 18) hx hb dL_changes_9 (by decide) ?_
      refine lv_iconst (v := 0) hx hb dL_changes_18 (by decide) ?_
      exact rc_iret (v := 0) hx hb hr hlocks hw [(h1, .inl (E.2.1 4, 1, .inr (.inl (vp_updL (fun _ => 0) 0 24))))] (Or.inr (Or.inr (Or.inr (Or.inr (Or.inr (Or.inr (Or.inr (Or.inr (Or.inr (Or.inr (Or.inr (Or.inr (Or.inr (Or.inr (Or.inr (Or.inr (Or.inr (Or.inr (Or.inr (Or.inr (Or.inr (Or.inr (Or.inr (Or.inr (Or.inr (Or.inl ⟨c_53, rfl, rfl, rfl⟩)))))))))))))))))))))))))) [0] rfl (by decide) (Nat.le_of_ble_eq_true rfl) (Nat.le_of_ble_eq_true rfl) dL_changes_19
    · obtain rfl : x0 = 24 := rc_eqc (b := 24) rfl (by have g_c_56 := rc_g5 (b := 24) c_56 rfl; omega)
      have hw : rc_W E A s [(h1, .inl (E.2.1 4, 1, .inr (.inl (fun _ => 0))))] H locs := hw
      refine lv_i2l (v := 25) hx hb dL_changes_7 (by decide) ?_
      refine rc_last hx hb hAm hw 0 rfl (vp_in_iff.mpr (by decide)) [(h1, .inl (E.2.1 4, 1, .inr (.inl (vp_updL (fun _ => 0) 0 25))))] rfl dL_changes_8 (fun H locs hw => ?_)
      refine lv_goto (tgt := 18) hx hb dL_changes_9 (by decide) ?_
      refine lv_iconst (v := 0) hx hb dL_changes_18 (by decide) ?_
      exact rc_iret (v := 0) hx hb hr hlocks hw [(h1, .inl (E.2.1 4, 1, .inr (.inl (vp_updL (fun _ => 0) 0 25))))] (Or.inr (Or.inr (Or.inr (Or.inr (Or.inr (Or.inr (Or.inr (Or.inr (Or.inr (Or.inr (Or.inr (Or.inr (Or.inr (Or.inr (Or.inr (Or.inr (Or.inr (Or.inr (Or.inr (Or.inr (Or.inr (Or.inr (Or.inr (Or.inr (Or.inr (Or.inr (Or.inl ⟨c_55, rfl, rfl, rfl⟩))))))))))))))))))))))))))) [0] rfl (by decide) (Nat.le_of_ble_eq_true rfl) (Nat.le_of_ble_eq_true rfl) dL_changes_19
    · obtain rfl : x0 = 25 := rc_eqc (b := 25) rfl (by have g_c_58 := rc_g5 (b := 25) c_58 rfl; omega)
      have hw : rc_W E A s [(h1, .inl (E.2.1 4, 1, .inr (.inl (fun _ => 0))))] H locs := hw
      refine lv_i2l (v := 26) hx hb dL_changes_7 (by decide) ?_
      refine rc_last hx hb hAm hw 0 rfl (vp_in_iff.mpr (by decide)) [(h1, .inl (E.2.1 4, 1, .inr (.inl (vp_updL (fun _ => 0) 0 26))))] rfl dL_changes_8 (fun H locs hw => ?_)
      refine lv_goto (tgt := 18) hx hb dL_changes_9 (by decide) ?_
      refine lv_iconst (v := 0) hx hb dL_changes_18 (by decide) ?_
      exact rc_iret (v := 0) hx hb hr hlocks hw [(h1, .inl (E.2.1 4, 1, .inr (.inl (vp_updL (fun _ => 0) 0 26))))] (Or.inr (Or.inr (Or.inr (Or.inr (Or.inr (Or.inr (Or.inr (Or.inr (Or.inr (Or.inr (Or.inr (Or.inr (Or.inr (Or.inr (Or.inr (Or.inr (Or.inr (Or.inr (Or.inr (Or.inr (Or.inr (Or.inr (Or.inr (Or.inr (Or.inr (Or.inr (Or.inr (Or.inl ⟨c_57, rfl, rfl, rfl⟩)))))))))))))))))))))))))))) [0] rfl (by decide) (Nat.le_of_ble_eq_true rfl) (Nat.le_of_ble_eq_true rfl) dL_changes_19
    · obtain rfl : x0 = 26 := rc_eqc (b := 26) rfl (by have g_c_60 := rc_g5 (b := 26) c_60 rfl; omega)
      have hw : rc_W E A s [(h1, .inl (E.2.1 4, 1, .inr (.inl (fun _ => 0))))] H locs := hw
      refine lv_i2l (v := 27) hx hb dL_changes_7 (by decide) ?_
      refine rc_last hx hb hAm hw 0 rfl (vp_in_iff.mpr (by decide)) [(h1, .inl (E.2.1 4, 1, .inr (.inl (vp_updL (fun _ => 0) 0 27))))] rfl dL_changes_8 (fun H locs hw => ?_)
      refine lv_goto (tgt := 18) hx hb dL_changes_9 (by decide) ?_
      refine lv_iconst (v := 0) hx hb dL_changes_18 (by decide) ?_
      exact rc_iret (v := 0) hx hb hr hlocks hw [(h1, .inl (E.2.1 4, 1, .inr (.inl (vp_updL (fun _ => 0) 0 27))))] (Or.inr (Or.inr (Or.inr (Or.inr (Or.inr (Or.inr (Or.inr (Or.inr (Or.inr (Or.inr (Or.inr (Or.inr (Or.inr (Or.inr (Or.inr (Or.inr (Or.inr (Or.inr (Or.inr (Or.inr (Or.inr (Or.inr (Or.inr (Or.inr (Or.inr (Or.inr (Or.inr (Or.inr (Or.inl ⟨c_59, rfl, rfl, rfl⟩))))))))))))))))))))))))))))) [0] rfl (by decide) (Nat.le_of_ble_eq_true rfl) (Nat.le_of_ble_eq_true rfl) dL_changes_19
    · obtain rfl : x0 = 27 := rc_eqc (b := 27) rfl (by have g_c_62 := rc_g5 (b := 27) c_62 rfl; omega)
      have hw : rc_W E A s [(h1, .inl (E.2.1 4, 1, .inr (.inl (fun _ => 0))))] H locs := hw
      refine lv_i2l (v := 28) hx hb dL_changes_7 (by decide) ?_
      refine rc_last hx hb hAm hw 0 rfl (vp_in_iff.mpr (by decide)) [(h1, .inl (E.2.1 4, 1, .inr (.inl (vp_updL (fun _ => 0) 0 28))))] rfl dL_changes_8 (fun H locs hw => ?_)
      refine lv_goto (tgt := 18) hx hb dL_changes_9 (by decide) ?_
      refine lv_iconst (v := 0) hx hb dL_changes_18 (by decide) ?_
      exact rc_iret (v := 0) hx hb hr hlocks hw [(h1, .inl (E.2.1 4, 1, .inr (.inl (vp_updL (fun _ => 0) 0 28))))] (Or.inr (Or.inr (Or.inr (Or.inr (Or.inr (Or.inr (Or.inr (Or.inr (Or.inr (Or.inr (Or.inr (Or.inr (Or.inr (Or.inr (Or.inr (Or.inr (Or.inr (Or.inr (Or.inr (Or.inr (Or.inr (Or.inr (Or.inr (Or.inr (Or.inr (Or.inr (Or.inr (Or.inr (Or.inr (Or.inl ⟨c_61, rfl, rfl, rfl⟩)))))))))))))))))))))))))))))) [0] rfl (by decide) (Nat.le_of_ble_eq_true rfl) (Nat.le_of_ble_eq_true rfl) dL_changes_19
    · obtain rfl : x0 = 28 := rc_eqc (b := 28) rfl (by have g_c_64 := rc_g5 (b := 28) c_64 rfl; omega)
      have hw : rc_W E A s [(h1, .inl (E.2.1 4, 1, .inr (.inl (fun _ => 0))))] H locs := hw
      refine lv_i2l (v := 29) hx hb dL_changes_7 (by decide) ?_
      refine rc_last hx hb hAm hw 0 rfl (vp_in_iff.mpr (by decide)) [(h1, .inl (E.2.1 4, 1, .inr (.inl (vp_updL (fun _ => 0) 0 29))))] rfl dL_changes_8 (fun H locs hw => ?_)
      refine lv_goto (tgt := 18) hx hb dL_changes_9 (by decide) ?_
      refine lv_iconst (v := 0) hx hb dL_changes_18 (by decide) ?_
      exact rc_iret (v := 0) hx hb hr hlocks hw [(h1, .inl (E.2.1 4, 1, .inr (.inl (vp_updL (fun _ => 0) 0 29))))] (Or.inr (Or.inr (Or.inr (Or.inr (Or.inr (Or.inr (Or.inr (Or.inr (Or.inr (Or.inr (Or.inr (Or.inr (Or.inr (Or.inr (Or.inr (Or.inr (Or.inr (Or.inr (Or.inr (Or.inr (Or.inr (Or.inr (Or.inr (Or.inr (Or.inr (Or.inr (Or.inr (Or.inr (Or.inr (Or.inr (Or.inl ⟨c_63, rfl, rfl, rfl⟩))))))))))))))))))))))))))))))) [0] rfl (by decide) (Nat.le_of_ble_eq_true rfl) (Nat.le_of_ble_eq_true rfl) dL_changes_19
    · obtain rfl : x0 = 29 := rc_eqc (b := 29) rfl (by have g_c_66 := rc_g5 (b := 29) c_66 rfl; omega)
      have hw : rc_W E A s [(h1, .inl (E.2.1 4, 1, .inr (.inl (fun _ => 0))))] H locs := hw
      refine lv_i2l (v := 30) hx hb dL_changes_7 (by decide) ?_
      refine rc_last hx hb hAm hw 0 rfl (vp_in_iff.mpr (by decide)) [(h1, .inl (E.2.1 4, 1, .inr (.inl (vp_updL (fun _ => 0) 0 30))))] rfl dL_changes_8 (fun H locs hw => ?_)
      refine lv_goto (tgt := 18) hx hb dL_changes_9 (by decide) ?_
      refine lv_iconst (v := 0) hx hb dL_changes_18 (by decide) ?_
      exact rc_iret (v := 0) hx hb hr hlocks hw [(h1, .inl (E.2.1 4, 1, .inr (.inl (vp_updL (fun _ => 0) 0 30))))] (Or.inr (Or.inr (Or.inr (Or.inr (Or.inr (Or.inr (Or.inr (Or.inr (Or.inr (Or.inr (Or.inr (Or.inr (Or.inr (Or.inr (Or.inr (Or.inr (Or.inr (Or.inr (Or.inr (Or.inr (Or.inr (Or.inr (Or.inr (Or.inr (Or.inr (Or.inr (Or.inr (Or.inr (Or.inr (Or.inr (Or.inr (Or.inl ⟨c_65, rfl, rfl, rfl⟩)))))))))))))))))))))))))))))))) [0] rfl (by decide) (Nat.le_of_ble_eq_true rfl) (Nat.le_of_ble_eq_true rfl) dL_changes_19
    · obtain rfl : x0 = 30 := rc_eqc (b := 30) rfl (by have g_c_68 := rc_g5 (b := 30) c_68 rfl; omega)
      have hw : rc_W E A s [(h1, .inl (E.2.1 4, 1, .inr (.inl (fun _ => 0))))] H locs := hw
      refine lv_i2l (v := 31) hx hb dL_changes_7 (by decide) ?_
      refine rc_last hx hb hAm hw 0 rfl (vp_in_iff.mpr (by decide)) [(h1, .inl (E.2.1 4, 1, .inr (.inl (vp_updL (fun _ => 0) 0 31))))] rfl dL_changes_8 (fun H locs hw => ?_)
      refine lv_goto (tgt := 18) hx hb dL_changes_9 (by decide) ?_
      refine lv_iconst (v := 0) hx hb dL_changes_18 (by decide) ?_
      exact rc_iret (v := 0) hx hb hr hlocks hw [(h1, .inl (E.2.1 4, 1, .inr (.inl (vp_updL (fun _ => 0) 0 31))))] (Or.inr (Or.inr (Or.inr (Or.inr (Or.inr (Or.inr (Or.inr (Or.inr (Or.inr (Or.inr (Or.inr (Or.inr (Or.inr (Or.inr (Or.inr (Or.inr (Or.inr (Or.inr (Or.inr (Or.inr (Or.inr (Or.inr (Or.inr (Or.inr (Or.inr (Or.inr (Or.inr (Or.inr (Or.inr (Or.inr (Or.inr (Or.inr (Or.inl ⟨c_67, rfl, rfl, rfl⟩))))))))))))))))))))))))))))))))) [0] rfl (by decide) (Nat.le_of_ble_eq_true rfl) (Nat.le_of_ble_eq_true rfl) dL_changes_19
    · obtain rfl : x0 = 31 := rc_eqc (b := 31) rfl (by have g_c_70 := rc_g5 (b := 31) c_70 rfl; omega)
      have hw : rc_W E A s [(h1, .inl (E.2.1 4, 1, .inr (.inl (fun _ => 0))))] H locs := hw
      refine lv_i2l (v := 32) hx hb dL_changes_7 (by decide) ?_
      refine rc_last hx hb hAm hw 0 rfl (vp_in_iff.mpr (by decide)) [(h1, .inl (E.2.1 4, 1, .inr (.inl (vp_updL (fun _ => 0) 0 32))))] rfl dL_changes_8 (fun H locs hw => ?_)
      refine lv_goto (tgt := 18) hx hb dL_changes_9 (by decide) ?_
      refine lv_iconst (v := 0) hx hb dL_changes_18 (by decide) ?_
      exact rc_iret (v := 0) hx hb hr hlocks hw [(h1, .inl (E.2.1 4, 1, .inr (.inl (vp_updL (fun _ => 0) 0 32))))] (Or.inr (Or.inr (Or.inr (Or.inr (Or.inr (Or.inr (Or.inr (Or.inr (Or.inr (Or.inr (Or.inr (Or.inr (Or.inr (Or.inr (Or.inr (Or.inr (Or.inr (Or.inr (Or.inr (Or.inr (Or.inr (Or.inr (Or.inr (Or.inr (Or.inr (Or.inr (Or.inr (Or.inr (Or.inr (Or.inr (Or.inr (Or.inr (Or.inr (Or.inl ⟨c_69, rfl, rfl, rfl⟩)))))))))))))))))))))))))))))))))) [0] rfl (by decide) (Nat.le_of_ble_eq_true rfl) (Nat.le_of_ble_eq_true rfl) dL_changes_19
    · obtain rfl : x0 = 32 := rc_eqc (b := 32) rfl (by have g_c_72 := rc_g5 (b := 32) c_72 rfl; omega)
      have hw : rc_W E A s [(h1, .inl (E.2.1 4, 1, .inr (.inl (fun _ => 0))))] H locs := hw
      refine lv_i2l (v := 33) hx hb dL_changes_7 (by decide) ?_
      refine rc_last hx hb hAm hw 0 rfl (vp_in_iff.mpr (by decide)) [(h1, .inl (E.2.1 4, 1, .inr (.inl (vp_updL (fun _ => 0) 0 33))))] rfl dL_changes_8 (fun H locs hw => ?_)
      refine lv_goto (tgt := 18) hx hb dL_changes_9 (by decide) ?_
      refine lv_iconst (v := 0) hx hb dL_changes_18 (by decide) ?_
      exact rc_iret (v := 0) hx hb hr hlocks hw [(h1, .inl (E.2.1 4, 1, .inr (.inl (vp_updL (fun _ => 0) 0 33))))] (Or.inr (Or.inr (Or.inr (Or.inr (Or.inr (Or.inr (Or.inr (Or.inr (Or.inr (Or.inr (Or.inr (Or.inr (Or.inr (Or.inr (Or.inr (Or.inr (Or.inr (Or.inr (Or.inr (Or.inr (Or.inr (Or.inr (Or.inr (Or.inr (Or.inr (Or.inr (Or.inr (Or.inr (Or.inr (Or.inr (Or.inr (Or.inr (Or.inr (Or.inr (Or.inl ⟨c_71, rfl, rfl, rfl⟩))))))))))))))))))))))))))))))))))) [0] rfl (by decide) (Nat.le_of_ble_eq_true rfl) (Nat.le_of_ble_eq_true rfl) dL_changes_19
    · obtain rfl : x0 = 33 := rc_eqc (b := 33) rfl (by have g_c_74 := rc_g5 (b := 33) c_74 rfl; omega)
      have hw : rc_W E A s [(h1, .inl (E.2.1 4, 1, .inr (.inl (fun _ => 0))))] H locs := hw
      refine lv_i2l (v := 34) hx hb dL_changes_7 (by decide) ?_
      refine rc_last hx hb hAm hw 0 rfl (vp_in_iff.mpr (by decide)) [(h1, .inl (E.2.1 4, 1, .inr (.inl (vp_updL (fun _ => 0) 0 34))))] rfl dL_changes_8 (fun H locs hw => ?_)
      refine lv_goto (tgt := 18) hx hb dL_changes_9 (by decide) ?_
      refine lv_iconst (v := 0) hx hb dL_changes_18 (by decide) ?_
      exact rc_iret (v := 0) hx hb hr hlocks hw [(h1, .inl (E.2.1 4, 1, .inr (.inl (vp_updL (fun _ => 0) 0 34))))] (Or.inr (Or.inr (Or.inr (Or.inr (Or.inr (Or.inr (Or.inr (Or.inr (Or.inr (Or.inr (Or.inr (Or.inr (Or.inr (Or.inr (Or.inr (Or.inr (Or.inr (Or.inr (Or.inr (Or.inr (Or.inr (Or.inr (Or.inr (Or.inr (Or.inr (Or.inr (Or.inr (Or.inr (Or.inr (Or.inr (Or.inr (Or.inr (Or.inr (Or.inr (Or.inr (Or.inl ⟨c_73, rfl, rfl, rfl⟩)))))))))))))))))))))))))))))))))))) [0] rfl (by decide) (Nat.le_of_ble_eq_true rfl) (Nat.le_of_ble_eq_true rfl) dL_changes_19
    · obtain rfl : x0 = 34 := rc_eqc (b := 34) rfl (by have g_c_76 := rc_g5 (b := 34) c_76 rfl; omega)
      have hw : rc_W E A s [(h1, .inl (E.2.1 4, 1, .inr (.inl (fun _ => 0))))] H locs := hw
      refine lv_i2l (v := 35) hx hb dL_changes_7 (by decide) ?_
      refine rc_last hx hb hAm hw 0 rfl (vp_in_iff.mpr (by decide)) [(h1, .inl (E.2.1 4, 1, .inr (.inl (vp_updL (fun _ => 0) 0 35))))] rfl dL_changes_8 (fun H locs hw => ?_)
      refine lv_goto (tgt := 18) hx hb dL_changes_9 (by decide) ?_
      refine lv_iconst (v := 0) hx hb dL_changes_18 (by decide) ?_
      exact rc_iret (v := 0) hx hb hr hlocks hw [(h1, .inl (E.2.1 4, 1, .inr (.inl (vp_updL (fun _ => 0) 0 35))))] (Or.inr (Or.inr (Or.inr (Or.inr (Or.inr (Or.inr (Or.inr (Or.inr (Or.inr (Or.inr (Or.inr (Or.inr (Or.inr (Or.inr (Or.inr (Or.inr (Or.inr (Or.inr (Or.inr (Or.inr (Or.inr (Or.inr (Or.inr (Or.inr (Or.inr (Or.inr (Or.inr (Or.inr (Or.inr (Or.inr (Or.inr (Or.inr (Or.inr (Or.inr (Or.inr (Or.inr (Or.inl ⟨c_75, rfl, rfl, rfl⟩))))))))))))))))))))))))))))))))))))) [0] rfl (by decide) (Nat.le_of_ble_eq_true rfl) (Nat.le_of_ble_eq_true rfl) dL_changes_19
    · obtain rfl : x0 = 35 := rc_eqc (b := 35) rfl (by have g_c_78 := rc_g5 (b := 35) c_78 rfl; omega)
      have hw : rc_W E A s [(h1, .inl (E.2.1 4, 1, .inr (.inl (fun _ => 0))))] H locs := hw
      refine lv_i2l (v := 36) hx hb dL_changes_7 (by decide) ?_
      refine rc_last hx hb hAm hw 0 rfl (vp_in_iff.mpr (by decide)) [(h1, .inl (E.2.1 4, 1, .inr (.inl (vp_updL (fun _ => 0) 0 36))))] rfl dL_changes_8 (fun H locs hw => ?_)
      refine lv_goto (tgt := 18) hx hb dL_changes_9 (by decide) ?_
      refine lv_iconst (v := 0) hx hb dL_changes_18 (by decide) ?_
      exact rc_iret (v := 0) hx hb hr hlocks hw [(h1, .inl (E.2.1 4, 1, .inr (.inl (vp_updL (fun _ => 0) 0 36))))] (Or.inr (Or.inr (Or.inr (Or.inr (Or.inr (Or.inr (Or.inr (Or.inr (Or.inr (Or.inr (Or.inr (Or.inr (Or.inr (Or.inr (Or.inr (Or.inr (Or.inr (Or.inr (Or.inr (Or.inr (Or.inr (Or.inr (Or.inr (Or.inr (Or.inr (Or.inr (Or.inr (Or.inr (Or.inr (Or.inr (Or.inr (Or.inr (Or.inr (Or.inr (Or.inr (Or.inr (Or.inr (Or.inl ⟨c_77, rfl, rfl, rfl⟩)))))))))))))))))))))))))))))))))))))) [0] rfl (by decide) (Nat.le_of_ble_eq_true rfl) (Nat.le_of_ble_eq_true rfl) dL_changes_19
    · obtain rfl : x0 = 36 := rc_eqc (b := 36) rfl (by have g_c_80 := rc_g5 (b := 36) c_80 rfl; omega)
      have hw : rc_W E A s [(h1, .inl (E.2.1 4, 1, .inr (.inl (fun _ => 0))))] H locs := hw
      refine lv_i2l (v := 37) hx hb dL_changes_7 (by decide) ?_
      refine rc_last hx hb hAm hw 0 rfl (vp_in_iff.mpr (by decide)) [(h1, .inl (E.2.1 4, 1, .inr (.inl (vp_updL (fun _ => 0) 0 37))))] rfl dL_changes_8 (fun H locs hw => ?_)
      refine lv_goto (tgt := 18) hx hb dL_changes_9 (by decide) ?_
      refine lv_iconst (v := 0) hx hb dL_changes_18 (by decide) ?_
      exact rc_iret (v := 0) hx hb hr hlocks hw [(h1, .inl (E.2.1 4, 1, .inr (.inl (vp_updL (fun _ => 0) 0 37))))] (Or.inr (Or.inr (Or.inr (Or.inr (Or.inr (Or.inr (Or.inr (Or.inr (Or.inr (Or.inr (Or.inr (Or.inr (Or.inr (Or.inr (Or.inr (Or.inr (Or.inr (Or.inr (Or.inr (Or.inr (Or.inr (Or.inr (Or.inr (Or.inr (Or.inr (Or.inr (Or.inr (Or.inr (Or.inr (Or.inr (Or.inr (Or.inr (Or.inr (Or.inr (Or.inr (Or.inr (Or.inr (Or.inr (Or.inl ⟨c_79, rfl, rfl, rfl⟩))))))))))))))))))))))))))))))))))))))) [0] rfl (by decide) (Nat.le_of_ble_eq_true rfl) (Nat.le_of_ble_eq_true rfl) dL_changes_19
    · obtain rfl : x0 = 37 := rc_eqc (b := 37) rfl (by have g_c_82 := rc_g5 (b := 37) c_82 rfl; omega)
      have hw : rc_W E A s [(h1, .inl (E.2.1 4, 1, .inr (.inl (fun _ => 0))))] H locs := hw
      refine lv_i2l (v := 38) hx hb dL_changes_7 (by decide) ?_
      refine rc_last hx hb hAm hw 0 rfl (vp_in_iff.mpr (by decide)) [(h1, .inl (E.2.1 4, 1, .inr (.inl (vp_updL (fun _ => 0) 0 38))))] rfl dL_changes_8 (fun H locs hw => ?_)
      refine lv_goto (tgt := 18) hx hb dL_changes_9 (by decide) ?_
      refine lv_iconst (v := 0) hx hb dL_changes_18 (by decide) ?_
      exact rc_iret (v := 0) hx hb hr hlocks hw [(h1, .inl (E.2.1 4, 1, .inr (.inl (vp_updL (fun _ => 0) 0 38))))] (Or.inr (Or.inr (Or.inr (Or.inr (Or.inr (Or.inr (Or.inr (Or.inr (Or.inr (Or.inr (Or.inr (Or.inr (Or.inr (Or.inr (Or.inr (Or.inr (Or.inr (Or.inr (Or.inr (Or.inr (Or.inr (Or.inr (Or.inr (Or.inr (Or.inr (Or.inr (Or.inr (Or.inr (Or.inr (Or.inr (Or.inr (Or.inr (Or.inr (Or.inr (Or.inr (Or.inr (Or.inr (Or.inr (Or.inr (Or.inl ⟨c_81, rfl, rfl, rfl⟩)))))))))))))))))))))))))))))))))))))))) [0] rfl (by decide) (Nat.le_of_ble_eq_true rfl) (Nat.le_of_ble_eq_true rfl) dL_changes_19
    · obtain rfl : x0 = 38 := rc_eqc (b := 38) rfl (by have g_c_84 := rc_g5 (b := 38) c_84 rfl; omega)
      have hw : rc_W E A s [(h1, .inl (E.2.1 4, 1, .inr (.inl (fun _ => 0))))] H locs := hw
      refine lv_i2l (v := 39) hx hb dL_changes_7 (by decide) ?_
      refine rc_last hx hb hAm hw 0 rfl (vp_in_iff.mpr (by decide)) [(h1, .inl (E.2.1 4, 1, .inr (.inl (vp_updL (fun _ => 0) 0 39))))] rfl dL_changes_8 (fun H locs hw => ?_)
      refine lv_goto (tgt := 18) hx hb dL_changes_9 (by decide) ?_
      refine lv_iconst (v := 0) hx hb dL_changes_18 (by decide) ?_
      exact rc_iret (v := 0) hx hb hr hlocks hw [(h1, .inl (E.2.1 4, 1, .inr (.inl (vp_updL (fun _ => 0) 0 39))))] (Or.inr (Or.inr (Or.inr (Or.inr (Or.inr (Or.inr (Or.inr (Or.inr (Or.inr (Or.inr (Or.inr (Or.inr (Or.inr (Or.inr (Or.inr (Or.inr (Or.inr (Or.inr (Or.inr (Or.inr (Or.inr (Or.inr (Or.inr (Or.inr (Or.inr (Or.inr (Or.inr (Or.inr (Or.inr (Or.inr (Or.inr (Or.inr (Or.inr (Or.inr (Or.inr (Or.inr (Or.inr (Or.inr (Or.inr (Or.inr (Or.inl ⟨c_83, rfl, rfl, rfl⟩))))))))))))))))))))))))))))))))))))))))) [0] rfl (by decide) (Nat.le_of_ble_eq_true rfl) (Nat.le_of_ble_eq_true rfl) dL_changes_19
    · obtain rfl : x0 = 39 := rc_eqc (b := 39) rfl (by have g_c_86 := rc_g5 (b := 39) c_86 rfl; omega)
      have hw : rc_W E A s [(h1, .inl (E.2.1 4, 1, .inr (.inl (fun _ => 0))))] H locs := hw
      refine lv_i2l (v := 40) hx hb dL_changes_7 (by decide) ?_
      refine rc_last hx hb hAm hw 0 rfl (vp_in_iff.mpr (by decide)) [(h1, .inl (E.2.1 4, 1, .inr (.inl (vp_updL (fun _ => 0) 0 40))))] rfl dL_changes_8 (fun H locs hw => ?_)
      refine lv_goto (tgt := 18) hx hb dL_changes_9 (by decide) ?_
      refine lv_iconst (v := 0) hx hb dL_changes_18 (by decide) ?_
      exact rc_iret (v := 0) hx hb hr hlocks hw [(h1, .inl (E.2.1 4, 1, .inr (.inl (vp_updL (fun _ => 0) 0 40))))] (Or.inr (Or.inr (Or.inr (Or.inr (Or.inr (Or.inr (Or.inr (Or.inr (Or.inr (Or.inr (Or.inr (Or.inr (Or.inr (Or.inr (Or.inr (Or.inr (Or.inr (Or.inr (Or.inr (Or.inr (Or.inr (Or.inr (Or.inr (Or.inr (Or.inr (Or.inr (Or.inr (Or.inr (Or.inr (Or.inr (Or.inr (Or.inr (Or.inr (Or.inr (Or.inr (Or.inr (Or.inr (Or.inr (Or.inr (Or.inr (Or.inr ⟨c_85, rfl, rfl, rfl⟩))))))))))))))))))))))))))))))))))))))))) [0] rfl (by decide) (Nat.le_of_ble_eq_true rfl) (Nat.le_of_ble_eq_true rfl) dL_changes_19
