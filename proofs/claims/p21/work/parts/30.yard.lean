set_option maxRecDepth 20000 in
theorem mw_X1_waysOf_0 : (.fieldLink RX1 183 "PachisiYard" "WAYS_BY_MOUTHS" "[I" : Cond) ∈ wsX1_waysOf := by decide +kernel
theorem f_X1_waysOf : yX1_waysOf.cls ≠ "java/lang/invoke/MethodHandle" ∧ yX1_waysOf.cls ≠ "java/lang/invoke/VarHandle" ∧ (parseMethodDescriptor yX1_waysOf.desc).map (fun d => d.parameters.length) = some 1 := by decide +kernel
set_option maxHeartbeats 4000000 in
set_option maxRecDepth 100000 in
theorem c_X1_waysOf (l : Launch) (D : va_G) (cI cL : ClassId) (tw : Nat) (m : Int) (hm : 0 ≤ m ∧ m ≤ 6) : RO l yX1_waysOf wsX1_waysOf { frames := 0, cells := 0, slots := 0, locals := 0 } D cI cL tw [.int (iI (m))] [] (fun z : Int => z = wyI m) := by
  refine ro_of (cc := cX1_waysOf) (maxL := 1) (rt := .int) (own := RX1) (by decide) rfl rfl (Or.inl rfl) (Nat.le_of_ble_eq_true rfl) ?_
  intro p e R s mt args below meth c H Q ls S hR hE hP hl hret
  obtain ⟨hx, hb, hml, hown, hts⟩ := id S
  have hl : lv_has ls 1 [(0, .int (iI (m)))] := hl
  refine lv_iload_n hx hb dX1_waysOf_0 rfl (lv_at hl 0 rfl) ?_
  refine r_if_lt (tgt := 20) hx hb dX1_waysOf_1 (by decide) (by unfold rI; omega) (fun h9 => absurd h9 (by omega)) (fun h1 => ?_)
  refine lv_iload_n hx hb dX1_waysOf_4 rfl (lv_at hl 0 rfl) ?_
  refine r_gets hx hb hE hown (hts _ mw_X1_waysOf_0) dX1_waysOf_5 ?_
  refine r_tlen hx hb hE dX1_waysOf_8 ?_
  refine r_icmp_ge (tgt := 20) hx hb dX1_waysOf_9 (by decide) (by unfold rI; omega) (by unfold rI; decide) (fun h9 => absurd h9 (by omega)) (fun h9 => ?_)
  refine r_gets hx hb hE hown (hts _ mw_X1_waysOf_0) dX1_waysOf_12 ?_
  refine lv_iload_n hx hb dX1_waysOf_15 rfl (lv_at hl 0 rfl) ?_
  refine r_tald hx hb hE (i := m) (by omega) (by omega) dX1_waysOf_16 ?_
  refine lv_goto (tgt := 21) hx hb dX1_waysOf_17 (by decide) ?_
  exact hret (wyI (m)) _ _ dX1_waysOf_21 (by rfl)

theorem f_X1_certainty : yX1_certainty.cls ≠ "java/lang/invoke/MethodHandle" ∧ yX1_certainty.cls ≠ "java/lang/invoke/VarHandle" ∧ (parseMethodDescriptor yX1_certainty.desc).map (fun d => d.parameters.length) = some 1 := by decide +kernel
set_option maxHeartbeats 4000000 in
set_option maxRecDepth 100000 in
theorem c_X1_certainty_0 (l : Launch) (D : va_G) (cI cL : ClassId) (tw : Nat)   : RO l yX1_certainty wsX1_certainty { frames := 0, cells := 0, slots := 0, locals := 0 } D cI cL tw [.int (iI (0))] [] (fun z : Int => z = 1) := by
  refine ro_of (cc := cX1_certainty) (maxL := 3) (rt := .int) (own := RX1) (by decide) rfl rfl (Or.inl rfl) (Nat.le_of_ble_eq_true rfl) ?_
  intro p e R s mt args below meth c H Q ls S hR hE hP hl hret
  obtain ⟨hx, hb, hml, hown, hts⟩ := id S
  have hl : lv_has ls 3 [(0, .int (iI (0)))] := hl
  refine r_iconst hx hb dX1_certainty_0 ?_
  refine lv_istore_n (lv' := [(1, .int (iI (1))), (0, .int (iI (0)))]) hx hb dX1_certainty_1 rfl hl (by decide) rfl (fun ls hl => ?_)
  refine lv_iload_n hx hb dX1_certainty_2 rfl (lv_at hl 1 rfl) ?_
  refine lv_istore_n (lv' := [(2, .int (iI (0))), (1, .int (iI (1))), (0, .int (iI (0)))]) hx hb dX1_certainty_3 rfl hl (by decide) rfl (fun ls hl => ?_)
  refine lv_iload_n hx hb dX1_certainty_4 rfl (lv_at hl 0 rfl) ?_
  refine r_if_le (tgt := 19) hx hb dX1_certainty_5 (by decide) (by unfold rI; decide) (fun h5 => ?_) (fun h9 => absurd h9 (by omega))
  refine lv_iload_n hx hb dX1_certainty_19 rfl (lv_at hl 1 rfl) ?_
  exact hret (1) _ _ dX1_certainty_20 (by rfl)

set_option maxHeartbeats 4000000 in
set_option maxRecDepth 100000 in
theorem c_X1_certainty_1 (l : Launch) (D : va_G) (cI cL : ClassId) (tw : Nat)   : RO l yX1_certainty wsX1_certainty { frames := 0, cells := 0, slots := 0, locals := 0 } D cI cL tw [.int (iI (1))] [] (fun z : Int => z = 64) := by
  refine ro_of (cc := cX1_certainty) (maxL := 3) (rt := .int) (own := RX1) (by decide) rfl rfl (Or.inl rfl) (Nat.le_of_ble_eq_true rfl) ?_
  intro p e R s mt args below meth c H Q ls S hR hE hP hl hret
  obtain ⟨hx, hb, hml, hown, hts⟩ := id S
  have hl : lv_has ls 3 [(0, .int (iI (1)))] := hl
  refine r_iconst hx hb dX1_certainty_0 ?_
  refine lv_istore_n (lv' := [(1, .int (iI (1))), (0, .int (iI (1)))]) hx hb dX1_certainty_1 rfl hl (by decide) rfl (fun ls hl => ?_)
  refine lv_iload_n hx hb dX1_certainty_2 rfl (lv_at hl 1 rfl) ?_
  refine lv_istore_n (lv' := [(2, .int (iI (1))), (1, .int (iI (1))), (0, .int (iI (1)))]) hx hb dX1_certainty_3 rfl hl (by decide) rfl (fun ls hl => ?_)
  refine lv_iload_n hx hb dX1_certainty_4 rfl (lv_at hl 0 rfl) ?_
  refine r_if_le (tgt := 19) hx hb dX1_certainty_5 (by decide) (by unfold rI; decide) (fun h9 => absurd h9 (by omega)) (fun h5 => ?_)
  refine lv_iload_n hx hb dX1_certainty_8 rfl (lv_at hl 1 rfl) ?_
  refine r_bipush hx hb dX1_certainty_9 (by decide) ?_
  refine r_imul hx hb dX1_certainty_11 ?_
  refine r_top (64) (by decide) ?_
  refine lv_istore_n (lv' := [(1, .int (iI (64))), (2, .int (iI (1))), (0, .int (iI (1)))]) hx hb dX1_certainty_12 rfl hl (by decide) rfl (fun ls hl => ?_)
  refine lv_iinc (v := iI (0)) (lv' := [(2, .int (iI (0))), (1, .int (iI (64))), (0, .int (iI (1)))]) hx hb dX1_certainty_13 hl (k := 1) rfl (by decide) (by decide) rfl (fun ls hl => ?_)
  refine lv_goto (tgt := 4) hx hb dX1_certainty_16 (by decide) ?_
  refine lv_iload_n hx hb dX1_certainty_4 rfl (lv_at hl 0 rfl) ?_
  refine r_if_le (tgt := 19) hx hb dX1_certainty_5 (by decide) (by unfold rI; decide) (fun h5 => ?_) (fun h9 => absurd h9 (by omega))
  refine lv_iload_n hx hb dX1_certainty_19 rfl (lv_at hl 1 rfl) ?_
  exact hret (64) _ _ dX1_certainty_20 (by rfl)

set_option maxHeartbeats 4000000 in
set_option maxRecDepth 100000 in
theorem c_X1_certainty_2 (l : Launch) (D : va_G) (cI cL : ClassId) (tw : Nat)   : RO l yX1_certainty wsX1_certainty { frames := 0, cells := 0, slots := 0, locals := 0 } D cI cL tw [.int (iI (2))] [] (fun z : Int => z = 4096) := by
  refine ro_of (cc := cX1_certainty) (maxL := 3) (rt := .int) (own := RX1) (by decide) rfl rfl (Or.inl rfl) (Nat.le_of_ble_eq_true rfl) ?_
  intro p e R s mt args below meth c H Q ls S hR hE hP hl hret
  obtain ⟨hx, hb, hml, hown, hts⟩ := id S
  have hl : lv_has ls 3 [(0, .int (iI (2)))] := hl
  refine r_iconst hx hb dX1_certainty_0 ?_
  refine lv_istore_n (lv' := [(1, .int (iI (1))), (0, .int (iI (2)))]) hx hb dX1_certainty_1 rfl hl (by decide) rfl (fun ls hl => ?_)
  refine lv_iload_n hx hb dX1_certainty_2 rfl (lv_at hl 1 rfl) ?_
  refine lv_istore_n (lv' := [(2, .int (iI (2))), (1, .int (iI (1))), (0, .int (iI (2)))]) hx hb dX1_certainty_3 rfl hl (by decide) rfl (fun ls hl => ?_)
  refine lv_iload_n hx hb dX1_certainty_4 rfl (lv_at hl 0 rfl) ?_
  refine r_if_le (tgt := 19) hx hb dX1_certainty_5 (by decide) (by unfold rI; decide) (fun h9 => absurd h9 (by omega)) (fun h5 => ?_)
  refine lv_iload_n hx hb dX1_certainty_8 rfl (lv_at hl 1 rfl) ?_
  refine r_bipush hx hb dX1_certainty_9 (by decide) ?_
  refine r_imul hx hb dX1_certainty_11 ?_
  refine r_top (64) (by decide) ?_
  refine lv_istore_n (lv' := [(1, .int (iI (64))), (2, .int (iI (2))), (0, .int (iI (2)))]) hx hb dX1_certainty_12 rfl hl (by decide) rfl (fun ls hl => ?_)
  refine lv_iinc (v := iI (1)) (lv' := [(2, .int (iI (1))), (1, .int (iI (64))), (0, .int (iI (2)))]) hx hb dX1_certainty_13 hl (k := 1) rfl (by decide) (by decide) rfl (fun ls hl => ?_)
  refine lv_goto (tgt := 4) hx hb dX1_certainty_16 (by decide) ?_
  refine lv_iload_n hx hb dX1_certainty_4 rfl (lv_at hl 0 rfl) ?_
  refine r_if_le (tgt := 19) hx hb dX1_certainty_5 (by decide) (by unfold rI; decide) (fun h9 => absurd h9 (by omega)) (fun h5 => ?_)
  refine lv_iload_n hx hb dX1_certainty_8 rfl (lv_at hl 1 rfl) ?_
  refine r_bipush hx hb dX1_certainty_9 (by decide) ?_
  refine r_imul hx hb dX1_certainty_11 ?_
  refine r_top (4096) (by decide) ?_
  refine lv_istore_n (lv' := [(1, .int (iI (4096))), (2, .int (iI (1))), (0, .int (iI (2)))]) hx hb dX1_certainty_12 rfl hl (by decide) rfl (fun ls hl => ?_)
  refine lv_iinc (v := iI (0)) (lv' := [(2, .int (iI (0))), (1, .int (iI (4096))), (0, .int (iI (2)))]) hx hb dX1_certainty_13 hl (k := 1) rfl (by decide) (by decide) rfl (fun ls hl => ?_)
  refine lv_goto (tgt := 4) hx hb dX1_certainty_16 (by decide) ?_
  refine lv_iload_n hx hb dX1_certainty_4 rfl (lv_at hl 0 rfl) ?_
  refine r_if_le (tgt := 19) hx hb dX1_certainty_5 (by decide) (by unfold rI; decide) (fun h5 => ?_) (fun h9 => absurd h9 (by omega))
  refine lv_iload_n hx hb dX1_certainty_19 rfl (lv_at hl 1 rfl) ?_
  exact hret (4096) _ _ dX1_certainty_20 (by rfl)

set_option maxRecDepth 20000 in
theorem mw_X1_phase_0 : (.fieldLink RX1 27 "PachisiYard" "stage" "I" : Cond) ∈ wsX1_phase := by decide +kernel
set_option maxRecDepth 20000 in
theorem mu_X1_phase_X1 : ∀ w ∈ wsX10, w ∈ wsX1_phase := by decide +kernel
theorem f_X1_phase : yX1_phase.cls ≠ "java/lang/invoke/MethodHandle" ∧ yX1_phase.cls ≠ "java/lang/invoke/VarHandle" ∧ (parseMethodDescriptor yX1_phase.desc).map (fun d => d.parameters.length) = some 0 := by decide +kernel
set_option maxHeartbeats 4000000 in
set_option maxRecDepth 100000 in
theorem c_X1_phase (l : Launch) (D : va_G) (cI cL : ClassId) (tw : Nat) (y0 : Nat) (y2 : Nat) (b : Nat) (pq : Nat) (cq : Nat) (tu : Int) (ph : Int) (mo : Int) (gc : Int) (P : Int → Int) (C : Int → Int) (hB : ∀ i, 0 ≤ P i ∧ P i ≤ 72) (htu : 0 ≤ tu ∧ tu ≤ 3) (hgc : 0 ≤ gc ∧ gc ≤ 2) (hph : 0 ≤ ph ∧ ph ≤ 2) (hmo : 0 ≤ mo ∧ mo ≤ 6) : RO l yX1_phase wsX1_phase { frames := 0, cells := 0, slots := 0, locals := 0 } D cI cL tw [.ref y0] [(y0, .inr (1, [.ref b, .ref y2, .int (iI (tu)), .int (iI (gc)), .int (iI (ph)), .int (iI (mo))])), (y2, .inl (cI, 4, .inl (aI C))), (b, .inr (0, [.ref pq, .ref cq])), (pq, .inl (cI, 16, .inl (aI P))), (cq, .inl (cI, 136, .inl (aI (cnt P))))] (fun z : Int => z = ph) := by
  refine ro_of (cc := cX1_phase) (maxL := 1) (rt := .int) (own := RX1) (by decide) rfl rfl (Or.inl rfl) (Nat.le_of_ble_eq_true rfl) ?_
  intro p e R s mt args below meth c H Q ls S hR hE hP hl hret
  obtain ⟨hx, hb, hml, hown, hts⟩ := id S
  have hl : lv_has ls 1 [(0, .ref y0)] := hl
  refine lv_aload_n hx hb dX1_phase_0 rfl (lv_at hl 0 rfl) ?_
  refine va_get (D := D) (ci := 1) (v := .int (iI (ph))) (C := RX1) (T := TX1) (N := 6) hx hb hts mu_X1_phase_X1 hown hE.1 hP 0 rfl rfl 4 (by decide) (hts _ mw_X1_phase_0) (fun _ h9 => h9) rfl dX1_phase_1 ?_
  exact hret (ph) _ _ dX1_phase_4 (by rfl)

set_option maxRecDepth 20000 in
theorem mw_X1_onTurn_0 : (.fieldLink RX1 20 "PachisiYard" "turn" "I" : Cond) ∈ wsX1_onTurn := by decide +kernel
set_option maxRecDepth 20000 in
theorem mu_X1_onTurn_X1 : ∀ w ∈ wsX10, w ∈ wsX1_onTurn := by decide +kernel
theorem f_X1_onTurn : yX1_onTurn.cls ≠ "java/lang/invoke/MethodHandle" ∧ yX1_onTurn.cls ≠ "java/lang/invoke/VarHandle" ∧ (parseMethodDescriptor yX1_onTurn.desc).map (fun d => d.parameters.length) = some 0 := by decide +kernel
set_option maxHeartbeats 4000000 in
set_option maxRecDepth 100000 in
theorem c_X1_onTurn (l : Launch) (D : va_G) (cI cL : ClassId) (tw : Nat) (y0 : Nat) (y2 : Nat) (b : Nat) (pq : Nat) (cq : Nat) (tu : Int) (ph : Int) (mo : Int) (gc : Int) (P : Int → Int) (C : Int → Int) (hB : ∀ i, 0 ≤ P i ∧ P i ≤ 72) (htu : 0 ≤ tu ∧ tu ≤ 3) (hgc : 0 ≤ gc ∧ gc ≤ 2) (hph : 0 ≤ ph ∧ ph ≤ 2) (hmo : 0 ≤ mo ∧ mo ≤ 6) : RO l yX1_onTurn wsX1_onTurn { frames := 0, cells := 0, slots := 0, locals := 0 } D cI cL tw [.ref y0] [(y0, .inr (1, [.ref b, .ref y2, .int (iI (tu)), .int (iI (gc)), .int (iI (ph)), .int (iI (mo))])), (y2, .inl (cI, 4, .inl (aI C))), (b, .inr (0, [.ref pq, .ref cq])), (pq, .inl (cI, 16, .inl (aI P))), (cq, .inl (cI, 136, .inl (aI (cnt P))))] (fun z : Int => z = tu) := by
  refine ro_of (cc := cX1_onTurn) (maxL := 1) (rt := .int) (own := RX1) (by decide) rfl rfl (Or.inl rfl) (Nat.le_of_ble_eq_true rfl) ?_
  intro p e R s mt args below meth c H Q ls S hR hE hP hl hret
  obtain ⟨hx, hb, hml, hown, hts⟩ := id S
  have hl : lv_has ls 1 [(0, .ref y0)] := hl
  refine lv_aload_n hx hb dX1_onTurn_0 rfl (lv_at hl 0 rfl) ?_
  refine va_get (D := D) (ci := 1) (v := .int (iI (tu))) (C := RX1) (T := TX1) (N := 6) hx hb hts mu_X1_onTurn_X1 hown hE.1 hP 0 rfl rfl 2 (by decide) (hts _ mw_X1_onTurn_0) (fun _ h9 => h9) rfl dX1_onTurn_1 ?_
  exact hret (tu) _ _ dX1_onTurn_4 (by rfl)

set_option maxRecDepth 20000 in
theorem mw_X1_graces_0 : (.fieldLink RX1 24 "PachisiYard" "gracesInRow" "I" : Cond) ∈ wsX1_graces := by decide +kernel
set_option maxRecDepth 20000 in
theorem mu_X1_graces_X1 : ∀ w ∈ wsX10, w ∈ wsX1_graces := by decide +kernel
theorem f_X1_graces : yX1_graces.cls ≠ "java/lang/invoke/MethodHandle" ∧ yX1_graces.cls ≠ "java/lang/invoke/VarHandle" ∧ (parseMethodDescriptor yX1_graces.desc).map (fun d => d.parameters.length) = some 0 := by decide +kernel
set_option maxHeartbeats 4000000 in
set_option maxRecDepth 100000 in
theorem c_X1_graces (l : Launch) (D : va_G) (cI cL : ClassId) (tw : Nat) (y0 : Nat) (y2 : Nat) (b : Nat) (pq : Nat) (cq : Nat) (tu : Int) (ph : Int) (mo : Int) (gc : Int) (P : Int → Int) (C : Int → Int) (hB : ∀ i, 0 ≤ P i ∧ P i ≤ 72) (htu : 0 ≤ tu ∧ tu ≤ 3) (hgc : 0 ≤ gc ∧ gc ≤ 2) (hph : 0 ≤ ph ∧ ph ≤ 2) (hmo : 0 ≤ mo ∧ mo ≤ 6) : RO l yX1_graces wsX1_graces { frames := 0, cells := 0, slots := 0, locals := 0 } D cI cL tw [.ref y0] [(y0, .inr (1, [.ref b, .ref y2, .int (iI (tu)), .int (iI (gc)), .int (iI (ph)), .int (iI (mo))])), (y2, .inl (cI, 4, .inl (aI C))), (b, .inr (0, [.ref pq, .ref cq])), (pq, .inl (cI, 16, .inl (aI P))), (cq, .inl (cI, 136, .inl (aI (cnt P))))] (fun z : Int => z = gc) := by
  refine ro_of (cc := cX1_graces) (maxL := 1) (rt := .int) (own := RX1) (by decide) rfl rfl (Or.inl rfl) (Nat.le_of_ble_eq_true rfl) ?_
  intro p e R s mt args below meth c H Q ls S hR hE hP hl hret
  obtain ⟨hx, hb, hml, hown, hts⟩ := id S
  have hl : lv_has ls 1 [(0, .ref y0)] := hl
  refine lv_aload_n hx hb dX1_graces_0 rfl (lv_at hl 0 rfl) ?_
  refine va_get (D := D) (ci := 1) (v := .int (iI (gc))) (C := RX1) (T := TX1) (N := 6) hx hb hts mu_X1_graces_X1 hown hE.1 hP 0 rfl rfl 3 (by decide) (hts _ mw_X1_graces_0) (fun _ h9 => h9) rfl dX1_graces_1 ?_
  exact hret (gc) _ _ dX1_graces_4 (by rfl)

set_option maxRecDepth 20000 in
theorem mw_X1_mover_0 : (.fieldLink RX1 10 "PachisiYard" "board" "LPachisiYard$Board;" : Cond) ∈ wsX1_mover := by decide +kernel
set_option maxRecDepth 20000 in
theorem mu_X1_mover_X1 : ∀ w ∈ wsX10, w ∈ wsX1_mover := by decide +kernel
set_option maxRecDepth 20000 in
theorem mw_X1_mover_2 : (.fieldLink RX1 20 "PachisiYard" "turn" "I" : Cond) ∈ wsX1_mover := by decide +kernel
theorem f_X1_mover : yX1_mover.cls ≠ "java/lang/invoke/MethodHandle" ∧ yX1_mover.cls ≠ "java/lang/invoke/VarHandle" ∧ (parseMethodDescriptor yX1_mover.desc).map (fun d => d.parameters.length) = some 0 := by decide +kernel
set_option maxHeartbeats 4000000 in
set_option maxRecDepth 100000 in
theorem c_X1_mover (l : Launch) (D : va_G) (cI cL : ClassId) (tw : Nat) (y0 : Nat) (y2 : Nat) (b : Nat) (pq : Nat) (cq : Nat) (tu : Int) (ph : Int) (mo : Int) (gc : Int) (P : Int → Int) (C : Int → Int) (hB : ∀ i, 0 ≤ P i ∧ P i ≤ 72) (htu : 0 ≤ tu ∧ tu ≤ 3) (hgc : 0 ≤ gc ∧ gc ≤ 2) (hph : 0 ≤ ph ∧ ph ≤ 2) (hmo : 0 ≤ mo ∧ mo ≤ 6) : RO l yX1_mover wsX1_mover { frames := 3, cells := 0, slots := 0, locals := 67 } D cI cL tw [.ref y0] [(y0, .inr (1, [.ref b, .ref y2, .int (iI (tu)), .int (iI (gc)), .int (iI (ph)), .int (iI (mo))])), (y2, .inl (cI, 4, .inl (aI C))), (b, .inr (0, [.ref pq, .ref cq])), (pq, .inl (cI, 16, .inl (aI P))), (cq, .inl (cI, 136, .inl (aI (cnt P))))] (fun z : Int => z = mv P tu) := by
  refine ro_of (cc := cX1_mover) (maxL := 1) (rt := .int) (own := RX1) (by decide) rfl rfl (Or.inl rfl) (Nat.le_of_ble_eq_true rfl) ?_
  intro p e R s mt args below meth c H Q ls S hR hE hP hl hret
  obtain ⟨hx, hb, hml, hown, hts⟩ := id S
  have hl : lv_has ls 1 [(0, .ref y0)] := hl
  refine lv_aload_n hx hb dX1_mover_0 rfl (lv_at hl 0 rfl) ?_
  refine va_get (D := D) (ci := 1) (v := .ref b) (C := RX1) (T := TX1) (N := 6) hx hb hts mu_X1_mover_X1 hown hE.1 hP 0 rfl rfl 0 (by decide) (hts _ mw_X1_mover_0) (fun _ h9 => h9) rfl dX1_mover_1 ?_
  refine lv_aload_n hx hb dX1_mover_4 rfl (lv_at hl 0 rfl) ?_
  refine va_get (D := D) (ci := 1) (v := .int (iI (tu))) (C := RX1) (T := TX1) (N := 6) hx hb hts mu_X1_mover_X1 hown hE.1 hP 0 rfl rfl 2 (by decide) (hts _ mw_X1_mover_2) (fun _ h9 => h9) rfl dX1_mover_5 ?_
  refine r_callV (As := [.int (iI (tu))]) (rest := []) S (c_X0_moverFor l D cI cL tw (b) (pq) (cq) (P) (tu) (hB) (by omega)) gX1_mover_X0_moverFor rfl rfl rfl ⟨rfl, f_X0_moverFor⟩ hR (Nat.le_of_ble_eq_true rfl) (Nat.le_of_ble_eq_true rfl) hE hP [2, 3, 4] rfl 0 rfl rfl rfl hl.1 rfl (Nat.le_of_ble_eq_true rfl) dX1_mover_8 ⟨Nat.zero_le _, Nat.zero_le _⟩ (fun z8 hz8 => ?_)
  obtain ⟨hz8, rz8⟩ := hz8
  exact hret (z8) _ _ dX1_mover_11 (by exact hz8)

set_option maxRecDepth 20000 in
theorem mw_X1_winner_0 : (.fieldLink RX1 27 "PachisiYard" "stage" "I" : Cond) ∈ wsX1_winner := by decide +kernel
set_option maxRecDepth 20000 in
theorem mu_X1_winner_X1 : ∀ w ∈ wsX10, w ∈ wsX1_winner := by decide +kernel
set_option maxRecDepth 20000 in
theorem mw_X1_winner_2 : (.fieldLink RX1 20 "PachisiYard" "turn" "I" : Cond) ∈ wsX1_winner := by decide +kernel
theorem f_X1_winner : yX1_winner.cls ≠ "java/lang/invoke/MethodHandle" ∧ yX1_winner.cls ≠ "java/lang/invoke/VarHandle" ∧ (parseMethodDescriptor yX1_winner.desc).map (fun d => d.parameters.length) = some 0 := by decide +kernel
set_option maxHeartbeats 4000000 in
set_option maxRecDepth 100000 in
theorem c_X1_winner (l : Launch) (D : va_G) (cI cL : ClassId) (tw : Nat) (y0 : Nat) (y2 : Nat) (b : Nat) (pq : Nat) (cq : Nat) (tu : Int) (ph : Int) (mo : Int) (gc : Int) (P : Int → Int) (C : Int → Int) (hB : ∀ i, 0 ≤ P i ∧ P i ≤ 72) (htu : 0 ≤ tu ∧ tu ≤ 3) (hgc : 0 ≤ gc ∧ gc ≤ 2) (hph : 0 ≤ ph ∧ ph ≤ 2) (hmo : 0 ≤ mo ∧ mo ≤ 6) : RO l yX1_winner wsX1_winner { frames := 1, cells := 0, slots := 0, locals := 20 } D cI cL tw [.ref y0] [(y0, .inr (1, [.ref b, .ref y2, .int (iI (tu)), .int (iI (gc)), .int (iI (ph)), .int (iI (mo))])), (y2, .inl (cI, 4, .inl (aI C))), (b, .inr (0, [.ref pq, .ref cq])), (pq, .inl (cI, 16, .inl (aI P))), (cq, .inl (cI, 136, .inl (aI (cnt P))))] (fun z : Int => (ph = 2 ∧ z = tu % 2) ∨ (ph ≠ 2 ∧ z = -1)) := by
  refine ro_of (cc := cX1_winner) (maxL := 1) (rt := .int) (own := RX1) (by decide) rfl rfl (Or.inl rfl) (Nat.le_of_ble_eq_true rfl) ?_
  intro p e R s mt args below meth c H Q ls S hR hE hP hl hret
  obtain ⟨hx, hb, hml, hown, hts⟩ := id S
  have hl : lv_has ls 1 [(0, .ref y0)] := hl
  refine lv_aload_n hx hb dX1_winner_0 rfl (lv_at hl 0 rfl) ?_
  refine va_get (D := D) (ci := 1) (v := .int (iI (ph))) (C := RX1) (T := TX1) (N := 6) hx hb hts mu_X1_winner_X1 hown hE.1 hP 0 rfl rfl 4 (by decide) (hts _ mw_X1_winner_0) (fun _ h9 => h9) rfl dX1_winner_1 ?_
  refine r_iconst hx hb dX1_winner_4 ?_
  refine r_icmp_ne (tgt := 18) hx hb dX1_winner_5 (by decide) (by unfold rI; omega) (by unfold rI; decide) (fun h5 => ?_) (fun h5 => ?_)
  · refine r_iconst hx hb dX1_winner_18 ?_
    exact hret (-1) _ _ dX1_winner_19 (by omega)
  · refine lv_aload_n hx hb dX1_winner_8 rfl (lv_at hl 0 rfl) ?_
    refine va_get (D := D) (ci := 1) (v := .int (iI (tu))) (C := RX1) (T := TX1) (N := 6) hx hb hts mu_X1_winner_X1 hown hE.1 hP 0 rfl rfl 2 (by decide) (hts _ mw_X1_winner_2) (fun _ h9 => h9) rfl dX1_winner_9 ?_
    refine r_callS (As := [.int (iI (tu))]) (rest := []) S (c_X1_teamOf l D cI cL tw (tu) (by omega)) gX1_winner_X1_teamOf rfl rfl rfl f_X1_teamOf hR (Nat.le_of_ble_eq_true rfl) (Nat.le_of_ble_eq_true rfl) hE rfl hl.1 rfl (Nat.le_of_ble_eq_true rfl) dX1_winner_12 ⟨Nat.zero_le _, Nat.zero_le _⟩ (fun z12 hz12 => ?_)
    obtain ⟨hz12, rz12⟩ := hz12
    refine lv_goto (tgt := 19) hx hb dX1_winner_15 (by decide) ?_
    exact hret (z12) _ _ dX1_winner_19 (by omega)

set_option maxRecDepth 20000 in
theorem mw_X1_passTurn_0 : (.fieldLink RX1 20 "PachisiYard" "turn" "I" : Cond) ∈ wsX1_passTurn := by decide +kernel
set_option maxRecDepth 20000 in
theorem mu_X1_passTurn_X1 : ∀ w ∈ wsX10, w ∈ wsX1_passTurn := by decide +kernel
set_option maxRecDepth 20000 in
theorem mw_X1_passTurn_2 : (.fieldLink RX1 24 "PachisiYard" "gracesInRow" "I" : Cond) ∈ wsX1_passTurn := by decide +kernel
theorem f_X1_passTurn : yX1_passTurn.cls ≠ "java/lang/invoke/MethodHandle" ∧ yX1_passTurn.cls ≠ "java/lang/invoke/VarHandle" ∧ (parseMethodDescriptor yX1_passTurn.desc).map (fun d => d.parameters.length) = some 0 := by decide +kernel
set_option maxHeartbeats 4000000 in
set_option maxRecDepth 100000 in
theorem c_X1_passTurn (l : Launch) (D : va_G) (cI cL : ClassId) (tw : Nat) (y0 : Nat) (y2 : Nat) (b : Nat) (pq : Nat) (cq : Nat) (tu : Int) (ph : Int) (mo : Int) (gc : Int) (P : Int → Int) (C : Int → Int) (hB : ∀ i, 0 ≤ P i ∧ P i ≤ 72) (htu : 0 ≤ tu ∧ tu ≤ 3) : RWv l yX1_passTurn wsX1_passTurn { frames := 0, cells := 0, slots := 0, locals := 0 } D cI cL tw [.ref y0] [(y0, .inr (1, [.ref b, .ref y2, .int (iI (tu)), .int (iI (gc)), .int (iI (ph)), .int (iI (mo))])), (y2, .inl (cI, 4, .inl (aI C))), (b, .inr (0, [.ref pq, .ref cq])), (pq, .inl (cI, 16, .inl (aI P))), (cq, .inl (cI, 136, .inl (aI (cnt P))))] (fun (u : Unit) => True) (fun u : Unit => [(y0, .inr (1, [.ref b, .ref y2, .int (iI ((tu + 1) % 4)), .int (iI (0)), .int (iI (ph)), .int (iI (mo))])), (y2, .inl (cI, 4, .inl (aI C))), (b, .inr (0, [.ref pq, .ref cq])), (pq, .inl (cI, 16, .inl (aI P))), (cq, .inl (cI, 136, .inl (aI (cnt P))))]) := by
  refine rwv_of (cc := cX1_passTurn) (maxL := 1) (own := RX1) (by decide) rfl rfl (Nat.le_of_ble_eq_true rfl) ?_
  intro p e R s mt args below meth c H0 Q ls A S hR hE hP hD hS hA hl hret
  obtain ⟨hx, hb, hml, hown, hts⟩ := id S
  have hl : lv_has ls 1 [(0, .ref y0)] := hl
  refine lv_aload_n hx hb dX1_passTurn_0 rfl (lv_at hl 0 rfl) ?_
  refine lv_aload_n hx hb dX1_passTurn_1 rfl (lv_at hl 0 rfl) ?_
  refine va_get (D := D) (ci := 1) (v := .int (iI (tu))) (C := RX1) (T := TX1) (N := 6) hx hb hts mu_X1_passTurn_X1 hown hE.1 hP 0 rfl rfl 2 (by decide) (hts _ mw_X1_passTurn_0) (fun _ h9 => h9) rfl dX1_passTurn_2 ?_
  refine r_iconst hx hb dX1_passTurn_5 ?_
  refine r_iadd hx hb dX1_passTurn_6 ?_
  refine r_iconst hx hb dX1_passTurn_7 ?_
  refine r_irem hx hb dX1_passTurn_8 (by omega) (by omega) ?_
  refine va_put (D := D) (ci := 1) (v := .int (iI (((tu) + (1)) % (4)))) (ty := .int) (C := RX1) (T := TX1) (N := 6) hx hb hts mu_X1_passTurn_X1 tyX1 tyX1_ok nmX1 hown hE.1 hP hD hS 0 rfl rfl 2 (by decide) (hts _ mw_X1_passTurn_0) (fun _ h9 => h9) rfl (by decide +kernel) rfl rfl (Nat.le_of_ble_eq_true rfl) dX1_passTurn_9 (fun H locs hP hD hS => ?_)
  have hP : va_P D vwCl [(y0, .inr (1, [.ref b, .ref y2, .int (iI (((tu) + (1)) % (4))), .int (iI (gc)), .int (iI (ph)), .int (iI (mo))])), (y2, .inl (cI, 4, .inl (aI C))), (b, .inr (0, [.ref pq, .ref cq])), (pq, .inl (cI, 16, .inl (aI P))), (cq, .inl (cI, 136, .inl (aI (cnt P))))] H := hP
  have hD : va_D A [(y0, .inr (1, [.ref b, .ref y2, .int (iI (((tu) + (1)) % (4))), .int (iI (gc)), .int (iI (ph)), .int (iI (mo))])), (y2, .inl (cI, 4, .inl (aI C))), (b, .inr (0, [.ref pq, .ref cq])), (pq, .inl (cI, 16, .inl (aI P))), (cq, .inl (cI, 136, .inl (aI (cnt P))))] := hD
  refine lv_aload_n hx hb dX1_passTurn_12 rfl (lv_at hl 0 rfl) ?_
  refine r_iconst hx hb dX1_passTurn_13 ?_
  refine va_put (D := D) (ci := 1) (v := .int (iI (0))) (ty := .int) (C := RX1) (T := TX1) (N := 6) hx hb hts mu_X1_passTurn_X1 tyX1 tyX1_ok nmX1 hown hE.1 hP hD hS 0 rfl rfl 3 (by decide) (hts _ mw_X1_passTurn_2) (fun _ h9 => h9) rfl (by decide +kernel) rfl rfl (Nat.le_of_ble_eq_true rfl) dX1_passTurn_14 (fun H locs hP hD hS => ?_)
  have hP : va_P D vwCl [(y0, .inr (1, [.ref b, .ref y2, .int (iI (((tu) + (1)) % (4))), .int (iI (0)), .int (iI (ph)), .int (iI (mo))])), (y2, .inl (cI, 4, .inl (aI C))), (b, .inr (0, [.ref pq, .ref cq])), (pq, .inl (cI, 16, .inl (aI P))), (cq, .inl (cI, 136, .inl (aI (cnt P))))] H := hP
  have hD : va_D A [(y0, .inr (1, [.ref b, .ref y2, .int (iI (((tu) + (1)) % (4))), .int (iI (0)), .int (iI (ph)), .int (iI (mo))])), (y2, .inl (cI, 4, .inl (aI C))), (b, .inr (0, [.ref pq, .ref cq])), (pq, .inl (cI, 16, .inl (aI P))), (cq, .inl (cI, 136, .inl (aI (cnt P))))] := hD
  exact hret  () _ _ _ _ dX1_passTurn_17 (by trivial) hP hD hS

set_option maxRecDepth 20000 in
theorem mw_X1_countCapture_0 : (.fieldLink RX1 16 "PachisiYard" "captureCounts" "[I" : Cond) ∈ wsX1_countCapture := by decide +kernel
set_option maxRecDepth 20000 in
theorem mu_X1_countCapture_X1 : ∀ w ∈ wsX10, w ∈ wsX1_countCapture := by decide +kernel
theorem f_X1_countCapture : yX1_countCapture.cls ≠ "java/lang/invoke/MethodHandle" ∧ yX1_countCapture.cls ≠ "java/lang/invoke/VarHandle" ∧ (parseMethodDescriptor yX1_countCapture.desc).map (fun d => d.parameters.length) = some 1 := by decide +kernel
set_option maxHeartbeats 4000000 in
set_option maxRecDepth 100000 in
theorem c_X1_countCapture (l : Launch) (D : va_G) (cI cL : ClassId) (tw : Nat) (y0 : Nat) (y2 : Nat) (b : Nat) (pq : Nat) (cq : Nat) (tu : Int) (ph : Int) (mo : Int) (gc : Int) (P : Int → Int) (C : Int → Int) (t : Int) (hB : ∀ i, 0 ≤ P i ∧ P i ≤ 72) (ht : 0 ≤ t ∧ t ≤ 3) : RWv l yX1_countCapture wsX1_countCapture { frames := 0, cells := 0, slots := 0, locals := 0 } D cI cL tw [.ref y0, .int (iI (t))] [(y0, .inr (1, [.ref b, .ref y2, .int (iI (tu)), .int (iI (gc)), .int (iI (ph)), .int (iI (mo))])), (y2, .inl (cI, 4, .inl (aI C))), (b, .inr (0, [.ref pq, .ref cq])), (pq, .inl (cI, 16, .inl (aI P))), (cq, .inl (cI, 136, .inl (aI (cnt P))))] (fun (u : Unit) => True) (fun u : Unit => [(y0, .inr (1, [.ref b, .ref y2, .int (iI (tu)), .int (iI (gc)), .int (iI (ph)), .int (iI (mo))])), (y2, .inl (cI, 4, .inl (aI (uI C (t) (C (t) + 1))))), (b, .inr (0, [.ref pq, .ref cq])), (pq, .inl (cI, 16, .inl (aI P))), (cq, .inl (cI, 136, .inl (aI (cnt P))))]) := by
  refine rwv_of (cc := cX1_countCapture) (maxL := 2) (own := RX1) (by decide) rfl rfl (Nat.le_of_ble_eq_true rfl) ?_
  intro p e R s mt args below meth c H0 Q ls A S hR hE hP hD hS hA hl hret
  obtain ⟨hx, hb, hml, hown, hts⟩ := id S
  have hl : lv_has ls 2 [(0, .ref y0), (1, .int (iI (t)))] := hl
  refine lv_iload_n hx hb dX1_countCapture_0 rfl (lv_at hl 1 rfl) ?_
  refine r_if_lt (tgt := 23) hx hb dX1_countCapture_1 (by decide) (by unfold rI; omega) (fun h9 => absurd h9 (by omega)) (fun h1 => ?_)
  refine lv_iload_n hx hb dX1_countCapture_4 rfl (lv_at hl 1 rfl) ?_
  refine lv_aload_n hx hb dX1_countCapture_5 rfl (lv_at hl 0 rfl) ?_
  refine va_get (D := D) (ci := 1) (v := .ref y2) (C := RX1) (T := TX1) (N := 6) hx hb hts mu_X1_countCapture_X1 hown hE.1 hP 0 rfl rfl 1 (by decide) (hts _ mw_X1_countCapture_0) (fun _ h9 => h9) rfl dX1_countCapture_6 ?_
  refine r_alen hx hb hE.1 hP 1 rfl dX1_countCapture_9 ?_
  refine r_top 4 rfl ?_
  refine r_icmp_ge (tgt := 23) hx hb dX1_countCapture_10 (by decide) (by unfold rI; omega) (by unfold rI; decide) (fun h9 => absurd h9 (by omega)) (fun h10 => ?_)
  refine lv_aload_n hx hb dX1_countCapture_13 rfl (lv_at hl 0 rfl) ?_
  refine va_get (D := D) (ci := 1) (v := .ref y2) (C := RX1) (T := TX1) (N := 6) hx hb hts mu_X1_countCapture_X1 hown hE.1 hP 0 rfl rfl 1 (by decide) (hts _ mw_X1_countCapture_0) (fun _ h9 => h9) rfl dX1_countCapture_14 ?_
  refine lv_iload_n hx hb dX1_countCapture_17 rfl (lv_at hl 1 rfl) ?_
  refine lv_dup2_11 hx hb dX1_countCapture_18 rfl rfl ?_
  refine r_iald hx hb hE.1 hP 1 rfl (i := t) (by omega) (by omega) (by decide) dX1_countCapture_19 ?_
  refine r_iconst hx hb dX1_countCapture_20 ?_
  refine r_iadd hx hb dX1_countCapture_21 ?_
  refine r_iast hx hb hE.1 hP hD hS 1 (P := C) rfl (i := t) (v := (C (t)) + (1)) (by omega) (by omega) (by decide) (ws1 := [(y0, .inr (1, [.ref b, .ref y2, .int (iI (tu)), .int (iI (gc)), .int (iI (ph)), .int (iI (mo))])), (y2, .inl (cI, 4, .inl (aI (uI C (t) ((C (t)) + (1)))))), (b, .inr (0, [.ref pq, .ref cq])), (pq, .inl (cI, 16, .inl (aI P))), (cq, .inl (cI, 136, .inl (aI (cnt P))))]) rfl dX1_countCapture_22 (fun H locs hP hD hS => ?_)
  exact hret  () _ _ _ _ dX1_countCapture_23 (by trivial) hP hD hS

set_option maxRecDepth 20000 in
theorem mw_X1_endMove_0 : (.fieldLink RX1 10 "PachisiYard" "board" "LPachisiYard$Board;" : Cond) ∈ wsX1_endMove := by decide +kernel
set_option maxRecDepth 20000 in
theorem mu_X1_endMove_X1 : ∀ w ∈ wsX10, w ∈ wsX1_endMove := by decide +kernel
set_option maxRecDepth 20000 in
theorem mw_X1_endMove_2 : (.fieldLink RX1 20 "PachisiYard" "turn" "I" : Cond) ∈ wsX1_endMove := by decide +kernel
set_option maxRecDepth 20000 in
theorem mw_X1_endMove_3 : (.fieldLink RX1 27 "PachisiYard" "stage" "I" : Cond) ∈ wsX1_endMove := by decide +kernel
set_option maxRecDepth 20000 in
theorem mw_X1_endMove_4 : (.fieldLink RX1 30 "PachisiYard" "mouthsThrown" "I" : Cond) ∈ wsX1_endMove := by decide +kernel
theorem f_X1_endMove : yX1_endMove.cls ≠ "java/lang/invoke/MethodHandle" ∧ yX1_endMove.cls ≠ "java/lang/invoke/VarHandle" ∧ (parseMethodDescriptor yX1_endMove.desc).map (fun d => d.parameters.length) = some 1 := by decide +kernel
set_option maxHeartbeats 4000000 in
set_option maxRecDepth 100000 in
theorem c_X1_endMove (l : Launch) (D : va_G) (cI cL : ClassId) (tw : Nat) (y0 : Nat) (y2 : Nat) (b : Nat) (pq : Nat) (cq : Nat) (tu : Int) (ph : Int) (mo : Int) (gc : Int) (P : Int → Int) (C : Int → Int) (cp : Int) (hB : ∀ i, 0 ≤ P i ∧ P i ≤ 72) (htu : 0 ≤ tu ∧ tu ≤ 3) (hgc : 0 ≤ gc ∧ gc ≤ 2) (hph : 0 ≤ ph ∧ ph ≤ 2) (hmo : 0 ≤ mo ∧ mo ≤ 6) (hcp : 0 ≤ cp ∧ cp ≤ 1) : RWv l yX1_endMove wsX1_endMove { frames := 3, cells := 0, slots := 0, locals := 67 } D cI cL tw [.ref y0, .int (iI (cp))] [(y0, .inr (1, [.ref b, .ref y2, .int (iI (tu)), .int (iI (gc)), .int (iI (ph)), .int (iI (mo))])), (y2, .inl (cI, 4, .inl (aI C))), (b, .inr (0, [.ref pq, .ref cq])), (pq, .inl (cI, 16, .inl (aI P))), (cq, .inl (cI, 136, .inl (aI (cnt P))))] (fun (u : Int × Int × Int) => (won P tu ∧ u.2.2 = 2 ∧ u.1 = tu ∧ u.2.1 = gc) ∨ (¬ won P tu ∧ u.2.2 = 0 ∧ ((cp ≠ 0 ∨ mo ≤ 1 ∨ mo = 6) ∧ u.1 = tu ∧ u.2.1 = gc ∨ cp = 0 ∧ ¬ (mo ≤ 1 ∨ mo = 6) ∧ u.1 = (tu + 1) % 4 ∧ u.2.1 = 0))) (fun u : Int × Int × Int => [(y0, .inr (1, [.ref b, .ref y2, .int (iI (u.1)), .int (iI (u.2.1)), .int (iI (u.2.2)), .int (iI (mo))])), (y2, .inl (cI, 4, .inl (aI C))), (b, .inr (0, [.ref pq, .ref cq])), (pq, .inl (cI, 16, .inl (aI P))), (cq, .inl (cI, 136, .inl (aI (cnt P))))]) := by
  refine rwv_of (cc := cX1_endMove) (maxL := 2) (own := RX1) (by decide) rfl rfl (Nat.le_of_ble_eq_true rfl) ?_
  intro p e R s mt args below meth c H0 Q ls A S hR hE hP hD hS hA hl hret
  obtain ⟨hx, hb, hml, hown, hts⟩ := id S
  have hl : lv_has ls 2 [(0, .ref y0), (1, .int (iI (cp)))] := hl
  refine lv_aload_n hx hb dX1_endMove_0 rfl (lv_at hl 0 rfl) ?_
  refine va_get (D := D) (ci := 1) (v := .ref b) (C := RX1) (T := TX1) (N := 6) hx hb hts mu_X1_endMove_X1 hown hE.1 hP 0 rfl rfl 0 (by decide) (hts _ mw_X1_endMove_0) (fun _ h9 => h9) rfl dX1_endMove_1 ?_
  refine lv_aload_n hx hb dX1_endMove_4 rfl (lv_at hl 0 rfl) ?_
  refine va_get (D := D) (ci := 1) (v := .int (iI (tu))) (C := RX1) (T := TX1) (N := 6) hx hb hts mu_X1_endMove_X1 hown hE.1 hP 0 rfl rfl 2 (by decide) (hts _ mw_X1_endMove_2) (fun _ h9 => h9) rfl dX1_endMove_5 ?_
  refine r_callV (As := [.int (iI (tu))]) (rest := []) S (c_X0_isTeamHome l D cI cL tw (b) (pq) (cq) (P) (tu) (hB) (by omega)) gX1_endMove_X0_isTeamHome rfl rfl rfl ⟨rfl, f_X0_isTeamHome⟩ hR (Nat.le_of_ble_eq_true rfl) (Nat.le_of_ble_eq_true rfl) (hE.kept hS.2.1) hP [2, 3, 4] rfl 0 rfl rfl rfl hl.1 rfl (Nat.le_of_ble_eq_true rfl) dX1_endMove_8 ⟨Nat.zero_le _, Nat.zero_le _⟩ (fun z8 hz8 => ?_)
  rcases hz8 with ⟨rfl, hz8⟩ | ⟨rfl, hz8⟩
  · refine r_if_eq (tgt := 20) hx hb dX1_endMove_11 (by decide) (by unfold rI; decide) (fun h9 => absurd h9 (by omega)) (fun h11 => ?_)
    refine lv_aload_n hx hb dX1_endMove_14 rfl (lv_at hl 0 rfl) ?_
    refine r_iconst hx hb dX1_endMove_15 ?_
    refine va_put (D := D) (ci := 1) (v := .int (iI (2))) (ty := .int) (C := RX1) (T := TX1) (N := 6) hx hb hts mu_X1_endMove_X1 tyX1 tyX1_ok nmX1 hown hE.1 hP hD hS 0 rfl rfl 4 (by decide) (hts _ mw_X1_endMove_3) (fun _ h9 => h9) rfl (by decide +kernel) rfl rfl (Nat.le_of_ble_eq_true rfl) dX1_endMove_16 (fun H locs hP hD hS => ?_)
    have hP : va_P D vwCl [(y0, .inr (1, [.ref b, .ref y2, .int (iI (tu)), .int (iI (gc)), .int (iI (2)), .int (iI (mo))])), (y2, .inl (cI, 4, .inl (aI C))), (b, .inr (0, [.ref pq, .ref cq])), (pq, .inl (cI, 16, .inl (aI P))), (cq, .inl (cI, 136, .inl (aI (cnt P))))] H := hP
    have hD : va_D A [(y0, .inr (1, [.ref b, .ref y2, .int (iI (tu)), .int (iI (gc)), .int (iI (2)), .int (iI (mo))])), (y2, .inl (cI, 4, .inl (aI C))), (b, .inr (0, [.ref pq, .ref cq])), (pq, .inl (cI, 16, .inl (aI P))), (cq, .inl (cI, 136, .inl (aI (cnt P))))] := hD
    exact hret  (tu, gc, 2) _ _ _ _ dX1_endMove_19 (by (try dsimp only); exact Or.inl ⟨hz8, rfl, rfl, rfl⟩) hP hD hS
  · refine r_if_eq (tgt := 20) hx hb dX1_endMove_11 (by decide) (by unfold rI; decide) (fun h11 => ?_) (fun h9 => absurd h9 (by omega))
    refine lv_aload_n hx hb dX1_endMove_20 rfl (lv_at hl 0 rfl) ?_
    refine r_iconst hx hb dX1_endMove_21 ?_
    refine va_put (D := D) (ci := 1) (v := .int (iI (0))) (ty := .int) (C := RX1) (T := TX1) (N := 6) hx hb hts mu_X1_endMove_X1 tyX1 tyX1_ok nmX1 hown hE.1 hP hD hS 0 rfl rfl 4 (by decide) (hts _ mw_X1_endMove_3) (fun _ h9 => h9) rfl (by decide +kernel) rfl rfl (Nat.le_of_ble_eq_true rfl) dX1_endMove_22 (fun H locs hP hD hS => ?_)
    have hP : va_P D vwCl [(y0, .inr (1, [.ref b, .ref y2, .int (iI (tu)), .int (iI (gc)), .int (iI (0)), .int (iI (mo))])), (y2, .inl (cI, 4, .inl (aI C))), (b, .inr (0, [.ref pq, .ref cq])), (pq, .inl (cI, 16, .inl (aI P))), (cq, .inl (cI, 136, .inl (aI (cnt P))))] H := hP
    have hD : va_D A [(y0, .inr (1, [.ref b, .ref y2, .int (iI (tu)), .int (iI (gc)), .int (iI (0)), .int (iI (mo))])), (y2, .inl (cI, 4, .inl (aI C))), (b, .inr (0, [.ref pq, .ref cq])), (pq, .inl (cI, 16, .inl (aI P))), (cq, .inl (cI, 136, .inl (aI (cnt P))))] := hD
    refine lv_iload_n hx hb dX1_endMove_25 rfl (lv_at hl 1 rfl) ?_
    refine r_if_ne (tgt := 43) hx hb dX1_endMove_26 (by decide) (by unfold rI; omega) (fun h26 => ?_) (fun h26 => ?_)
    · exact hret  (tu, gc, 0) _ _ _ _ dX1_endMove_43 (by (try dsimp only); exact Or.inr ⟨hz8, rfl, Or.inl ⟨Or.inl (by omega), rfl, rfl⟩⟩) hP hD hS
    · refine lv_aload_n hx hb dX1_endMove_29 rfl (lv_at hl 0 rfl) ?_
      refine va_get (D := D) (ci := 1) (v := .int (iI (mo))) (C := RX1) (T := TX1) (N := 6) hx hb hts mu_X1_endMove_X1 hown hE.1 hP 0 rfl rfl 5 (by decide) (hts _ mw_X1_endMove_4) (fun _ h9 => h9) rfl dX1_endMove_30 ?_
      refine r_callS (As := [.int (iI (mo))]) (rest := []) S (c_X1_isGrace l D cI cL tw (mo) (by omega)) gX1_endMove_X1_isGrace rfl rfl rfl f_X1_isGrace hR (Nat.le_of_ble_eq_true rfl) (Nat.le_of_ble_eq_true rfl) (hE.kept hS.2.1) rfl hl.1 rfl (Nat.le_of_ble_eq_true rfl) dX1_endMove_33 ⟨Nat.zero_le _, Nat.zero_le _⟩ (fun z33 hz33 => ?_)
      rcases hz33 with ⟨rfl, hz33⟩ | ⟨rfl, hz33⟩
      · refine r_if_ne (tgt := 43) hx hb dX1_endMove_36 (by decide) (by unfold rI; decide) (fun h36 => ?_) (fun h9 => absurd h9 (by omega))
        exact hret  (tu, gc, 0) _ _ _ _ dX1_endMove_43 (by (try dsimp only); exact Or.inr ⟨hz8, rfl, Or.inl ⟨Or.inr hz33, rfl, rfl⟩⟩) hP hD hS
      · refine r_if_ne (tgt := 43) hx hb dX1_endMove_36 (by decide) (by unfold rI; decide) (fun h9 => absurd h9 (by omega)) (fun h36 => ?_)
        refine lv_aload_n hx hb dX1_endMove_39 rfl (lv_at hl 0 rfl) ?_
        refine r_callVv (As := []) (rest := []) (wr := []) S (c_X1_passTurn l D cI cL tw (y0) (y2) (b) (pq) (cq) (tu) (0) (mo) (gc) (P) (C) (hB) (by omega)) gX1_endMove_X1_passTurn rfl rfl rfl ⟨rfl, f_X1_passTurn⟩ hR (Nat.le_of_ble_eq_true rfl) (Nat.le_of_ble_eq_true rfl) (hE.kept hS.2.1) hP hD hS hA [0, 1, 2, 3, 4] [] rfl rfl (by decide) rfl (by decide) (by decide) 0 rfl rfl rfl hl.1 rfl (Nat.le_of_ble_eq_true rfl) dX1_endMove_40 ⟨Nat.zero_le _, Nat.zero_le _⟩ (fun u40 H locs hz40 hP hD hS => ?_)
        have hP : va_P D vwCl [(y0, .inr (1, [.ref b, .ref y2, .int (iI ((tu + 1) % 4)), .int (iI (0)), .int (iI (0)), .int (iI (mo))])), (y2, .inl (cI, 4, .inl (aI C))), (b, .inr (0, [.ref pq, .ref cq])), (pq, .inl (cI, 16, .inl (aI P))), (cq, .inl (cI, 136, .inl (aI (cnt P))))] H := hP.sub [0, 1, 2, 3, 4] rfl
        have hD : va_D A [(y0, .inr (1, [.ref b, .ref y2, .int (iI ((tu + 1) % 4)), .int (iI (0)), .int (iI (0)), .int (iI (mo))])), (y2, .inl (cI, 4, .inl (aI C))), (b, .inr (0, [.ref pq, .ref cq])), (pq, .inl (cI, 16, .inl (aI P))), (cq, .inl (cI, 136, .inl (aI (cnt P))))] := hD.sub [0, 1, 2, 3, 4] (by decide) rfl
        exact hret  ((tu + 1) % 4, 0, 0) _ _ _ _ dX1_endMove_43 (by (try dsimp only); exact Or.inr ⟨hz8, rfl, Or.inr ⟨by omega, hz33, rfl, rfl⟩⟩) hP hD hS

theorem f_X1_chanceWithin : yX1_chanceWithin.cls ≠ "java/lang/invoke/MethodHandle" ∧ yX1_chanceWithin.cls ≠ "java/lang/invoke/VarHandle" ∧ (parseMethodDescriptor yX1_chanceWithin.desc).map (fun d => d.parameters.length) = some 2 := by decide +kernel
set_option maxHeartbeats 4000000 in
set_option maxRecDepth 100000 in
theorem c_X1_chanceWithin_0 (l : Launch) (D : va_G) (cI cL : ClassId) (tw : Nat) (y0 : Nat) (y2 : Nat) (b : Nat) (pq : Nat) (cq : Nat) (tu : Int) (ph : Int) (mo : Int) (gc : Int) (P : Int → Int) (C : Int → Int) (g : Int) (hB : ∀ i, 0 ≤ P i ∧ P i ≤ 72) (htu : 0 ≤ tu ∧ tu ≤ 3) (hg : 0 ≤ g ∧ g ≤ 2) : RWi l yX1_chanceWithin wsX1_chanceWithin { frames := 0, cells := 0, slots := 0, locals := 0 } D cI cL tw [.ref y0, .int (iI (0)), .int (iI (g))] [(y0, .inr (1, [.ref b, .ref y2, .int (iI (tu)), .int (iI (gc)), .int (iI (ph)), .int (iI (mo))])), (y2, .inl (cI, 4, .inl (aI C))), (b, .inr (0, [.ref pq, .ref cq])), (pq, .inl (cI, 16, .inl (aI P))), (cq, .inl (cI, 136, .inl (aI (cnt P))))] (fun (z : Int) (u : Unit) => z = ch tu 0 g P) (fun u : Unit => [(y0, .inr (1, [.ref b, .ref y2, .int (iI (tu)), .int (iI (gc)), .int (iI (ph)), .int (iI (mo))])), (y2, .inl (cI, 4, .inl (aI C))), (b, .inr (0, [.ref pq, .ref cq])), (pq, .inl (cI, 16, .inl (aI P))), (cq, .inl (cI, 136, .inl (aI (cnt P))))]) := by
  refine rwi_of (cc := cX1_chanceWithin) (maxL := 5) (rt := .int) (own := RX1) (by decide) rfl rfl (Or.inl rfl) (Nat.le_of_ble_eq_true rfl) ?_
  intro p e R s mt args below meth c H0 Q ls A S hR hE hP hD hS hA hl hret
  obtain ⟨hx, hb, hml, hown, hts⟩ := id S
  have hl : lv_has ls 5 [(0, .ref y0), (1, .int (iI (0))), (2, .int (iI (g)))] := hl
  refine lv_iload_n hx hb dX1_chanceWithin_0 rfl (lv_at hl 1 rfl) ?_
  refine r_if_gt (tgt := 6) hx hb dX1_chanceWithin_1 (by decide) (by unfold rI; decide) (fun h9 => absurd h9 (by omega)) (fun h1 => ?_)
  refine r_iconst hx hb dX1_chanceWithin_4 ?_
  exact hret (0) () _ _ _ _ dX1_chanceWithin_5 (by rfl) hP hD hS

set_option maxRecDepth 20000 in
theorem mw_X1_chanceAfter_0_0 : (.fieldLink RX1 10 "PachisiYard" "board" "LPachisiYard$Board;" : Cond) ∈ wsX1_chanceAfter := by decide +kernel
set_option maxRecDepth 20000 in
theorem mu_X1_chanceAfter_0_X1 : ∀ w ∈ wsX10, w ∈ wsX1_chanceAfter := by decide +kernel
set_option maxRecDepth 20000 in
theorem mw_X1_chanceAfter_0_2 : (.fieldLink RX1 20 "PachisiYard" "turn" "I" : Cond) ∈ wsX1_chanceAfter := by decide +kernel
theorem f_X1_chanceAfter : yX1_chanceAfter.cls ≠ "java/lang/invoke/MethodHandle" ∧ yX1_chanceAfter.cls ≠ "java/lang/invoke/VarHandle" ∧ (parseMethodDescriptor yX1_chanceAfter.desc).map (fun d => d.parameters.length) = some 3 := by decide +kernel
set_option maxHeartbeats 4000000 in
set_option maxRecDepth 100000 in
theorem c_X1_chanceAfter_0 (l : Launch) (D : va_G) (cI cL : ClassId) (tw : Nat) (y0 : Nat) (y2 : Nat) (b : Nat) (pq : Nat) (cq : Nat) (tu : Int) (ph : Int) (mo : Int) (gc : Int) (P : Int → Int) (C : Int → Int) (m : Int) (g : Int) (hB : ∀ i, 0 ≤ P i ∧ P i ≤ 72) (htu : 0 ≤ tu ∧ tu ≤ 3) (hg : 0 ≤ g ∧ g ≤ 2) (hm : 0 ≤ m ∧ m ≤ 6) : RWi l yX1_chanceAfter wsX1_chanceAfter { frames := 4, cells := 0, slots := 0, locals := 106 } D cI cL tw [.ref y0, .int (iI (m)), .int (iI (0)), .int (iI (g))] [(y0, .inr (1, [.ref b, .ref y2, .int (iI (tu)), .int (iI (gc)), .int (iI (ph)), .int (iI (mo))])), (y2, .inl (cI, 4, .inl (aI C))), (b, .inr (0, [.ref pq, .ref cq])), (pq, .inl (cI, 16, .inl (aI P))), (cq, .inl (cI, 136, .inl (aI (cnt P))))] (fun (z : Int) (u : Unit) => z = chA tu g 0 (ch tu 0) P m) (fun u : Unit => [(y0, .inr (1, [.ref b, .ref y2, .int (iI (tu)), .int (iI (gc)), .int (iI (ph)), .int (iI (mo))])), (y2, .inl (cI, 4, .inl (aI C))), (b, .inr (0, [.ref pq, .ref cq])), (pq, .inl (cI, 16, .inl (aI P))), (cq, .inl (cI, 136, .inl (aI (cnt P))))]) := by
  refine rwi_of (cc := cX1_chanceAfter) (maxL := 4) (rt := .int) (own := RX1) (by decide) rfl rfl (Or.inl rfl) (Nat.le_of_ble_eq_true rfl) ?_
  intro p e R s mt args below meth c H0 Q ls A S hR hE hP hD hS hA hl hret
  obtain ⟨hx, hb, hml, hown, hts⟩ := id S
  have hl : lv_has ls 4 [(0, .ref y0), (1, .int (iI (m))), (2, .int (iI (0))), (3, .int (iI (g)))] := hl
  refine lv_iload_n hx hb dX1_chanceAfter_0 rfl (lv_at hl 1 rfl) ?_
  refine lv_iload_n hx hb dX1_chanceAfter_1 rfl (lv_at hl 3 rfl) ?_
  refine r_callS (As := [.int (iI (m)), .int (iI (g))]) (rest := []) S (c_X1_isGraceTooMany l D cI cL tw (m) (g) (by omega) (by omega)) gX1_chanceAfter_X1_isGraceTooMany rfl rfl rfl f_X1_isGraceTooMany hR (Nat.le_of_ble_eq_true rfl) (Nat.le_of_ble_eq_true rfl) (hE.kept hS.2.1) rfl hl.1 rfl (Nat.le_of_ble_eq_true rfl) dX1_chanceAfter_2 ⟨Nat.zero_le _, Nat.zero_le _⟩ (fun z2 hz2 => ?_)
  rcases hz2 with ⟨rfl, hz2⟩ | ⟨rfl, hz2⟩
  · refine r_if_eq (tgt := 10) hx hb dX1_chanceAfter_5 (by decide) (by unfold rI; decide) (fun h9 => absurd h9 (by omega)) (fun h5 => ?_)
    refine r_iconst hx hb dX1_chanceAfter_8 ?_
    exact hret (0) () _ _ _ _ dX1_chanceAfter_9 (by exact (chA_lost hz2).symm) hP hD hS
  · refine r_if_eq (tgt := 10) hx hb dX1_chanceAfter_5 (by decide) (by unfold rI; decide) (fun h5 => ?_) (fun h9 => absurd h9 (by omega))
    refine lv_aload_n hx hb dX1_chanceAfter_10 rfl (lv_at hl 0 rfl) ?_
    refine va_get (D := D) (ci := 1) (v := .ref b) (C := RX1) (T := TX1) (N := 6) hx hb hts mu_X1_chanceAfter_0_X1 hown hE.1 hP 0 rfl rfl 0 (by decide) (hts _ mw_X1_chanceAfter_0_0) (fun _ h9 => h9) rfl dX1_chanceAfter_11 ?_
    refine r_iconst hx hb dX1_chanceAfter_14 ?_
    refine lv_aload_n hx hb dX1_chanceAfter_15 rfl (lv_at hl 0 rfl) ?_
    refine va_get (D := D) (ci := 1) (v := .ref b) (C := RX1) (T := TX1) (N := 6) hx hb hts mu_X1_chanceAfter_0_X1 hown hE.1 hP 0 rfl rfl 0 (by decide) (hts _ mw_X1_chanceAfter_0_0) (fun _ h9 => h9) rfl dX1_chanceAfter_16 ?_
    refine lv_aload_n hx hb dX1_chanceAfter_19 rfl (lv_at hl 0 rfl) ?_
    refine va_get (D := D) (ci := 1) (v := .int (iI (tu))) (C := RX1) (T := TX1) (N := 6) hx hb hts mu_X1_chanceAfter_0_X1 hown hE.1 hP 0 rfl rfl 2 (by decide) (hts _ mw_X1_chanceAfter_0_2) (fun _ h9 => h9) rfl dX1_chanceAfter_20 ?_
    refine r_callV (As := [.int (iI (tu))]) (rest := [.int (iI (1)), .ref b]) S (c_X0_moverFor l D cI cL tw (b) (pq) (cq) (P) (tu) (hB) (by omega)) gX1_chanceAfter_X0_moverFor rfl rfl rfl ⟨rfl, f_X0_moverFor⟩ hR (Nat.le_of_ble_eq_true rfl) (Nat.le_of_ble_eq_true rfl) (hE.kept hS.2.1) hP [2, 3, 4] rfl 0 rfl rfl rfl hl.1 rfl (Nat.le_of_ble_eq_true rfl) dX1_chanceAfter_23 ⟨Nat.zero_le _, Nat.zero_le _⟩ (fun z23 hz23 => ?_)
    obtain ⟨hz23, rz23⟩ := hz23
    refine lv_iload_n hx hb dX1_chanceAfter_26 rfl (lv_at hl 1 rfl) ?_
    refine r_callV (As := [.int (iI (1)), .int (iI (z23)), .int (iI (m))]) (rest := []) S (c_X0_canDo l D cI cL tw (b) (pq) (cq) (P) (1) (z23) (m) (hB) (by omega) (by omega) (by omega)) gX1_chanceAfter_X0_canDo rfl rfl rfl ⟨rfl, f_X0_canDo⟩ hR (Nat.le_of_ble_eq_true rfl) (Nat.le_of_ble_eq_true rfl) (hE.kept hS.2.1) hP [2, 3, 4] rfl 0 rfl rfl rfl hl.1 rfl (Nat.le_of_ble_eq_true rfl) dX1_chanceAfter_27 ⟨Nat.zero_le _, Nat.zero_le _⟩ (fun z27 hz27 => ?_)
    rcases hz27 with ⟨rfl, hz27⟩ | ⟨rfl, hz27⟩
    · refine r_if_eq (tgt := 38) hx hb dX1_chanceAfter_30 (by decide) (by unfold rI; decide) (fun h9 => absurd h9 (by omega)) (fun h30 => ?_)
      refine lv_iload_n hx hb dX1_chanceAfter_33 rfl (lv_at hl 2 rfl) ?_
      refine r_callS (As := [.int (iI (0))]) (rest := []) S (c_X1_certainty_0 l D cI cL tw ) gX1_chanceAfter_X1_certainty rfl rfl rfl f_X1_certainty hR (Nat.le_of_ble_eq_true rfl) (Nat.le_of_ble_eq_true rfl) (hE.kept hS.2.1) rfl hl.1 rfl (Nat.le_of_ble_eq_true rfl) dX1_chanceAfter_34 ⟨Nat.zero_le _, Nat.zero_le _⟩ (fun z34 hz34 => ?_)
      exact hret (z34) () _ _ _ _ dX1_chanceAfter_37 (by rw [hz34]; exact ((chA_cap hz2 (by rw [← hz23]; exact hz27)).trans (by decide)).symm) hP hD hS
    · refine r_if_eq (tgt := 38) hx hb dX1_chanceAfter_30 (by decide) (by unfold rI; decide) (fun h30 => ?_) (fun h9 => absurd h9 (by omega))
      refine lv_iload_n hx hb dX1_chanceAfter_38 rfl (lv_at hl 1 rfl) ?_
      refine r_callS (As := [.int (iI (m))]) (rest := []) S (c_X1_isGrace l D cI cL tw (m) (by omega)) gX1_chanceAfter_X1_isGrace rfl rfl rfl f_X1_isGrace hR (Nat.le_of_ble_eq_true rfl) (Nat.le_of_ble_eq_true rfl) (hE.kept hS.2.1) rfl hl.1 rfl (Nat.le_of_ble_eq_true rfl) dX1_chanceAfter_39 ⟨Nat.zero_le _, Nat.zero_le _⟩ (fun z39 hz39 => ?_)
      rcases hz39 with ⟨rfl, hz39⟩ | ⟨rfl, hz39⟩
      · refine r_if_eq (tgt := 49) hx hb dX1_chanceAfter_42 (by decide) (by unfold rI; decide) (fun h9 => absurd h9 (by omega)) (fun h42 => ?_)
        refine lv_iload_n hx hb dX1_chanceAfter_45 rfl (lv_at hl 2 rfl) ?_
        refine r_if_gt (tgt := 51) hx hb dX1_chanceAfter_46 (by decide) (by unfold rI; decide) (fun h9 => absurd h9 (by omega)) (fun h46 => ?_)
        refine r_iconst hx hb dX1_chanceAfter_49 ?_
        exact hret (0) () _ _ _ _ dX1_chanceAfter_50 (by exact (chA_end (by rw [← hz23]; exact hz27) (Or.inr rfl)).symm) hP hD hS
      · refine r_if_eq (tgt := 49) hx hb dX1_chanceAfter_42 (by decide) (by unfold rI; decide) (fun h42 => ?_) (fun h9 => absurd h9 (by omega))
        refine r_iconst hx hb dX1_chanceAfter_49 ?_
        exact hret (0) () _ _ _ _ dX1_chanceAfter_50 (by exact (chA_end (by rw [← hz23]; exact hz27) (Or.inr rfl)).symm) hP hD hS

set_option maxHeartbeats 4000000 in
set_option maxRecDepth 100000 in
theorem c_X1_chanceWithin_1 (l : Launch) (D : va_G) (cI cL : ClassId) (tw : Nat) (y0 : Nat) (y2 : Nat) (b : Nat) (pq : Nat) (cq : Nat) (tu : Int) (ph : Int) (mo : Int) (gc : Int) (P : Int → Int) (C : Int → Int) (g : Int) (hB : ∀ i, 0 ≤ P i ∧ P i ≤ 72) (htu : 0 ≤ tu ∧ tu ≤ 3) (hg : 0 ≤ g ∧ g ≤ 2) : RWi l yX1_chanceWithin wsX1_chanceWithin { frames := 5, cells := 0, slots := 0, locals := 129 } D cI cL tw [.ref y0, .int (iI (1)), .int (iI (g))] [(y0, .inr (1, [.ref b, .ref y2, .int (iI (tu)), .int (iI (gc)), .int (iI (ph)), .int (iI (mo))])), (y2, .inl (cI, 4, .inl (aI C))), (b, .inr (0, [.ref pq, .ref cq])), (pq, .inl (cI, 16, .inl (aI P))), (cq, .inl (cI, 136, .inl (aI (cnt P))))] (fun (z : Int) (u : Unit) => z = ch tu 1 g P) (fun u : Unit => [(y0, .inr (1, [.ref b, .ref y2, .int (iI (tu)), .int (iI (gc)), .int (iI (ph)), .int (iI (mo))])), (y2, .inl (cI, 4, .inl (aI C))), (b, .inr (0, [.ref pq, .ref cq])), (pq, .inl (cI, 16, .inl (aI P))), (cq, .inl (cI, 136, .inl (aI (cnt P))))]) := by
  refine rwi_of (cc := cX1_chanceWithin) (maxL := 5) (rt := .int) (own := RX1) (by decide) rfl rfl (Or.inl rfl) (Nat.le_of_ble_eq_true rfl) ?_
  intro p e R s mt args below meth c H0 Q ls A S hR hE hP hD hS hA hl hret
  obtain ⟨hx, hb, hml, hown, hts⟩ := id S
  have hl : lv_has ls 5 [(0, .ref y0), (1, .int (iI (1))), (2, .int (iI (g)))] := hl
  refine lv_iload_n hx hb dX1_chanceWithin_0 rfl (lv_at hl 1 rfl) ?_
  refine r_if_gt (tgt := 6) hx hb dX1_chanceWithin_1 (by decide) (by unfold rI; decide) (fun h1 => ?_) (fun h9 => absurd h9 (by omega))
  refine r_iconst hx hb dX1_chanceWithin_6 ?_
  refine lv_istore_n (lv' := [(3, .int (iI (0))), (0, .ref y0), (1, .int (iI (1))), (2, .int (iI (g)))]) hx hb dX1_chanceWithin_7 rfl hl (by decide) rfl (fun ls hl => ?_)
  refine r_iconst hx hb dX1_chanceWithin_8 ?_
  refine lv_istore (lv' := [(4, .int (iI (0))), (3, .int (iI (0))), (0, .ref y0), (1, .int (iI (1))), (2, .int (iI (g)))]) hx hb dX1_chanceWithin_9 hl (by decide) rfl (fun ls hl => ?_)
  have lp_11 : ∀ (d_11 : Nat) (n : Int) (k : Int), (d_11 : Int) = 7 - k → (0 ≤ k ∧ k ≤ 7) → (n = sZ (fun m => wyI m * chA tu g 0 (ch tu 0) P m) k) → ∀ (H : Heap) (locs : List Loc), va_P D vwCl [(y0, .inr (1, [.ref b, .ref y2, .int (iI (tu)), .int (iI (gc)), .int (iI (ph)), .int (iI (mo))])), (y2, .inl (cI, 4, .inl (aI C))), (b, .inr (0, [.ref pq, .ref cq])), (pq, .inl (cI, 16, .inl (aI P))), (cq, .inl (cI, 136, .inl (aI (cnt P))))] H → va_D A [(y0, .inr (1, [.ref b, .ref y2, .int (iI (tu)), .int (iI (gc)), .int (iI (ph)), .int (iI (mo))])), (y2, .inl (cI, 4, .inl (aI C))), (b, .inr (0, [.ref pq, .ref cq])), (pq, .inl (cI, 16, .inl (aI P))), (cq, .inl (cI, 136, .inl (aI (cnt P))))] → va_S A H0 H locs → ∀ ls : Array Slot, lv_has ls 5 [(4, .int (iI (k))), (3, .int (iI (n))), (0, .ref y0), (1, .int (iI (1))), (2, .int (iI (g)))] → W p l e R s mt args below meth c H locs 0 0 Q (F0 mt 11 ls []) := by
    intro d_11
    induction d_11 using Nat.strongRecOn with
    | ind d_11 ih_11 =>
    intro n k hd_11 hk hn H locs hP hD hS ls hl
    refine lv_iload hx hb dX1_chanceWithin_11 (lv_at hl 0 rfl) ?_
    refine r_bipush hx hb dX1_chanceWithin_13 (by decide) ?_
    refine r_icmp_gt (tgt := 43) hx hb dX1_chanceWithin_15 (by decide) (by unfold rI; omega) (by unfold rI; decide) (fun h15 => ?_) (fun h15 => ?_)
    · refine lv_iload_n hx hb dX1_chanceWithin_43 rfl (lv_at hl 1 rfl) ?_
      exact hret (n) () _ _ _ _ dX1_chanceWithin_44 (by have e : k = 7 := (by omega); subst e; exact hn) hP hD hS
    · refine lv_iload_n hx hb dX1_chanceWithin_18 rfl (lv_at hl 1 rfl) ?_
      refine lv_iload hx hb dX1_chanceWithin_19 (lv_at hl 0 rfl) ?_
      refine r_callS (As := [.int (iI (k))]) (rest := [.int (iI (n))]) S (c_X1_waysOf l D cI cL tw (k) (by omega)) gX1_chanceWithin_X1_waysOf rfl rfl rfl f_X1_waysOf hR (Nat.le_of_ble_eq_true rfl) (Nat.le_of_ble_eq_true rfl) (hE.kept hS.2.1) rfl hl.1 rfl (Nat.le_of_ble_eq_true rfl) dX1_chanceWithin_21 ⟨Nat.zero_le _, Nat.zero_le _⟩ (fun z21 hz21 => ?_)
      refine lv_aload_n hx hb dX1_chanceWithin_24 rfl (lv_at hl 2 rfl) ?_
      refine lv_iload hx hb dX1_chanceWithin_25 (lv_at hl 0 rfl) ?_
      refine lv_iload_n hx hb dX1_chanceWithin_27 rfl (lv_at hl 3 rfl) ?_
      refine r_iconst hx hb dX1_chanceWithin_28 ?_
      refine r_isub hx hb dX1_chanceWithin_29 ?_
      refine r_top (0) (by decide) ?_
      refine lv_iload_n hx hb dX1_chanceWithin_30 rfl (lv_at hl 4 rfl) ?_
      refine r_callVi (As := [.int (iI (k)), .int (iI (0)), .int (iI (g))]) (rest := [.int (iI (z21)), .int (iI (n))]) (wr := []) S (c_X1_chanceAfter_0 l D cI cL tw (y0) (y2) (b) (pq) (cq) (tu) (ph) (mo) (gc) (P) (C) (k) (g) (hB) (by omega) (by omega) (by omega)) gX1_chanceWithin_X1_chanceAfter rfl rfl rfl ⟨rfl, f_X1_chanceAfter⟩ hR (Nat.le_of_ble_eq_true rfl) (Nat.le_of_ble_eq_true rfl) (hE.kept hS.2.1) hP hD hS hA [0, 1, 2, 3, 4] [] rfl rfl (by decide) rfl (by decide) (by decide) 0 rfl rfl rfl hl.1 rfl (Nat.le_of_ble_eq_true rfl) dX1_chanceWithin_31 ⟨Nat.zero_le _, Nat.zero_le _⟩ (fun z31 u31 H locs hz31 hP hD hS => ?_)
      have hP : va_P D vwCl [(y0, .inr (1, [.ref b, .ref y2, .int (iI (tu)), .int (iI (gc)), .int (iI (ph)), .int (iI (mo))])), (y2, .inl (cI, 4, .inl (aI C))), (b, .inr (0, [.ref pq, .ref cq])), (pq, .inl (cI, 16, .inl (aI P))), (cq, .inl (cI, 136, .inl (aI (cnt P))))] H := hP.sub [0, 1, 2, 3, 4] rfl
      have hD : va_D A [(y0, .inr (1, [.ref b, .ref y2, .int (iI (tu)), .int (iI (gc)), .int (iI (ph)), .int (iI (mo))])), (y2, .inl (cI, 4, .inl (aI C))), (b, .inr (0, [.ref pq, .ref cq])), (pq, .inl (cI, 16, .inl (aI P))), (cq, .inl (cI, 136, .inl (aI (cnt P))))] := hD.sub [0, 1, 2, 3, 4] (by decide) rfl
      refine r_imul hx hb dX1_chanceWithin_34 ?_
      refine r_iadd hx hb dX1_chanceWithin_35 ?_
      refine lv_istore_n (lv' := [(3, .int (iI ((n) + ((z21) * (z31))))), (4, .int (iI (k))), (0, .ref y0), (1, .int (iI (1))), (2, .int (iI (g)))]) hx hb dX1_chanceWithin_36 rfl hl (by decide) rfl (fun ls hl => ?_)
      refine lv_iinc (v := iI (k + 1)) (lv' := [(4, .int (iI (k + 1))), (3, .int (iI ((n) + ((z21) * (z31))))), (0, .ref y0), (1, .int (iI (1))), (2, .int (iI (g)))]) hx hb dX1_chanceWithin_37 hl (k := 1) rfl (iI_add _ _) (by decide) rfl (fun ls hl => ?_)
      refine lv_goto (tgt := 11) hx hb dX1_chanceWithin_40 (by decide) ?_
      exact ih_11 (7 - (k + 1) : Int).toNat (nlt (by omega) hd_11 (by omega)) ((n) + ((z21) * (z31))) (k + 1) (Int.toNat_of_nonneg (by omega)) (by omega) (by rw [sZ_s _ (by omega), ← hn]; show _ = n + wyI k * chA tu g 0 (ch tu 0) P k; rw [← hz31, ← hz21]) _ _ hP hD hS ls (lv_sub hl [0, 1, 2, 3, 4] rfl)
  exact lp_11 (7 - (0) : Int).toNat (0) (0) (Int.toNat_of_nonneg (by omega)) (by omega) ((sZ_0 _).symm) _ _ hP hD hS ls (lv_sub hl [0, 1, 2, 3, 4] rfl)

set_option maxRecDepth 20000 in
theorem mw_X1_chanceAfterGrace_1_0 : (.fieldLink RX1 10 "PachisiYard" "board" "LPachisiYard$Board;" : Cond) ∈ wsX1_chanceAfterGrace := by decide +kernel
set_option maxRecDepth 20000 in
theorem mu_X1_chanceAfterGrace_1_X1 : ∀ w ∈ wsX10, w ∈ wsX1_chanceAfterGrace := by decide +kernel
set_option maxRecDepth 20000 in
theorem mw_X1_chanceAfterGrace_1_2 : (.fieldLink RX1 20 "PachisiYard" "turn" "I" : Cond) ∈ wsX1_chanceAfterGrace := by decide +kernel
set_option maxRecDepth 20000 in
theorem mw_X1_chanceAfterGrace_1_3 : (.methodLink RX1 178 Lib.Math.max.name : Cond) ∈ wsX1_chanceAfterGrace := by decide +kernel
set_option maxRecDepth 20000 in
theorem mw_X1_chanceAfterGrace_1_4 : (.static Lib.Math.max.name : Cond) ∈ wsX1_chanceAfterGrace := by decide +kernel
set_option maxRecDepth 20000 in
theorem mw_X1_chanceAfterGrace_1_5 : (.initialized "java/lang/Math" : Cond) ∈ wsX1_chanceAfterGrace := by decide +kernel
set_option maxRecDepth 20000 in
theorem mw_X1_chanceAfterGrace_1_6 : (.code Lib.Math.max.name Lib.Math.max.code 2 (some .int) : Cond) ∈ wsX1_chanceAfterGrace := by decide +kernel
theorem f_X1_chanceAfterGrace : yX1_chanceAfterGrace.cls ≠ "java/lang/invoke/MethodHandle" ∧ yX1_chanceAfterGrace.cls ≠ "java/lang/invoke/VarHandle" ∧ (parseMethodDescriptor yX1_chanceAfterGrace.desc).map (fun d => d.parameters.length) = some 3 := by decide +kernel
set_option maxHeartbeats 4000000 in
set_option maxRecDepth 100000 in
theorem c_X1_chanceAfterGrace_1 (l : Launch) (D : va_G) (cI cL : ClassId) (tw : Nat) (y0 : Nat) (y2 : Nat) (b : Nat) (pq : Nat) (cq : Nat) (tu : Int) (ph : Int) (mo : Int) (gc : Int) (P : Int → Int) (C : Int → Int) (m : Int) (g : Int) (hB : ∀ i, 0 ≤ P i ∧ P i ≤ 72) (htu : 0 ≤ tu ∧ tu ≤ 3) (hg : 0 ≤ g ∧ g ≤ 2) (hm : 0 ≤ m ∧ m ≤ 6) : RWi l yX1_chanceAfterGrace wsX1_chanceAfterGrace { frames := 6, cells := 0, slots := 0, locals := 153 } D cI cL tw [.ref y0, .int (iI (m)), .int (iI (1)), .int (iI (g))] [(y0, .inr (1, [.ref b, .ref y2, .int (iI (tu)), .int (iI (gc)), .int (iI (ph)), .int (iI (mo))])), (y2, .inl (cI, 4, .inl (aI C))), (b, .inr (0, [.ref pq, .ref cq])), (pq, .inl (cI, 16, .inl (aI P))), (cq, .inl (cI, 136, .inl (aI (cnt P))))] (fun (z : Int) (u : Unit) => z = chGn (ch tu 1 g) P (mv P tu) m 4) (fun u : Unit => [(y0, .inr (1, [.ref b, .ref y2, .int (iI (tu)), .int (iI (gc)), .int (iI (ph)), .int (iI (mo))])), (y2, .inl (cI, 4, .inl (aI C))), (b, .inr (0, [.ref pq, .ref cq])), (pq, .inl (cI, 16, .inl (aI P))), (cq, .inl (cI, 136, .inl (aI (cnt P))))]) := by
  refine rwi_of (cc := cX1_chanceAfterGrace) (maxL := 9) (rt := .int) (own := RX1) (by decide) rfl rfl (Or.inl rfl) (Nat.le_of_ble_eq_true rfl) ?_
  intro p e R s mt args below meth c H0 Q ls A S hR hE hP hD hS hA hl hret
  obtain ⟨hx, hb, hml, hown, hts⟩ := id S
  have hl : lv_has ls 9 [(0, .ref y0), (1, .int (iI (m))), (2, .int (iI (1))), (3, .int (iI (g)))] := hl
  refine lv_aload_n hx hb dX1_chanceAfterGrace_0 rfl (lv_at hl 0 rfl) ?_
  refine va_get (D := D) (ci := 1) (v := .ref b) (C := RX1) (T := TX1) (N := 6) hx hb hts mu_X1_chanceAfterGrace_1_X1 hown hE.1 hP 0 rfl rfl 0 (by decide) (hts _ mw_X1_chanceAfterGrace_1_0) (fun _ h9 => h9) rfl dX1_chanceAfterGrace_1 ?_
  refine lv_aload_n hx hb dX1_chanceAfterGrace_4 rfl (lv_at hl 0 rfl) ?_
  refine va_get (D := D) (ci := 1) (v := .int (iI (tu))) (C := RX1) (T := TX1) (N := 6) hx hb hts mu_X1_chanceAfterGrace_1_X1 hown hE.1 hP 0 rfl rfl 2 (by decide) (hts _ mw_X1_chanceAfterGrace_1_2) (fun _ h9 => h9) rfl dX1_chanceAfterGrace_5 ?_
  refine r_callV (As := [.int (iI (tu))]) (rest := []) S (c_X0_moverFor l D cI cL tw (b) (pq) (cq) (P) (tu) (hB) (by omega)) gX1_chanceAfterGrace_X0_moverFor rfl rfl rfl ⟨rfl, f_X0_moverFor⟩ hR (Nat.le_of_ble_eq_true rfl) (Nat.le_of_ble_eq_true rfl) (hE.kept hS.2.1) hP [2, 3, 4] rfl 0 rfl rfl rfl hl.1 rfl (Nat.le_of_ble_eq_true rfl) dX1_chanceAfterGrace_8 ⟨Nat.zero_le _, Nat.zero_le _⟩ (fun z8 hz8 => ?_)
  obtain ⟨hz8, rz8⟩ := hz8
  refine lv_istore (lv' := [(4, .int (iI (z8))), (0, .ref y0), (1, .int (iI (m))), (2, .int (iI (1))), (3, .int (iI (g)))]) hx hb dX1_chanceAfterGrace_11 hl (by decide) rfl (fun ls hl => ?_)
  refine lv_aload_n hx hb dX1_chanceAfterGrace_13 rfl (lv_at hl 1 rfl) ?_
  refine va_get (D := D) (ci := 1) (v := .ref b) (C := RX1) (T := TX1) (N := 6) hx hb hts mu_X1_chanceAfterGrace_1_X1 hown hE.1 hP 0 rfl rfl 0 (by decide) (hts _ mw_X1_chanceAfterGrace_1_0) (fun _ h9 => h9) rfl dX1_chanceAfterGrace_14 ?_
  refine lv_iload hx hb dX1_chanceAfterGrace_17 (lv_at hl 0 rfl) ?_
  refine lv_iload_n hx hb dX1_chanceAfterGrace_19 rfl (lv_at hl 2 rfl) ?_
  refine r_callV (As := [.int (iI (z8)), .int (iI (m))]) (rest := []) S (c_X0_movableSet l D cI cL tw (b) (pq) (cq) (P) (z8) (m) (hB) (by omega) (by omega)) gX1_chanceAfterGrace_X0_movableSet rfl rfl rfl ⟨rfl, f_X0_movableSet⟩ hR (Nat.le_of_ble_eq_true rfl) (Nat.le_of_ble_eq_true rfl) (hE.kept hS.2.1) hP [2, 3, 4] rfl 0 rfl rfl rfl hl.1 rfl (Nat.le_of_ble_eq_true rfl) dX1_chanceAfterGrace_20 ⟨Nat.zero_le _, Nat.zero_le _⟩ (fun z20 hz20 => ?_)
  obtain ⟨hz20, rz20⟩ := hz20
  refine r_if_ne (tgt := 33) hx hb dX1_chanceAfterGrace_23 (by decide) (by unfold rI; omega) (fun h23 => ?_) (fun h23 => ?_)
  · refine r_iconst hx hb dX1_chanceAfterGrace_33 ?_
    refine lv_istore (lv' := [(5, .int (iI (0))), (4, .int (iI (z8))), (0, .ref y0), (1, .int (iI (m))), (2, .int (iI (1))), (3, .int (iI (g)))]) hx hb dX1_chanceAfterGrace_34 hl (by decide) rfl (fun ls hl => ?_)
    refine r_iconst hx hb dX1_chanceAfterGrace_36 ?_
    refine lv_istore (lv' := [(6, .int (iI (0))), (5, .int (iI (0))), (4, .int (iI (z8))), (0, .ref y0), (1, .int (iI (m))), (2, .int (iI (1))), (3, .int (iI (g)))]) hx hb dX1_chanceAfterGrace_37 hl (by decide) rfl (fun ls hl => ?_)
    have lp_39 : ∀ (d_39 : Nat) (best : Int) (j : Int), (d_39 : Int) = 4 - j → (0 ≤ j ∧ j ≤ 4) → (best = chGn (ch tu 1 g) P z8 m j ∧ 0 ≤ best ∧ best ≤ 64) → ∀ (H : Heap) (locs : List Loc), va_P D vwCl [(y0, .inr (1, [.ref b, .ref y2, .int (iI (tu)), .int (iI (gc)), .int (iI (ph)), .int (iI (mo))])), (y2, .inl (cI, 4, .inl (aI C))), (b, .inr (0, [.ref pq, .ref cq])), (pq, .inl (cI, 16, .inl (aI P))), (cq, .inl (cI, 136, .inl (aI (cnt P))))] H → va_D A [(y0, .inr (1, [.ref b, .ref y2, .int (iI (tu)), .int (iI (gc)), .int (iI (ph)), .int (iI (mo))])), (y2, .inl (cI, 4, .inl (aI C))), (b, .inr (0, [.ref pq, .ref cq])), (pq, .inl (cI, 16, .inl (aI P))), (cq, .inl (cI, 136, .inl (aI (cnt P))))] → va_S A H0 H locs → ∀ ls : Array Slot, lv_has ls 9 [(6, .int (iI (j))), (5, .int (iI (best))), (4, .int (iI (z8))), (0, .ref y0), (1, .int (iI (m))), (2, .int (iI (1))), (3, .int (iI (g)))] → W p l e R s mt args below meth c H locs 0 0 Q (F0 mt 39 ls []) := by
      intro d_39
      induction d_39 using Nat.strongRecOn with
      | ind d_39 ih_39 =>
      intro best j hd_39 hj hbst H locs hP hD hS ls hl
      refine lv_iload hx hb dX1_chanceAfterGrace_39 (lv_at hl 0 rfl) ?_
      refine r_iconst hx hb dX1_chanceAfterGrace_41 ?_
      refine r_icmp_ge (tgt := 123) hx hb dX1_chanceAfterGrace_42 (by decide) (by unfold rI; omega) (by unfold rI; decide) (fun h42 => ?_) (fun h42 => ?_)
      · refine lv_iload hx hb dX1_chanceAfterGrace_123 (lv_at hl 1 rfl) ?_
        exact hret (best) () _ _ _ _ dX1_chanceAfterGrace_125 (by have e : j = 4 := (by omega); subst e; rw [← hz8]; exact hbst.1) hP hD hS
      · refine lv_aload_n hx hb dX1_chanceAfterGrace_45 rfl (lv_at hl 3 rfl) ?_
        refine va_get (D := D) (ci := 1) (v := .ref b) (C := RX1) (T := TX1) (N := 6) hx hb hts mu_X1_chanceAfterGrace_1_X1 hown hE.1 hP 0 rfl rfl 0 (by decide) (hts _ mw_X1_chanceAfterGrace_1_0) (fun _ h9 => h9) rfl dX1_chanceAfterGrace_46 ?_
        refine lv_iload hx hb dX1_chanceAfterGrace_49 (lv_at hl 2 rfl) ?_
        refine lv_iload hx hb dX1_chanceAfterGrace_51 (lv_at hl 0 rfl) ?_
        refine lv_iload_n hx hb dX1_chanceAfterGrace_53 rfl (lv_at hl 4 rfl) ?_
        refine r_callV (As := [.int (iI (z8)), .int (iI (j)), .int (iI (m))]) (rest := []) S (c_X0_targetOf l D cI cL tw (b) (pq) (cq) (P) (z8) (j) (m) (hB) (by omega) (by omega) (by omega)) gX1_chanceAfterGrace_X0_targetOf rfl rfl rfl ⟨rfl, f_X0_targetOf⟩ hR (Nat.le_of_ble_eq_true rfl) (Nat.le_of_ble_eq_true rfl) (hE.kept hS.2.1) hP [2, 3, 4] rfl 0 rfl rfl rfl hl.1 rfl (Nat.le_of_ble_eq_true rfl) dX1_chanceAfterGrace_54 ⟨Nat.zero_le _, Nat.zero_le _⟩ (fun z54 hz54 => ?_)
        obtain ⟨hz54, rz54⟩ := hz54
        refine lv_istore (lv' := [(7, .int (iI (z54))), (6, .int (iI (j))), (5, .int (iI (best))), (4, .int (iI (z8))), (0, .ref y0), (1, .int (iI (m))), (2, .int (iI (1))), (3, .int (iI (g)))]) hx hb dX1_chanceAfterGrace_57 hl (by decide) rfl (fun ls hl => ?_)
        refine lv_iload hx hb dX1_chanceAfterGrace_59 (lv_at hl 0 rfl) ?_
        refine r_iconst hx hb dX1_chanceAfterGrace_61 ?_
        refine r_icmp_eq (tgt := 117) hx hb dX1_chanceAfterGrace_62 (by decide) (by unfold rI; omega) (by unfold rI; decide) (fun h62 => ?_) (fun h62 => ?_)
        · refine lv_iinc (v := iI (j + 1)) (lv' := [(6, .int (iI (j + 1))), (7, .int (iI (z54))), (5, .int (iI (best))), (4, .int (iI (z8))), (0, .ref y0), (1, .int (iI (m))), (2, .int (iI (1))), (3, .int (iI (g)))]) hx hb dX1_chanceAfterGrace_117 hl (k := 1) rfl (iI_add _ _) (by decide) rfl (fun ls hl => ?_)
          refine lv_goto (tgt := 39) hx hb dX1_chanceAfterGrace_120 (by decide) ?_
          exact ih_39 (4 - (j + 1) : Int).toNat (nlt (by omega) hd_39 (by omega)) (best) (j + 1) (Int.toNat_of_nonneg (by omega)) (by omega) (by refine ⟨?_, by omega⟩; rw [chGn_no (by omega) (tX_no hB hm (by rw [← hz54]; omega))]; exact hbst.1) _ _ hP hD hS ls (lv_sub hl [0, 2, 3, 4, 5, 6, 7] rfl)
        · refine lv_aload_n hx hb dX1_chanceAfterGrace_65 rfl (lv_at hl 4 rfl) ?_
          refine va_get (D := D) (ci := 1) (v := .ref b) (C := RX1) (T := TX1) (N := 6) hx hb hts mu_X1_chanceAfterGrace_1_X1 hown hE.1 hP 0 rfl rfl 0 (by decide) (hts _ mw_X1_chanceAfterGrace_1_0) (fun _ h9 => h9) rfl dX1_chanceAfterGrace_66 ?_
          refine lv_iload hx hb dX1_chanceAfterGrace_69 (lv_at hl 3 rfl) ?_
          refine lv_iload hx hb dX1_chanceAfterGrace_71 (lv_at hl 1 rfl) ?_
          refine r_callV (As := [.int (iI (z8)), .int (iI (j))]) (rest := []) S (c_X0_positionOf l D cI cL tw (b) (pq) (cq) (P) (z8) (j) (hB) (by omega) (by omega)) gX1_chanceAfterGrace_X0_positionOf rfl rfl rfl ⟨rfl, f_X0_positionOf⟩ hR (Nat.le_of_ble_eq_true rfl) (Nat.le_of_ble_eq_true rfl) (hE.kept hS.2.1) hP [2, 3, 4] rfl 0 rfl rfl rfl hl.1 rfl (Nat.le_of_ble_eq_true rfl) dX1_chanceAfterGrace_73 ⟨Nat.zero_le _, Nat.zero_le _⟩ (fun z73 hz73 => ?_)
          obtain ⟨hz73, rz73⟩ := hz73
          refine lv_istore (lv' := [(8, .int (iI (z73))), (7, .int (iI (z54))), (6, .int (iI (j))), (5, .int (iI (best))), (4, .int (iI (z8))), (0, .ref y0), (1, .int (iI (m))), (2, .int (iI (1))), (3, .int (iI (g)))]) hx hb dX1_chanceAfterGrace_76 hl (by decide) rfl (fun ls hl => ?_)
          refine lv_aload_n hx hb dX1_chanceAfterGrace_78 rfl (lv_at hl 5 rfl) ?_
          refine va_get (D := D) (ci := 1) (v := .ref b) (C := RX1) (T := TX1) (N := 6) hx hb hts mu_X1_chanceAfterGrace_1_X1 hown hE.1 hP 0 rfl rfl 0 (by decide) (hts _ mw_X1_chanceAfterGrace_1_0) (fun _ h9 => h9) rfl dX1_chanceAfterGrace_79 ?_
          refine lv_iload hx hb dX1_chanceAfterGrace_82 (lv_at hl 4 rfl) ?_
          refine lv_iload hx hb dX1_chanceAfterGrace_84 (lv_at hl 2 rfl) ?_
          refine lv_iload hx hb dX1_chanceAfterGrace_86 (lv_at hl 1 rfl) ?_
          refine r_callVv (As := [.int (iI (z8)), .int (iI (j)), .int (iI (z54))]) (rest := []) (wr := [(y0, .inr (1, [.ref b, .ref y2, .int (iI (tu)), .int (iI (gc)), .int (iI (ph)), .int (iI (mo))])), (y2, .inl (cI, 4, .inl (aI C)))]) S (c_X0_place l D cI cL tw (b) (pq) (cq) (P) (z8) (j) (z54) (hB) (by omega) (by omega) (by omega)) gX1_chanceAfterGrace_X0_place rfl rfl rfl ⟨rfl, f_X0_place⟩ hR (Nat.le_of_ble_eq_true rfl) (Nat.le_of_ble_eq_true rfl) (hE.kept hS.2.1) hP hD hS hA [2, 3, 4] [0, 1] rfl rfl (by decide) rfl (by decide) (by decide) 0 rfl rfl rfl hl.1 rfl (Nat.le_of_ble_eq_true rfl) dX1_chanceAfterGrace_88 ⟨Nat.zero_le _, Nat.zero_le _⟩ (fun u88 H locs hz88 hP hD hS => ?_)
          have hP : va_P D vwCl [(y0, .inr (1, [.ref b, .ref y2, .int (iI (tu)), .int (iI (gc)), .int (iI (ph)), .int (iI (mo))])), (y2, .inl (cI, 4, .inl (aI C))), (b, .inr (0, [.ref pq, .ref cq])), (pq, .inl (cI, 16, .inl (aI (uI P (4 * (z8) + (j)) (z54))))), (cq, .inl (cI, 136, .inl (aI (cnt (uI P (4 * (z8) + (j)) (z54))))))] H := hP.sub [0, 1, 2, 3, 4] rfl
          have hD : va_D A [(y0, .inr (1, [.ref b, .ref y2, .int (iI (tu)), .int (iI (gc)), .int (iI (ph)), .int (iI (mo))])), (y2, .inl (cI, 4, .inl (aI C))), (b, .inr (0, [.ref pq, .ref cq])), (pq, .inl (cI, 16, .inl (aI (uI P (4 * (z8) + (j)) (z54))))), (cq, .inl (cI, 136, .inl (aI (cnt (uI P (4 * (z8) + (j)) (z54))))))] := hD.sub [0, 1, 2, 3, 4] (by decide) rfl
          refine lv_iload hx hb dX1_chanceAfterGrace_91 (lv_at hl 3 rfl) ?_
          refine lv_aload_n hx hb dX1_chanceAfterGrace_93 rfl (lv_at hl 5 rfl) ?_
          refine lv_iload_n hx hb dX1_chanceAfterGrace_94 rfl (lv_at hl 7 rfl) ?_
          refine lv_iload_n hx hb dX1_chanceAfterGrace_95 rfl (lv_at hl 8 rfl) ?_
          refine r_callVi (As := [.int (iI (1)), .int (iI (g))]) (rest := [.int (iI (best))]) (wr := []) S (c_X1_chanceWithin_1 l D cI cL tw (y0) (y2) (b) (pq) (cq) (tu) (ph) (mo) (gc) ((uI P (4 * (z8) + (j)) (z54))) (C) (g) (uI_rng hB (by omega)) (by omega) (by omega)) gX1_chanceAfterGrace_X1_chanceWithin rfl rfl rfl ⟨rfl, f_X1_chanceWithin⟩ hR (Nat.le_of_ble_eq_true rfl) (Nat.le_of_ble_eq_true rfl) (hE.kept hS.2.1) hP hD hS hA [0, 1, 2, 3, 4] [] rfl rfl (by decide) rfl (by decide) (by decide) 0 rfl rfl rfl hl.1 rfl (Nat.le_of_ble_eq_true rfl) dX1_chanceAfterGrace_96 ⟨Nat.zero_le _, Nat.zero_le _⟩ (fun z96 u96 H locs hz96 hP hD hS => ?_)
          have hP : va_P D vwCl [(y0, .inr (1, [.ref b, .ref y2, .int (iI (tu)), .int (iI (gc)), .int (iI (ph)), .int (iI (mo))])), (y2, .inl (cI, 4, .inl (aI C))), (b, .inr (0, [.ref pq, .ref cq])), (pq, .inl (cI, 16, .inl (aI (uI P (4 * (z8) + (j)) (z54))))), (cq, .inl (cI, 136, .inl (aI (cnt (uI P (4 * (z8) + (j)) (z54))))))] H := hP.sub [0, 1, 2, 3, 4] rfl
          have hD : va_D A [(y0, .inr (1, [.ref b, .ref y2, .int (iI (tu)), .int (iI (gc)), .int (iI (ph)), .int (iI (mo))])), (y2, .inl (cI, 4, .inl (aI C))), (b, .inr (0, [.ref pq, .ref cq])), (pq, .inl (cI, 16, .inl (aI (uI P (4 * (z8) + (j)) (z54))))), (cq, .inl (cI, 136, .inl (aI (cnt (uI P (4 * (z8) + (j)) (z54))))))] := hD.sub [0, 1, 2, 3, 4] (by decide) rfl
          have rz96 := ch_rng1 tu g (uI P (4 * (z8) + (j)) (z54))
          rw [← hz96] at rz96
          refine r_mmax S hR (Nat.le_of_ble_eq_true rfl) (Nat.le_of_ble_eq_true rfl) (hts _ mw_X1_chanceAfterGrace_1_3) (hts _ mw_X1_chanceAfterGrace_1_4) (hts _ mw_X1_chanceAfterGrace_1_5) (hts _ mw_X1_chanceAfterGrace_1_6) ⟨Nat.zero_le _, Nat.zero_le _⟩ hl.1 (Nat.le_of_ble_eq_true rfl) (by unfold rI; omega) (by unfold rI; omega) dX1_chanceAfterGrace_99 (fun z99 hz99 => ?_)
          refine lv_istore (lv' := [(5, .int (iI (z99))), (8, .int (iI (z73))), (7, .int (iI (z54))), (6, .int (iI (j))), (4, .int (iI (z8))), (0, .ref y0), (1, .int (iI (m))), (2, .int (iI (1))), (3, .int (iI (g)))]) hx hb dX1_chanceAfterGrace_102 hl (by decide) rfl (fun ls hl => ?_)
          refine lv_aload_n hx hb dX1_chanceAfterGrace_104 rfl (lv_at hl 5 rfl) ?_
          refine va_get (D := D) (ci := 1) (v := .ref b) (C := RX1) (T := TX1) (N := 6) hx hb hts mu_X1_chanceAfterGrace_1_X1 hown hE.1 hP 0 rfl rfl 0 (by decide) (hts _ mw_X1_chanceAfterGrace_1_0) (fun _ h9 => h9) rfl dX1_chanceAfterGrace_105 ?_
          refine lv_iload hx hb dX1_chanceAfterGrace_108 (lv_at hl 4 rfl) ?_
          refine lv_iload hx hb dX1_chanceAfterGrace_110 (lv_at hl 3 rfl) ?_
          refine lv_iload hx hb dX1_chanceAfterGrace_112 (lv_at hl 1 rfl) ?_
          refine r_callVv (As := [.int (iI (z8)), .int (iI (j)), .int (iI (z73))]) (rest := []) (wr := [(y0, .inr (1, [.ref b, .ref y2, .int (iI (tu)), .int (iI (gc)), .int (iI (ph)), .int (iI (mo))])), (y2, .inl (cI, 4, .inl (aI C)))]) S (c_X0_place l D cI cL tw (b) (pq) (cq) ((uI P (4 * (z8) + (j)) (z54))) (z8) (j) (z73) (uI_rng hB (by omega)) (by omega) (by omega) (by omega)) gX1_chanceAfterGrace_X0_place rfl rfl rfl ⟨rfl, f_X0_place⟩ hR (Nat.le_of_ble_eq_true rfl) (Nat.le_of_ble_eq_true rfl) (hE.kept hS.2.1) hP hD hS hA [2, 3, 4] [0, 1] rfl rfl (by decide) rfl (by decide) (by decide) 0 rfl rfl rfl hl.1 rfl (Nat.le_of_ble_eq_true rfl) dX1_chanceAfterGrace_114 ⟨Nat.zero_le _, Nat.zero_le _⟩ (fun u114 H locs hz114 hP hD hS => ?_)
          have hP : va_P D vwCl [(y0, .inr (1, [.ref b, .ref y2, .int (iI (tu)), .int (iI (gc)), .int (iI (ph)), .int (iI (mo))])), (y2, .inl (cI, 4, .inl (aI C))), (b, .inr (0, [.ref pq, .ref cq])), (pq, .inl (cI, 16, .inl (aI (uI (uI P (4 * (z8) + (j)) (z54)) (4 * (z8) + (j)) (z73))))), (cq, .inl (cI, 136, .inl (aI (cnt (uI (uI P (4 * (z8) + (j)) (z54)) (4 * (z8) + (j)) (z73))))))] H := hP.sub [0, 1, 2, 3, 4] rfl
          have hD : va_D A [(y0, .inr (1, [.ref b, .ref y2, .int (iI (tu)), .int (iI (gc)), .int (iI (ph)), .int (iI (mo))])), (y2, .inl (cI, 4, .inl (aI C))), (b, .inr (0, [.ref pq, .ref cq])), (pq, .inl (cI, 16, .inl (aI (uI (uI P (4 * (z8) + (j)) (z54)) (4 * (z8) + (j)) (z73))))), (cq, .inl (cI, 136, .inl (aI (cnt (uI (uI P (4 * (z8) + (j)) (z54)) (4 * (z8) + (j)) (z73))))))] := hD.sub [0, 1, 2, 3, 4] (by decide) rfl
          have e9 : uI (uI P (4 * (z8) + (j)) (z54)) (4 * (z8) + (j)) (z73) = P := by rw [hz73]; exact uI_back _ _ _
          rw [e9] at hP hD
          refine lv_iinc (v := iI (j + 1)) (lv' := [(6, .int (iI (j + 1))), (5, .int (iI (z99))), (8, .int (iI (z73))), (7, .int (iI (z54))), (4, .int (iI (z8))), (0, .ref y0), (1, .int (iI (m))), (2, .int (iI (1))), (3, .int (iI (g)))]) hx hb dX1_chanceAfterGrace_117 hl (k := 3) rfl (iI_add _ _) (by decide) rfl (fun ls hl => ?_)
          refine lv_goto (tgt := 39) hx hb dX1_chanceAfterGrace_120 (by decide) ?_
          exact ih_39 (4 - (j + 1) : Int).toNat (nlt (by omega) hd_39 (by omega)) (z99) (j + 1) (Int.toNat_of_nonneg (by omega)) (by omega) (by have q1 := tX_can (P := P) (k := 4 * z8 + j) (m := m) (by rw [← hz54]; omega); have ey := chGn_yes (R := ch tu 1 g) (P := P) (a := z8) (m := m) (j := j) (by omega) q1.1; rw [← q1.2, ← hz54, ← hz96, ← hbst.1] at ey; refine ⟨?_, by omega⟩; rw [ey]; split <;> omega) _ _ hP hD hS ls (lv_sub hl [0, 1, 4, 5, 6, 7, 8] rfl)
    exact lp_39 (4 - (0) : Int).toNat (0) (0) (Int.toNat_of_nonneg (by omega)) (by omega) (by exact ⟨(chGn_0 (by rw [← hz20]; exact h23)).symm, by omega⟩) _ _ hP hD hS ls (lv_sub hl [0, 1, 2, 3, 4, 5, 6] rfl)
  · refine lv_aload_n hx hb dX1_chanceAfterGrace_26 rfl (lv_at hl 1 rfl) ?_
    refine lv_iload_n hx hb dX1_chanceAfterGrace_27 rfl (lv_at hl 3 rfl) ?_
    refine lv_iload_n hx hb dX1_chanceAfterGrace_28 rfl (lv_at hl 4 rfl) ?_
    refine r_callVi (As := [.int (iI (1)), .int (iI (g))]) (rest := []) (wr := []) S (c_X1_chanceWithin_1 l D cI cL tw (y0) (y2) (b) (pq) (cq) (tu) (ph) (mo) (gc) (P) (C) (g) (hB) (by omega) (by omega)) gX1_chanceAfterGrace_X1_chanceWithin rfl rfl rfl ⟨rfl, f_X1_chanceWithin⟩ hR (Nat.le_of_ble_eq_true rfl) (Nat.le_of_ble_eq_true rfl) (hE.kept hS.2.1) hP hD hS hA [0, 1, 2, 3, 4] [] rfl rfl (by decide) rfl (by decide) (by decide) 0 rfl rfl rfl hl.1 rfl (Nat.le_of_ble_eq_true rfl) dX1_chanceAfterGrace_29 ⟨Nat.zero_le _, Nat.zero_le _⟩ (fun z29 u29 H locs hz29 hP hD hS => ?_)
    have hP : va_P D vwCl [(y0, .inr (1, [.ref b, .ref y2, .int (iI (tu)), .int (iI (gc)), .int (iI (ph)), .int (iI (mo))])), (y2, .inl (cI, 4, .inl (aI C))), (b, .inr (0, [.ref pq, .ref cq])), (pq, .inl (cI, 16, .inl (aI P))), (cq, .inl (cI, 136, .inl (aI (cnt P))))] H := hP.sub [0, 1, 2, 3, 4] rfl
    have hD : va_D A [(y0, .inr (1, [.ref b, .ref y2, .int (iI (tu)), .int (iI (gc)), .int (iI (ph)), .int (iI (mo))])), (y2, .inl (cI, 4, .inl (aI C))), (b, .inr (0, [.ref pq, .ref cq])), (pq, .inl (cI, 16, .inl (aI P))), (cq, .inl (cI, 136, .inl (aI (cnt P))))] := hD.sub [0, 1, 2, 3, 4] (by decide) rfl
    exact hret (z29) () _ _ _ _ dX1_chanceAfterGrace_32 (by rw [hz29, ← hz8]; exact (chGn_z (by rw [← hz20]; exact h23)).symm) hP hD hS

set_option maxRecDepth 20000 in
theorem mw_X1_chanceAfter_1_0 : (.fieldLink RX1 10 "PachisiYard" "board" "LPachisiYard$Board;" : Cond) ∈ wsX1_chanceAfter := by decide +kernel
set_option maxRecDepth 20000 in
theorem mu_X1_chanceAfter_1_X1 : ∀ w ∈ wsX10, w ∈ wsX1_chanceAfter := by decide +kernel
set_option maxRecDepth 20000 in
theorem mw_X1_chanceAfter_1_2 : (.fieldLink RX1 20 "PachisiYard" "turn" "I" : Cond) ∈ wsX1_chanceAfter := by decide +kernel
set_option maxHeartbeats 4000000 in
set_option maxRecDepth 100000 in
theorem c_X1_chanceAfter_1 (l : Launch) (D : va_G) (cI cL : ClassId) (tw : Nat) (y0 : Nat) (y2 : Nat) (b : Nat) (pq : Nat) (cq : Nat) (tu : Int) (ph : Int) (mo : Int) (gc : Int) (P : Int → Int) (C : Int → Int) (m : Int) (g : Int) (hB : ∀ i, 0 ≤ P i ∧ P i ≤ 72) (htu : 0 ≤ tu ∧ tu ≤ 3) (hg : 0 ≤ g ∧ g ≤ 2) (hm : 0 ≤ m ∧ m ≤ 6) : RWi l yX1_chanceAfter wsX1_chanceAfter { frames := 7, cells := 0, slots := 0, locals := 181 } D cI cL tw [.ref y0, .int (iI (m)), .int (iI (1)), .int (iI (g))] [(y0, .inr (1, [.ref b, .ref y2, .int (iI (tu)), .int (iI (gc)), .int (iI (ph)), .int (iI (mo))])), (y2, .inl (cI, 4, .inl (aI C))), (b, .inr (0, [.ref pq, .ref cq])), (pq, .inl (cI, 16, .inl (aI P))), (cq, .inl (cI, 136, .inl (aI (cnt P))))] (fun (z : Int) (u : Unit) => z = chA tu g 1 (ch tu 1) P m) (fun u : Unit => [(y0, .inr (1, [.ref b, .ref y2, .int (iI (tu)), .int (iI (gc)), .int (iI (ph)), .int (iI (mo))])), (y2, .inl (cI, 4, .inl (aI C))), (b, .inr (0, [.ref pq, .ref cq])), (pq, .inl (cI, 16, .inl (aI P))), (cq, .inl (cI, 136, .inl (aI (cnt P))))]) := by
  refine rwi_of (cc := cX1_chanceAfter) (maxL := 4) (rt := .int) (own := RX1) (by decide) rfl rfl (Or.inl rfl) (Nat.le_of_ble_eq_true rfl) ?_
  intro p e R s mt args below meth c H0 Q ls A S hR hE hP hD hS hA hl hret
  obtain ⟨hx, hb, hml, hown, hts⟩ := id S
  have hl : lv_has ls 4 [(0, .ref y0), (1, .int (iI (m))), (2, .int (iI (1))), (3, .int (iI (g)))] := hl
  refine lv_iload_n hx hb dX1_chanceAfter_0 rfl (lv_at hl 1 rfl) ?_
  refine lv_iload_n hx hb dX1_chanceAfter_1 rfl (lv_at hl 3 rfl) ?_
  refine r_callS (As := [.int (iI (m)), .int (iI (g))]) (rest := []) S (c_X1_isGraceTooMany l D cI cL tw (m) (g) (by omega) (by omega)) gX1_chanceAfter_X1_isGraceTooMany rfl rfl rfl f_X1_isGraceTooMany hR (Nat.le_of_ble_eq_true rfl) (Nat.le_of_ble_eq_true rfl) (hE.kept hS.2.1) rfl hl.1 rfl (Nat.le_of_ble_eq_true rfl) dX1_chanceAfter_2 ⟨Nat.zero_le _, Nat.zero_le _⟩ (fun z2 hz2 => ?_)
  rcases hz2 with ⟨rfl, hz2⟩ | ⟨rfl, hz2⟩
  · refine r_if_eq (tgt := 10) hx hb dX1_chanceAfter_5 (by decide) (by unfold rI; decide) (fun h9 => absurd h9 (by omega)) (fun h5 => ?_)
    refine r_iconst hx hb dX1_chanceAfter_8 ?_
    exact hret (0) () _ _ _ _ dX1_chanceAfter_9 (by exact (chA_lost hz2).symm) hP hD hS
  · refine r_if_eq (tgt := 10) hx hb dX1_chanceAfter_5 (by decide) (by unfold rI; decide) (fun h5 => ?_) (fun h9 => absurd h9 (by omega))
    refine lv_aload_n hx hb dX1_chanceAfter_10 rfl (lv_at hl 0 rfl) ?_
    refine va_get (D := D) (ci := 1) (v := .ref b) (C := RX1) (T := TX1) (N := 6) hx hb hts mu_X1_chanceAfter_1_X1 hown hE.1 hP 0 rfl rfl 0 (by decide) (hts _ mw_X1_chanceAfter_1_0) (fun _ h9 => h9) rfl dX1_chanceAfter_11 ?_
    refine r_iconst hx hb dX1_chanceAfter_14 ?_
    refine lv_aload_n hx hb dX1_chanceAfter_15 rfl (lv_at hl 0 rfl) ?_
    refine va_get (D := D) (ci := 1) (v := .ref b) (C := RX1) (T := TX1) (N := 6) hx hb hts mu_X1_chanceAfter_1_X1 hown hE.1 hP 0 rfl rfl 0 (by decide) (hts _ mw_X1_chanceAfter_1_0) (fun _ h9 => h9) rfl dX1_chanceAfter_16 ?_
    refine lv_aload_n hx hb dX1_chanceAfter_19 rfl (lv_at hl 0 rfl) ?_
    refine va_get (D := D) (ci := 1) (v := .int (iI (tu))) (C := RX1) (T := TX1) (N := 6) hx hb hts mu_X1_chanceAfter_1_X1 hown hE.1 hP 0 rfl rfl 2 (by decide) (hts _ mw_X1_chanceAfter_1_2) (fun _ h9 => h9) rfl dX1_chanceAfter_20 ?_
    refine r_callV (As := [.int (iI (tu))]) (rest := [.int (iI (1)), .ref b]) S (c_X0_moverFor l D cI cL tw (b) (pq) (cq) (P) (tu) (hB) (by omega)) gX1_chanceAfter_X0_moverFor rfl rfl rfl ⟨rfl, f_X0_moverFor⟩ hR (Nat.le_of_ble_eq_true rfl) (Nat.le_of_ble_eq_true rfl) (hE.kept hS.2.1) hP [2, 3, 4] rfl 0 rfl rfl rfl hl.1 rfl (Nat.le_of_ble_eq_true rfl) dX1_chanceAfter_23 ⟨Nat.zero_le _, Nat.zero_le _⟩ (fun z23 hz23 => ?_)
    obtain ⟨hz23, rz23⟩ := hz23
    refine lv_iload_n hx hb dX1_chanceAfter_26 rfl (lv_at hl 1 rfl) ?_
    refine r_callV (As := [.int (iI (1)), .int (iI (z23)), .int (iI (m))]) (rest := []) S (c_X0_canDo l D cI cL tw (b) (pq) (cq) (P) (1) (z23) (m) (hB) (by omega) (by omega) (by omega)) gX1_chanceAfter_X0_canDo rfl rfl rfl ⟨rfl, f_X0_canDo⟩ hR (Nat.le_of_ble_eq_true rfl) (Nat.le_of_ble_eq_true rfl) (hE.kept hS.2.1) hP [2, 3, 4] rfl 0 rfl rfl rfl hl.1 rfl (Nat.le_of_ble_eq_true rfl) dX1_chanceAfter_27 ⟨Nat.zero_le _, Nat.zero_le _⟩ (fun z27 hz27 => ?_)
    rcases hz27 with ⟨rfl, hz27⟩ | ⟨rfl, hz27⟩
    · refine r_if_eq (tgt := 38) hx hb dX1_chanceAfter_30 (by decide) (by unfold rI; decide) (fun h9 => absurd h9 (by omega)) (fun h30 => ?_)
      refine lv_iload_n hx hb dX1_chanceAfter_33 rfl (lv_at hl 2 rfl) ?_
      refine r_callS (As := [.int (iI (1))]) (rest := []) S (c_X1_certainty_1 l D cI cL tw ) gX1_chanceAfter_X1_certainty rfl rfl rfl f_X1_certainty hR (Nat.le_of_ble_eq_true rfl) (Nat.le_of_ble_eq_true rfl) (hE.kept hS.2.1) rfl hl.1 rfl (Nat.le_of_ble_eq_true rfl) dX1_chanceAfter_34 ⟨Nat.zero_le _, Nat.zero_le _⟩ (fun z34 hz34 => ?_)
      exact hret (z34) () _ _ _ _ dX1_chanceAfter_37 (by rw [hz34]; exact ((chA_cap hz2 (by rw [← hz23]; exact hz27)).trans (by decide)).symm) hP hD hS
    · refine r_if_eq (tgt := 38) hx hb dX1_chanceAfter_30 (by decide) (by unfold rI; decide) (fun h30 => ?_) (fun h9 => absurd h9 (by omega))
      refine lv_iload_n hx hb dX1_chanceAfter_38 rfl (lv_at hl 1 rfl) ?_
      refine r_callS (As := [.int (iI (m))]) (rest := []) S (c_X1_isGrace l D cI cL tw (m) (by omega)) gX1_chanceAfter_X1_isGrace rfl rfl rfl f_X1_isGrace hR (Nat.le_of_ble_eq_true rfl) (Nat.le_of_ble_eq_true rfl) (hE.kept hS.2.1) rfl hl.1 rfl (Nat.le_of_ble_eq_true rfl) dX1_chanceAfter_39 ⟨Nat.zero_le _, Nat.zero_le _⟩ (fun z39 hz39 => ?_)
      rcases hz39 with ⟨rfl, hz39⟩ | ⟨rfl, hz39⟩
      · refine r_if_eq (tgt := 49) hx hb dX1_chanceAfter_42 (by decide) (by unfold rI; decide) (fun h9 => absurd h9 (by omega)) (fun h42 => ?_)
        refine lv_iload_n hx hb dX1_chanceAfter_45 rfl (lv_at hl 2 rfl) ?_
        refine r_if_gt (tgt := 51) hx hb dX1_chanceAfter_46 (by decide) (by unfold rI; decide) (fun h46 => ?_) (fun h9 => absurd h9 (by omega))
        refine lv_aload_n hx hb dX1_chanceAfter_51 rfl (lv_at hl 0 rfl) ?_
        refine lv_iload_n hx hb dX1_chanceAfter_52 rfl (lv_at hl 1 rfl) ?_
        refine lv_iload_n hx hb dX1_chanceAfter_53 rfl (lv_at hl 2 rfl) ?_
        refine lv_iload_n hx hb dX1_chanceAfter_54 rfl (lv_at hl 3 rfl) ?_
        refine r_iconst hx hb dX1_chanceAfter_55 ?_
        refine r_iadd hx hb dX1_chanceAfter_56 ?_
        refine r_callVi (As := [.int (iI (m)), .int (iI (1)), .int (iI ((g) + (1)))]) (rest := []) (wr := []) S (c_X1_chanceAfterGrace_1 l D cI cL tw (y0) (y2) (b) (pq) (cq) (tu) (ph) (mo) (gc) (P) (C) (m) ((g) + (1)) (hB) (by omega) (by omega) (by omega)) gX1_chanceAfter_X1_chanceAfterGrace rfl rfl rfl ⟨rfl, f_X1_chanceAfterGrace⟩ hR (Nat.le_of_ble_eq_true rfl) (Nat.le_of_ble_eq_true rfl) (hE.kept hS.2.1) hP hD hS hA [0, 1, 2, 3, 4] [] rfl rfl (by decide) rfl (by decide) (by decide) 0 rfl rfl rfl hl.1 rfl (Nat.le_of_ble_eq_true rfl) dX1_chanceAfter_57 ⟨Nat.zero_le _, Nat.zero_le _⟩ (fun z57 u57 H locs hz57 hP hD hS => ?_)
        have hP : va_P D vwCl [(y0, .inr (1, [.ref b, .ref y2, .int (iI (tu)), .int (iI (gc)), .int (iI (ph)), .int (iI (mo))])), (y2, .inl (cI, 4, .inl (aI C))), (b, .inr (0, [.ref pq, .ref cq])), (pq, .inl (cI, 16, .inl (aI P))), (cq, .inl (cI, 136, .inl (aI (cnt P))))] H := hP.sub [0, 1, 2, 3, 4] rfl
        have hD : va_D A [(y0, .inr (1, [.ref b, .ref y2, .int (iI (tu)), .int (iI (gc)), .int (iI (ph)), .int (iI (mo))])), (y2, .inl (cI, 4, .inl (aI C))), (b, .inr (0, [.ref pq, .ref cq])), (pq, .inl (cI, 16, .inl (aI P))), (cq, .inl (cI, 136, .inl (aI (cnt P))))] := hD.sub [0, 1, 2, 3, 4] (by decide) rfl
        exact hret (z57) () _ _ _ _ dX1_chanceAfter_60 (by rw [hz57]; exact (chA_go hz2 (by rw [← hz23]; exact hz27) (by omega)).symm) hP hD hS
      · refine r_if_eq (tgt := 49) hx hb dX1_chanceAfter_42 (by decide) (by unfold rI; decide) (fun h42 => ?_) (fun h9 => absurd h9 (by omega))
        refine r_iconst hx hb dX1_chanceAfter_49 ?_
        exact hret (0) () _ _ _ _ dX1_chanceAfter_50 (by exact (chA_end (by rw [← hz23]; exact hz27) (Or.inl hz39)).symm) hP hD hS

set_option maxHeartbeats 4000000 in
set_option maxRecDepth 100000 in
theorem c_X1_chanceWithin_2 (l : Launch) (D : va_G) (cI cL : ClassId) (tw : Nat) (y0 : Nat) (y2 : Nat) (b : Nat) (pq : Nat) (cq : Nat) (tu : Int) (ph : Int) (mo : Int) (gc : Int) (P : Int → Int) (C : Int → Int) (g : Int) (hB : ∀ i, 0 ≤ P i ∧ P i ≤ 72) (htu : 0 ≤ tu ∧ tu ≤ 3) (hg : 0 ≤ g ∧ g ≤ 2) : RWi l yX1_chanceWithin wsX1_chanceWithin { frames := 8, cells := 0, slots := 0, locals := 204 } D cI cL tw [.ref y0, .int (iI (2)), .int (iI (g))] [(y0, .inr (1, [.ref b, .ref y2, .int (iI (tu)), .int (iI (gc)), .int (iI (ph)), .int (iI (mo))])), (y2, .inl (cI, 4, .inl (aI C))), (b, .inr (0, [.ref pq, .ref cq])), (pq, .inl (cI, 16, .inl (aI P))), (cq, .inl (cI, 136, .inl (aI (cnt P))))] (fun (z : Int) (u : Unit) => z = ch tu 2 g P) (fun u : Unit => [(y0, .inr (1, [.ref b, .ref y2, .int (iI (tu)), .int (iI (gc)), .int (iI (ph)), .int (iI (mo))])), (y2, .inl (cI, 4, .inl (aI C))), (b, .inr (0, [.ref pq, .ref cq])), (pq, .inl (cI, 16, .inl (aI P))), (cq, .inl (cI, 136, .inl (aI (cnt P))))]) := by
  refine rwi_of (cc := cX1_chanceWithin) (maxL := 5) (rt := .int) (own := RX1) (by decide) rfl rfl (Or.inl rfl) (Nat.le_of_ble_eq_true rfl) ?_
  intro p e R s mt args below meth c H0 Q ls A S hR hE hP hD hS hA hl hret
  obtain ⟨hx, hb, hml, hown, hts⟩ := id S
  have hl : lv_has ls 5 [(0, .ref y0), (1, .int (iI (2))), (2, .int (iI (g)))] := hl
  refine lv_iload_n hx hb dX1_chanceWithin_0 rfl (lv_at hl 1 rfl) ?_
  refine r_if_gt (tgt := 6) hx hb dX1_chanceWithin_1 (by decide) (by unfold rI; decide) (fun h1 => ?_) (fun h9 => absurd h9 (by omega))
  refine r_iconst hx hb dX1_chanceWithin_6 ?_
  refine lv_istore_n (lv' := [(3, .int (iI (0))), (0, .ref y0), (1, .int (iI (2))), (2, .int (iI (g)))]) hx hb dX1_chanceWithin_7 rfl hl (by decide) rfl (fun ls hl => ?_)
  refine r_iconst hx hb dX1_chanceWithin_8 ?_
  refine lv_istore (lv' := [(4, .int (iI (0))), (3, .int (iI (0))), (0, .ref y0), (1, .int (iI (2))), (2, .int (iI (g)))]) hx hb dX1_chanceWithin_9 hl (by decide) rfl (fun ls hl => ?_)
  have lp_11 : ∀ (d_11 : Nat) (n : Int) (k : Int), (d_11 : Int) = 7 - k → (0 ≤ k ∧ k ≤ 7) → (n = sZ (fun m => wyI m * chA tu g 1 (ch tu 1) P m) k) → ∀ (H : Heap) (locs : List Loc), va_P D vwCl [(y0, .inr (1, [.ref b, .ref y2, .int (iI (tu)), .int (iI (gc)), .int (iI (ph)), .int (iI (mo))])), (y2, .inl (cI, 4, .inl (aI C))), (b, .inr (0, [.ref pq, .ref cq])), (pq, .inl (cI, 16, .inl (aI P))), (cq, .inl (cI, 136, .inl (aI (cnt P))))] H → va_D A [(y0, .inr (1, [.ref b, .ref y2, .int (iI (tu)), .int (iI (gc)), .int (iI (ph)), .int (iI (mo))])), (y2, .inl (cI, 4, .inl (aI C))), (b, .inr (0, [.ref pq, .ref cq])), (pq, .inl (cI, 16, .inl (aI P))), (cq, .inl (cI, 136, .inl (aI (cnt P))))] → va_S A H0 H locs → ∀ ls : Array Slot, lv_has ls 5 [(4, .int (iI (k))), (3, .int (iI (n))), (0, .ref y0), (1, .int (iI (2))), (2, .int (iI (g)))] → W p l e R s mt args below meth c H locs 0 0 Q (F0 mt 11 ls []) := by
    intro d_11
    induction d_11 using Nat.strongRecOn with
    | ind d_11 ih_11 =>
    intro n k hd_11 hk hn H locs hP hD hS ls hl
    refine lv_iload hx hb dX1_chanceWithin_11 (lv_at hl 0 rfl) ?_
    refine r_bipush hx hb dX1_chanceWithin_13 (by decide) ?_
    refine r_icmp_gt (tgt := 43) hx hb dX1_chanceWithin_15 (by decide) (by unfold rI; omega) (by unfold rI; decide) (fun h15 => ?_) (fun h15 => ?_)
    · refine lv_iload_n hx hb dX1_chanceWithin_43 rfl (lv_at hl 1 rfl) ?_
      exact hret (n) () _ _ _ _ dX1_chanceWithin_44 (by have e : k = 7 := (by omega); subst e; exact hn) hP hD hS
    · refine lv_iload_n hx hb dX1_chanceWithin_18 rfl (lv_at hl 1 rfl) ?_
      refine lv_iload hx hb dX1_chanceWithin_19 (lv_at hl 0 rfl) ?_
      refine r_callS (As := [.int (iI (k))]) (rest := [.int (iI (n))]) S (c_X1_waysOf l D cI cL tw (k) (by omega)) gX1_chanceWithin_X1_waysOf rfl rfl rfl f_X1_waysOf hR (Nat.le_of_ble_eq_true rfl) (Nat.le_of_ble_eq_true rfl) (hE.kept hS.2.1) rfl hl.1 rfl (Nat.le_of_ble_eq_true rfl) dX1_chanceWithin_21 ⟨Nat.zero_le _, Nat.zero_le _⟩ (fun z21 hz21 => ?_)
      refine lv_aload_n hx hb dX1_chanceWithin_24 rfl (lv_at hl 2 rfl) ?_
      refine lv_iload hx hb dX1_chanceWithin_25 (lv_at hl 0 rfl) ?_
      refine lv_iload_n hx hb dX1_chanceWithin_27 rfl (lv_at hl 3 rfl) ?_
      refine r_iconst hx hb dX1_chanceWithin_28 ?_
      refine r_isub hx hb dX1_chanceWithin_29 ?_
      refine r_top (1) (by decide) ?_
      refine lv_iload_n hx hb dX1_chanceWithin_30 rfl (lv_at hl 4 rfl) ?_
      refine r_callVi (As := [.int (iI (k)), .int (iI (1)), .int (iI (g))]) (rest := [.int (iI (z21)), .int (iI (n))]) (wr := []) S (c_X1_chanceAfter_1 l D cI cL tw (y0) (y2) (b) (pq) (cq) (tu) (ph) (mo) (gc) (P) (C) (k) (g) (hB) (by omega) (by omega) (by omega)) gX1_chanceWithin_X1_chanceAfter rfl rfl rfl ⟨rfl, f_X1_chanceAfter⟩ hR (Nat.le_of_ble_eq_true rfl) (Nat.le_of_ble_eq_true rfl) (hE.kept hS.2.1) hP hD hS hA [0, 1, 2, 3, 4] [] rfl rfl (by decide) rfl (by decide) (by decide) 0 rfl rfl rfl hl.1 rfl (Nat.le_of_ble_eq_true rfl) dX1_chanceWithin_31 ⟨Nat.zero_le _, Nat.zero_le _⟩ (fun z31 u31 H locs hz31 hP hD hS => ?_)
      have hP : va_P D vwCl [(y0, .inr (1, [.ref b, .ref y2, .int (iI (tu)), .int (iI (gc)), .int (iI (ph)), .int (iI (mo))])), (y2, .inl (cI, 4, .inl (aI C))), (b, .inr (0, [.ref pq, .ref cq])), (pq, .inl (cI, 16, .inl (aI P))), (cq, .inl (cI, 136, .inl (aI (cnt P))))] H := hP.sub [0, 1, 2, 3, 4] rfl
      have hD : va_D A [(y0, .inr (1, [.ref b, .ref y2, .int (iI (tu)), .int (iI (gc)), .int (iI (ph)), .int (iI (mo))])), (y2, .inl (cI, 4, .inl (aI C))), (b, .inr (0, [.ref pq, .ref cq])), (pq, .inl (cI, 16, .inl (aI P))), (cq, .inl (cI, 136, .inl (aI (cnt P))))] := hD.sub [0, 1, 2, 3, 4] (by decide) rfl
      refine r_imul hx hb dX1_chanceWithin_34 ?_
      refine r_iadd hx hb dX1_chanceWithin_35 ?_
      refine lv_istore_n (lv' := [(3, .int (iI ((n) + ((z21) * (z31))))), (4, .int (iI (k))), (0, .ref y0), (1, .int (iI (2))), (2, .int (iI (g)))]) hx hb dX1_chanceWithin_36 rfl hl (by decide) rfl (fun ls hl => ?_)
      refine lv_iinc (v := iI (k + 1)) (lv' := [(4, .int (iI (k + 1))), (3, .int (iI ((n) + ((z21) * (z31))))), (0, .ref y0), (1, .int (iI (2))), (2, .int (iI (g)))]) hx hb dX1_chanceWithin_37 hl (k := 1) rfl (iI_add _ _) (by decide) rfl (fun ls hl => ?_)
      refine lv_goto (tgt := 11) hx hb dX1_chanceWithin_40 (by decide) ?_
      exact ih_11 (7 - (k + 1) : Int).toNat (nlt (by omega) hd_11 (by omega)) ((n) + ((z21) * (z31))) (k + 1) (Int.toNat_of_nonneg (by omega)) (by omega) (by rw [sZ_s _ (by omega), ← hn]; show _ = n + wyI k * chA tu g 1 (ch tu 1) P k; rw [← hz31, ← hz21]) _ _ hP hD hS ls (lv_sub hl [0, 1, 2, 3, 4] rfl)
  exact lp_11 (7 - (0) : Int).toNat (0) (0) (Int.toNat_of_nonneg (by omega)) (by omega) ((sZ_0 _).symm) _ _ hP hD hS ls (lv_sub hl [0, 1, 2, 3, 4] rfl)

set_option maxRecDepth 20000 in
theorem mw_X1_chanceAfterGrace_2_0 : (.fieldLink RX1 10 "PachisiYard" "board" "LPachisiYard$Board;" : Cond) ∈ wsX1_chanceAfterGrace := by decide +kernel
set_option maxRecDepth 20000 in
theorem mu_X1_chanceAfterGrace_2_X1 : ∀ w ∈ wsX10, w ∈ wsX1_chanceAfterGrace := by decide +kernel
set_option maxRecDepth 20000 in
theorem mw_X1_chanceAfterGrace_2_2 : (.fieldLink RX1 20 "PachisiYard" "turn" "I" : Cond) ∈ wsX1_chanceAfterGrace := by decide +kernel
set_option maxRecDepth 20000 in
theorem mw_X1_chanceAfterGrace_2_3 : (.methodLink RX1 178 Lib.Math.max.name : Cond) ∈ wsX1_chanceAfterGrace := by decide +kernel
set_option maxRecDepth 20000 in
theorem mw_X1_chanceAfterGrace_2_4 : (.static Lib.Math.max.name : Cond) ∈ wsX1_chanceAfterGrace := by decide +kernel
set_option maxRecDepth 20000 in
theorem mw_X1_chanceAfterGrace_2_5 : (.initialized "java/lang/Math" : Cond) ∈ wsX1_chanceAfterGrace := by decide +kernel
set_option maxRecDepth 20000 in
theorem mw_X1_chanceAfterGrace_2_6 : (.code Lib.Math.max.name Lib.Math.max.code 2 (some .int) : Cond) ∈ wsX1_chanceAfterGrace := by decide +kernel
set_option maxHeartbeats 4000000 in
set_option maxRecDepth 100000 in
theorem c_X1_chanceAfterGrace_2 (l : Launch) (D : va_G) (cI cL : ClassId) (tw : Nat) (y0 : Nat) (y2 : Nat) (b : Nat) (pq : Nat) (cq : Nat) (tu : Int) (ph : Int) (mo : Int) (gc : Int) (P : Int → Int) (C : Int → Int) (m : Int) (g : Int) (hB : ∀ i, 0 ≤ P i ∧ P i ≤ 72) (htu : 0 ≤ tu ∧ tu ≤ 3) (hg : 0 ≤ g ∧ g ≤ 2) (hm : 0 ≤ m ∧ m ≤ 6) : RWi l yX1_chanceAfterGrace wsX1_chanceAfterGrace { frames := 9, cells := 0, slots := 0, locals := 228 } D cI cL tw [.ref y0, .int (iI (m)), .int (iI (2)), .int (iI (g))] [(y0, .inr (1, [.ref b, .ref y2, .int (iI (tu)), .int (iI (gc)), .int (iI (ph)), .int (iI (mo))])), (y2, .inl (cI, 4, .inl (aI C))), (b, .inr (0, [.ref pq, .ref cq])), (pq, .inl (cI, 16, .inl (aI P))), (cq, .inl (cI, 136, .inl (aI (cnt P))))] (fun (z : Int) (u : Unit) => z = chGn (ch tu 2 g) P (mv P tu) m 4) (fun u : Unit => [(y0, .inr (1, [.ref b, .ref y2, .int (iI (tu)), .int (iI (gc)), .int (iI (ph)), .int (iI (mo))])), (y2, .inl (cI, 4, .inl (aI C))), (b, .inr (0, [.ref pq, .ref cq])), (pq, .inl (cI, 16, .inl (aI P))), (cq, .inl (cI, 136, .inl (aI (cnt P))))]) := by
  refine rwi_of (cc := cX1_chanceAfterGrace) (maxL := 9) (rt := .int) (own := RX1) (by decide) rfl rfl (Or.inl rfl) (Nat.le_of_ble_eq_true rfl) ?_
  intro p e R s mt args below meth c H0 Q ls A S hR hE hP hD hS hA hl hret
  obtain ⟨hx, hb, hml, hown, hts⟩ := id S
  have hl : lv_has ls 9 [(0, .ref y0), (1, .int (iI (m))), (2, .int (iI (2))), (3, .int (iI (g)))] := hl
  refine lv_aload_n hx hb dX1_chanceAfterGrace_0 rfl (lv_at hl 0 rfl) ?_
  refine va_get (D := D) (ci := 1) (v := .ref b) (C := RX1) (T := TX1) (N := 6) hx hb hts mu_X1_chanceAfterGrace_2_X1 hown hE.1 hP 0 rfl rfl 0 (by decide) (hts _ mw_X1_chanceAfterGrace_2_0) (fun _ h9 => h9) rfl dX1_chanceAfterGrace_1 ?_
  refine lv_aload_n hx hb dX1_chanceAfterGrace_4 rfl (lv_at hl 0 rfl) ?_
  refine va_get (D := D) (ci := 1) (v := .int (iI (tu))) (C := RX1) (T := TX1) (N := 6) hx hb hts mu_X1_chanceAfterGrace_2_X1 hown hE.1 hP 0 rfl rfl 2 (by decide) (hts _ mw_X1_chanceAfterGrace_2_2) (fun _ h9 => h9) rfl dX1_chanceAfterGrace_5 ?_
  refine r_callV (As := [.int (iI (tu))]) (rest := []) S (c_X0_moverFor l D cI cL tw (b) (pq) (cq) (P) (tu) (hB) (by omega)) gX1_chanceAfterGrace_X0_moverFor rfl rfl rfl ⟨rfl, f_X0_moverFor⟩ hR (Nat.le_of_ble_eq_true rfl) (Nat.le_of_ble_eq_true rfl) (hE.kept hS.2.1) hP [2, 3, 4] rfl 0 rfl rfl rfl hl.1 rfl (Nat.le_of_ble_eq_true rfl) dX1_chanceAfterGrace_8 ⟨Nat.zero_le _, Nat.zero_le _⟩ (fun z8 hz8 => ?_)
  obtain ⟨hz8, rz8⟩ := hz8
  refine lv_istore (lv' := [(4, .int (iI (z8))), (0, .ref y0), (1, .int (iI (m))), (2, .int (iI (2))), (3, .int (iI (g)))]) hx hb dX1_chanceAfterGrace_11 hl (by decide) rfl (fun ls hl => ?_)
  refine lv_aload_n hx hb dX1_chanceAfterGrace_13 rfl (lv_at hl 1 rfl) ?_
  refine va_get (D := D) (ci := 1) (v := .ref b) (C := RX1) (T := TX1) (N := 6) hx hb hts mu_X1_chanceAfterGrace_2_X1 hown hE.1 hP 0 rfl rfl 0 (by decide) (hts _ mw_X1_chanceAfterGrace_2_0) (fun _ h9 => h9) rfl dX1_chanceAfterGrace_14 ?_
  refine lv_iload hx hb dX1_chanceAfterGrace_17 (lv_at hl 0 rfl) ?_
  refine lv_iload_n hx hb dX1_chanceAfterGrace_19 rfl (lv_at hl 2 rfl) ?_
  refine r_callV (As := [.int (iI (z8)), .int (iI (m))]) (rest := []) S (c_X0_movableSet l D cI cL tw (b) (pq) (cq) (P) (z8) (m) (hB) (by omega) (by omega)) gX1_chanceAfterGrace_X0_movableSet rfl rfl rfl ⟨rfl, f_X0_movableSet⟩ hR (Nat.le_of_ble_eq_true rfl) (Nat.le_of_ble_eq_true rfl) (hE.kept hS.2.1) hP [2, 3, 4] rfl 0 rfl rfl rfl hl.1 rfl (Nat.le_of_ble_eq_true rfl) dX1_chanceAfterGrace_20 ⟨Nat.zero_le _, Nat.zero_le _⟩ (fun z20 hz20 => ?_)
  obtain ⟨hz20, rz20⟩ := hz20
  refine r_if_ne (tgt := 33) hx hb dX1_chanceAfterGrace_23 (by decide) (by unfold rI; omega) (fun h23 => ?_) (fun h23 => ?_)
  · refine r_iconst hx hb dX1_chanceAfterGrace_33 ?_
    refine lv_istore (lv' := [(5, .int (iI (0))), (4, .int (iI (z8))), (0, .ref y0), (1, .int (iI (m))), (2, .int (iI (2))), (3, .int (iI (g)))]) hx hb dX1_chanceAfterGrace_34 hl (by decide) rfl (fun ls hl => ?_)
    refine r_iconst hx hb dX1_chanceAfterGrace_36 ?_
    refine lv_istore (lv' := [(6, .int (iI (0))), (5, .int (iI (0))), (4, .int (iI (z8))), (0, .ref y0), (1, .int (iI (m))), (2, .int (iI (2))), (3, .int (iI (g)))]) hx hb dX1_chanceAfterGrace_37 hl (by decide) rfl (fun ls hl => ?_)
    have lp_39 : ∀ (d_39 : Nat) (best : Int) (j : Int), (d_39 : Int) = 4 - j → (0 ≤ j ∧ j ≤ 4) → (best = chGn (ch tu 2 g) P z8 m j ∧ 0 ≤ best ∧ best ≤ 4096) → ∀ (H : Heap) (locs : List Loc), va_P D vwCl [(y0, .inr (1, [.ref b, .ref y2, .int (iI (tu)), .int (iI (gc)), .int (iI (ph)), .int (iI (mo))])), (y2, .inl (cI, 4, .inl (aI C))), (b, .inr (0, [.ref pq, .ref cq])), (pq, .inl (cI, 16, .inl (aI P))), (cq, .inl (cI, 136, .inl (aI (cnt P))))] H → va_D A [(y0, .inr (1, [.ref b, .ref y2, .int (iI (tu)), .int (iI (gc)), .int (iI (ph)), .int (iI (mo))])), (y2, .inl (cI, 4, .inl (aI C))), (b, .inr (0, [.ref pq, .ref cq])), (pq, .inl (cI, 16, .inl (aI P))), (cq, .inl (cI, 136, .inl (aI (cnt P))))] → va_S A H0 H locs → ∀ ls : Array Slot, lv_has ls 9 [(6, .int (iI (j))), (5, .int (iI (best))), (4, .int (iI (z8))), (0, .ref y0), (1, .int (iI (m))), (2, .int (iI (2))), (3, .int (iI (g)))] → W p l e R s mt args below meth c H locs 0 0 Q (F0 mt 39 ls []) := by
      intro d_39
      induction d_39 using Nat.strongRecOn with
      | ind d_39 ih_39 =>
      intro best j hd_39 hj hbst H locs hP hD hS ls hl
      refine lv_iload hx hb dX1_chanceAfterGrace_39 (lv_at hl 0 rfl) ?_
      refine r_iconst hx hb dX1_chanceAfterGrace_41 ?_
      refine r_icmp_ge (tgt := 123) hx hb dX1_chanceAfterGrace_42 (by decide) (by unfold rI; omega) (by unfold rI; decide) (fun h42 => ?_) (fun h42 => ?_)
      · refine lv_iload hx hb dX1_chanceAfterGrace_123 (lv_at hl 1 rfl) ?_
        exact hret (best) () _ _ _ _ dX1_chanceAfterGrace_125 (by have e : j = 4 := (by omega); subst e; rw [← hz8]; exact hbst.1) hP hD hS
      · refine lv_aload_n hx hb dX1_chanceAfterGrace_45 rfl (lv_at hl 3 rfl) ?_
        refine va_get (D := D) (ci := 1) (v := .ref b) (C := RX1) (T := TX1) (N := 6) hx hb hts mu_X1_chanceAfterGrace_2_X1 hown hE.1 hP 0 rfl rfl 0 (by decide) (hts _ mw_X1_chanceAfterGrace_2_0) (fun _ h9 => h9) rfl dX1_chanceAfterGrace_46 ?_
        refine lv_iload hx hb dX1_chanceAfterGrace_49 (lv_at hl 2 rfl) ?_
        refine lv_iload hx hb dX1_chanceAfterGrace_51 (lv_at hl 0 rfl) ?_
        refine lv_iload_n hx hb dX1_chanceAfterGrace_53 rfl (lv_at hl 4 rfl) ?_
        refine r_callV (As := [.int (iI (z8)), .int (iI (j)), .int (iI (m))]) (rest := []) S (c_X0_targetOf l D cI cL tw (b) (pq) (cq) (P) (z8) (j) (m) (hB) (by omega) (by omega) (by omega)) gX1_chanceAfterGrace_X0_targetOf rfl rfl rfl ⟨rfl, f_X0_targetOf⟩ hR (Nat.le_of_ble_eq_true rfl) (Nat.le_of_ble_eq_true rfl) (hE.kept hS.2.1) hP [2, 3, 4] rfl 0 rfl rfl rfl hl.1 rfl (Nat.le_of_ble_eq_true rfl) dX1_chanceAfterGrace_54 ⟨Nat.zero_le _, Nat.zero_le _⟩ (fun z54 hz54 => ?_)
        obtain ⟨hz54, rz54⟩ := hz54
        refine lv_istore (lv' := [(7, .int (iI (z54))), (6, .int (iI (j))), (5, .int (iI (best))), (4, .int (iI (z8))), (0, .ref y0), (1, .int (iI (m))), (2, .int (iI (2))), (3, .int (iI (g)))]) hx hb dX1_chanceAfterGrace_57 hl (by decide) rfl (fun ls hl => ?_)
        refine lv_iload hx hb dX1_chanceAfterGrace_59 (lv_at hl 0 rfl) ?_
        refine r_iconst hx hb dX1_chanceAfterGrace_61 ?_
        refine r_icmp_eq (tgt := 117) hx hb dX1_chanceAfterGrace_62 (by decide) (by unfold rI; omega) (by unfold rI; decide) (fun h62 => ?_) (fun h62 => ?_)
        · refine lv_iinc (v := iI (j + 1)) (lv' := [(6, .int (iI (j + 1))), (7, .int (iI (z54))), (5, .int (iI (best))), (4, .int (iI (z8))), (0, .ref y0), (1, .int (iI (m))), (2, .int (iI (2))), (3, .int (iI (g)))]) hx hb dX1_chanceAfterGrace_117 hl (k := 1) rfl (iI_add _ _) (by decide) rfl (fun ls hl => ?_)
          refine lv_goto (tgt := 39) hx hb dX1_chanceAfterGrace_120 (by decide) ?_
          exact ih_39 (4 - (j + 1) : Int).toNat (nlt (by omega) hd_39 (by omega)) (best) (j + 1) (Int.toNat_of_nonneg (by omega)) (by omega) (by refine ⟨?_, by omega⟩; rw [chGn_no (by omega) (tX_no hB hm (by rw [← hz54]; omega))]; exact hbst.1) _ _ hP hD hS ls (lv_sub hl [0, 2, 3, 4, 5, 6, 7] rfl)
        · refine lv_aload_n hx hb dX1_chanceAfterGrace_65 rfl (lv_at hl 4 rfl) ?_
          refine va_get (D := D) (ci := 1) (v := .ref b) (C := RX1) (T := TX1) (N := 6) hx hb hts mu_X1_chanceAfterGrace_2_X1 hown hE.1 hP 0 rfl rfl 0 (by decide) (hts _ mw_X1_chanceAfterGrace_2_0) (fun _ h9 => h9) rfl dX1_chanceAfterGrace_66 ?_
          refine lv_iload hx hb dX1_chanceAfterGrace_69 (lv_at hl 3 rfl) ?_
          refine lv_iload hx hb dX1_chanceAfterGrace_71 (lv_at hl 1 rfl) ?_
          refine r_callV (As := [.int (iI (z8)), .int (iI (j))]) (rest := []) S (c_X0_positionOf l D cI cL tw (b) (pq) (cq) (P) (z8) (j) (hB) (by omega) (by omega)) gX1_chanceAfterGrace_X0_positionOf rfl rfl rfl ⟨rfl, f_X0_positionOf⟩ hR (Nat.le_of_ble_eq_true rfl) (Nat.le_of_ble_eq_true rfl) (hE.kept hS.2.1) hP [2, 3, 4] rfl 0 rfl rfl rfl hl.1 rfl (Nat.le_of_ble_eq_true rfl) dX1_chanceAfterGrace_73 ⟨Nat.zero_le _, Nat.zero_le _⟩ (fun z73 hz73 => ?_)
          obtain ⟨hz73, rz73⟩ := hz73
          refine lv_istore (lv' := [(8, .int (iI (z73))), (7, .int (iI (z54))), (6, .int (iI (j))), (5, .int (iI (best))), (4, .int (iI (z8))), (0, .ref y0), (1, .int (iI (m))), (2, .int (iI (2))), (3, .int (iI (g)))]) hx hb dX1_chanceAfterGrace_76 hl (by decide) rfl (fun ls hl => ?_)
          refine lv_aload_n hx hb dX1_chanceAfterGrace_78 rfl (lv_at hl 5 rfl) ?_
          refine va_get (D := D) (ci := 1) (v := .ref b) (C := RX1) (T := TX1) (N := 6) hx hb hts mu_X1_chanceAfterGrace_2_X1 hown hE.1 hP 0 rfl rfl 0 (by decide) (hts _ mw_X1_chanceAfterGrace_2_0) (fun _ h9 => h9) rfl dX1_chanceAfterGrace_79 ?_
          refine lv_iload hx hb dX1_chanceAfterGrace_82 (lv_at hl 4 rfl) ?_
          refine lv_iload hx hb dX1_chanceAfterGrace_84 (lv_at hl 2 rfl) ?_
          refine lv_iload hx hb dX1_chanceAfterGrace_86 (lv_at hl 1 rfl) ?_
          refine r_callVv (As := [.int (iI (z8)), .int (iI (j)), .int (iI (z54))]) (rest := []) (wr := [(y0, .inr (1, [.ref b, .ref y2, .int (iI (tu)), .int (iI (gc)), .int (iI (ph)), .int (iI (mo))])), (y2, .inl (cI, 4, .inl (aI C)))]) S (c_X0_place l D cI cL tw (b) (pq) (cq) (P) (z8) (j) (z54) (hB) (by omega) (by omega) (by omega)) gX1_chanceAfterGrace_X0_place rfl rfl rfl ⟨rfl, f_X0_place⟩ hR (Nat.le_of_ble_eq_true rfl) (Nat.le_of_ble_eq_true rfl) (hE.kept hS.2.1) hP hD hS hA [2, 3, 4] [0, 1] rfl rfl (by decide) rfl (by decide) (by decide) 0 rfl rfl rfl hl.1 rfl (Nat.le_of_ble_eq_true rfl) dX1_chanceAfterGrace_88 ⟨Nat.zero_le _, Nat.zero_le _⟩ (fun u88 H locs hz88 hP hD hS => ?_)
          have hP : va_P D vwCl [(y0, .inr (1, [.ref b, .ref y2, .int (iI (tu)), .int (iI (gc)), .int (iI (ph)), .int (iI (mo))])), (y2, .inl (cI, 4, .inl (aI C))), (b, .inr (0, [.ref pq, .ref cq])), (pq, .inl (cI, 16, .inl (aI (uI P (4 * (z8) + (j)) (z54))))), (cq, .inl (cI, 136, .inl (aI (cnt (uI P (4 * (z8) + (j)) (z54))))))] H := hP.sub [0, 1, 2, 3, 4] rfl
          have hD : va_D A [(y0, .inr (1, [.ref b, .ref y2, .int (iI (tu)), .int (iI (gc)), .int (iI (ph)), .int (iI (mo))])), (y2, .inl (cI, 4, .inl (aI C))), (b, .inr (0, [.ref pq, .ref cq])), (pq, .inl (cI, 16, .inl (aI (uI P (4 * (z8) + (j)) (z54))))), (cq, .inl (cI, 136, .inl (aI (cnt (uI P (4 * (z8) + (j)) (z54))))))] := hD.sub [0, 1, 2, 3, 4] (by decide) rfl
          refine lv_iload hx hb dX1_chanceAfterGrace_91 (lv_at hl 3 rfl) ?_
          refine lv_aload_n hx hb dX1_chanceAfterGrace_93 rfl (lv_at hl 5 rfl) ?_
          refine lv_iload_n hx hb dX1_chanceAfterGrace_94 rfl (lv_at hl 7 rfl) ?_
          refine lv_iload_n hx hb dX1_chanceAfterGrace_95 rfl (lv_at hl 8 rfl) ?_
          refine r_callVi (As := [.int (iI (2)), .int (iI (g))]) (rest := [.int (iI (best))]) (wr := []) S (c_X1_chanceWithin_2 l D cI cL tw (y0) (y2) (b) (pq) (cq) (tu) (ph) (mo) (gc) ((uI P (4 * (z8) + (j)) (z54))) (C) (g) (uI_rng hB (by omega)) (by omega) (by omega)) gX1_chanceAfterGrace_X1_chanceWithin rfl rfl rfl ⟨rfl, f_X1_chanceWithin⟩ hR (Nat.le_of_ble_eq_true rfl) (Nat.le_of_ble_eq_true rfl) (hE.kept hS.2.1) hP hD hS hA [0, 1, 2, 3, 4] [] rfl rfl (by decide) rfl (by decide) (by decide) 0 rfl rfl rfl hl.1 rfl (Nat.le_of_ble_eq_true rfl) dX1_chanceAfterGrace_96 ⟨Nat.zero_le _, Nat.zero_le _⟩ (fun z96 u96 H locs hz96 hP hD hS => ?_)
          have hP : va_P D vwCl [(y0, .inr (1, [.ref b, .ref y2, .int (iI (tu)), .int (iI (gc)), .int (iI (ph)), .int (iI (mo))])), (y2, .inl (cI, 4, .inl (aI C))), (b, .inr (0, [.ref pq, .ref cq])), (pq, .inl (cI, 16, .inl (aI (uI P (4 * (z8) + (j)) (z54))))), (cq, .inl (cI, 136, .inl (aI (cnt (uI P (4 * (z8) + (j)) (z54))))))] H := hP.sub [0, 1, 2, 3, 4] rfl
          have hD : va_D A [(y0, .inr (1, [.ref b, .ref y2, .int (iI (tu)), .int (iI (gc)), .int (iI (ph)), .int (iI (mo))])), (y2, .inl (cI, 4, .inl (aI C))), (b, .inr (0, [.ref pq, .ref cq])), (pq, .inl (cI, 16, .inl (aI (uI P (4 * (z8) + (j)) (z54))))), (cq, .inl (cI, 136, .inl (aI (cnt (uI P (4 * (z8) + (j)) (z54))))))] := hD.sub [0, 1, 2, 3, 4] (by decide) rfl
          have rz96 := ch_rng2 tu g (uI P (4 * (z8) + (j)) (z54))
          rw [← hz96] at rz96
          refine r_mmax S hR (Nat.le_of_ble_eq_true rfl) (Nat.le_of_ble_eq_true rfl) (hts _ mw_X1_chanceAfterGrace_2_3) (hts _ mw_X1_chanceAfterGrace_2_4) (hts _ mw_X1_chanceAfterGrace_2_5) (hts _ mw_X1_chanceAfterGrace_2_6) ⟨Nat.zero_le _, Nat.zero_le _⟩ hl.1 (Nat.le_of_ble_eq_true rfl) (by unfold rI; omega) (by unfold rI; omega) dX1_chanceAfterGrace_99 (fun z99 hz99 => ?_)
          refine lv_istore (lv' := [(5, .int (iI (z99))), (8, .int (iI (z73))), (7, .int (iI (z54))), (6, .int (iI (j))), (4, .int (iI (z8))), (0, .ref y0), (1, .int (iI (m))), (2, .int (iI (2))), (3, .int (iI (g)))]) hx hb dX1_chanceAfterGrace_102 hl (by decide) rfl (fun ls hl => ?_)
          refine lv_aload_n hx hb dX1_chanceAfterGrace_104 rfl (lv_at hl 5 rfl) ?_
          refine va_get (D := D) (ci := 1) (v := .ref b) (C := RX1) (T := TX1) (N := 6) hx hb hts mu_X1_chanceAfterGrace_2_X1 hown hE.1 hP 0 rfl rfl 0 (by decide) (hts _ mw_X1_chanceAfterGrace_2_0) (fun _ h9 => h9) rfl dX1_chanceAfterGrace_105 ?_
          refine lv_iload hx hb dX1_chanceAfterGrace_108 (lv_at hl 4 rfl) ?_
          refine lv_iload hx hb dX1_chanceAfterGrace_110 (lv_at hl 3 rfl) ?_
          refine lv_iload hx hb dX1_chanceAfterGrace_112 (lv_at hl 1 rfl) ?_
          refine r_callVv (As := [.int (iI (z8)), .int (iI (j)), .int (iI (z73))]) (rest := []) (wr := [(y0, .inr (1, [.ref b, .ref y2, .int (iI (tu)), .int (iI (gc)), .int (iI (ph)), .int (iI (mo))])), (y2, .inl (cI, 4, .inl (aI C)))]) S (c_X0_place l D cI cL tw (b) (pq) (cq) ((uI P (4 * (z8) + (j)) (z54))) (z8) (j) (z73) (uI_rng hB (by omega)) (by omega) (by omega) (by omega)) gX1_chanceAfterGrace_X0_place rfl rfl rfl ⟨rfl, f_X0_place⟩ hR (Nat.le_of_ble_eq_true rfl) (Nat.le_of_ble_eq_true rfl) (hE.kept hS.2.1) hP hD hS hA [2, 3, 4] [0, 1] rfl rfl (by decide) rfl (by decide) (by decide) 0 rfl rfl rfl hl.1 rfl (Nat.le_of_ble_eq_true rfl) dX1_chanceAfterGrace_114 ⟨Nat.zero_le _, Nat.zero_le _⟩ (fun u114 H locs hz114 hP hD hS => ?_)
          have hP : va_P D vwCl [(y0, .inr (1, [.ref b, .ref y2, .int (iI (tu)), .int (iI (gc)), .int (iI (ph)), .int (iI (mo))])), (y2, .inl (cI, 4, .inl (aI C))), (b, .inr (0, [.ref pq, .ref cq])), (pq, .inl (cI, 16, .inl (aI (uI (uI P (4 * (z8) + (j)) (z54)) (4 * (z8) + (j)) (z73))))), (cq, .inl (cI, 136, .inl (aI (cnt (uI (uI P (4 * (z8) + (j)) (z54)) (4 * (z8) + (j)) (z73))))))] H := hP.sub [0, 1, 2, 3, 4] rfl
          have hD : va_D A [(y0, .inr (1, [.ref b, .ref y2, .int (iI (tu)), .int (iI (gc)), .int (iI (ph)), .int (iI (mo))])), (y2, .inl (cI, 4, .inl (aI C))), (b, .inr (0, [.ref pq, .ref cq])), (pq, .inl (cI, 16, .inl (aI (uI (uI P (4 * (z8) + (j)) (z54)) (4 * (z8) + (j)) (z73))))), (cq, .inl (cI, 136, .inl (aI (cnt (uI (uI P (4 * (z8) + (j)) (z54)) (4 * (z8) + (j)) (z73))))))] := hD.sub [0, 1, 2, 3, 4] (by decide) rfl
          have e9 : uI (uI P (4 * (z8) + (j)) (z54)) (4 * (z8) + (j)) (z73) = P := by rw [hz73]; exact uI_back _ _ _
          rw [e9] at hP hD
          refine lv_iinc (v := iI (j + 1)) (lv' := [(6, .int (iI (j + 1))), (5, .int (iI (z99))), (8, .int (iI (z73))), (7, .int (iI (z54))), (4, .int (iI (z8))), (0, .ref y0), (1, .int (iI (m))), (2, .int (iI (2))), (3, .int (iI (g)))]) hx hb dX1_chanceAfterGrace_117 hl (k := 3) rfl (iI_add _ _) (by decide) rfl (fun ls hl => ?_)
          refine lv_goto (tgt := 39) hx hb dX1_chanceAfterGrace_120 (by decide) ?_
          exact ih_39 (4 - (j + 1) : Int).toNat (nlt (by omega) hd_39 (by omega)) (z99) (j + 1) (Int.toNat_of_nonneg (by omega)) (by omega) (by have q1 := tX_can (P := P) (k := 4 * z8 + j) (m := m) (by rw [← hz54]; omega); have ey := chGn_yes (R := ch tu 2 g) (P := P) (a := z8) (m := m) (j := j) (by omega) q1.1; rw [← q1.2, ← hz54, ← hz96, ← hbst.1] at ey; refine ⟨?_, by omega⟩; rw [ey]; split <;> omega) _ _ hP hD hS ls (lv_sub hl [0, 1, 4, 5, 6, 7, 8] rfl)
    exact lp_39 (4 - (0) : Int).toNat (0) (0) (Int.toNat_of_nonneg (by omega)) (by omega) (by exact ⟨(chGn_0 (by rw [← hz20]; exact h23)).symm, by omega⟩) _ _ hP hD hS ls (lv_sub hl [0, 1, 2, 3, 4, 5, 6] rfl)
  · refine lv_aload_n hx hb dX1_chanceAfterGrace_26 rfl (lv_at hl 1 rfl) ?_
    refine lv_iload_n hx hb dX1_chanceAfterGrace_27 rfl (lv_at hl 3 rfl) ?_
    refine lv_iload_n hx hb dX1_chanceAfterGrace_28 rfl (lv_at hl 4 rfl) ?_
    refine r_callVi (As := [.int (iI (2)), .int (iI (g))]) (rest := []) (wr := []) S (c_X1_chanceWithin_2 l D cI cL tw (y0) (y2) (b) (pq) (cq) (tu) (ph) (mo) (gc) (P) (C) (g) (hB) (by omega) (by omega)) gX1_chanceAfterGrace_X1_chanceWithin rfl rfl rfl ⟨rfl, f_X1_chanceWithin⟩ hR (Nat.le_of_ble_eq_true rfl) (Nat.le_of_ble_eq_true rfl) (hE.kept hS.2.1) hP hD hS hA [0, 1, 2, 3, 4] [] rfl rfl (by decide) rfl (by decide) (by decide) 0 rfl rfl rfl hl.1 rfl (Nat.le_of_ble_eq_true rfl) dX1_chanceAfterGrace_29 ⟨Nat.zero_le _, Nat.zero_le _⟩ (fun z29 u29 H locs hz29 hP hD hS => ?_)
    have hP : va_P D vwCl [(y0, .inr (1, [.ref b, .ref y2, .int (iI (tu)), .int (iI (gc)), .int (iI (ph)), .int (iI (mo))])), (y2, .inl (cI, 4, .inl (aI C))), (b, .inr (0, [.ref pq, .ref cq])), (pq, .inl (cI, 16, .inl (aI P))), (cq, .inl (cI, 136, .inl (aI (cnt P))))] H := hP.sub [0, 1, 2, 3, 4] rfl
    have hD : va_D A [(y0, .inr (1, [.ref b, .ref y2, .int (iI (tu)), .int (iI (gc)), .int (iI (ph)), .int (iI (mo))])), (y2, .inl (cI, 4, .inl (aI C))), (b, .inr (0, [.ref pq, .ref cq])), (pq, .inl (cI, 16, .inl (aI P))), (cq, .inl (cI, 136, .inl (aI (cnt P))))] := hD.sub [0, 1, 2, 3, 4] (by decide) rfl
    exact hret (z29) () _ _ _ _ dX1_chanceAfterGrace_32 (by rw [hz29, ← hz8]; exact (chGn_z (by rw [← hz20]; exact h23)).symm) hP hD hS

set_option maxRecDepth 20000 in
theorem mw_X1_chanceAfter_2_0 : (.fieldLink RX1 10 "PachisiYard" "board" "LPachisiYard$Board;" : Cond) ∈ wsX1_chanceAfter := by decide +kernel
set_option maxRecDepth 20000 in
theorem mu_X1_chanceAfter_2_X1 : ∀ w ∈ wsX10, w ∈ wsX1_chanceAfter := by decide +kernel
set_option maxRecDepth 20000 in
theorem mw_X1_chanceAfter_2_2 : (.fieldLink RX1 20 "PachisiYard" "turn" "I" : Cond) ∈ wsX1_chanceAfter := by decide +kernel
set_option maxHeartbeats 4000000 in
set_option maxRecDepth 100000 in
theorem c_X1_chanceAfter_2 (l : Launch) (D : va_G) (cI cL : ClassId) (tw : Nat) (y0 : Nat) (y2 : Nat) (b : Nat) (pq : Nat) (cq : Nat) (tu : Int) (ph : Int) (mo : Int) (gc : Int) (P : Int → Int) (C : Int → Int) (m : Int) (g : Int) (hB : ∀ i, 0 ≤ P i ∧ P i ≤ 72) (htu : 0 ≤ tu ∧ tu ≤ 3) (hg : 0 ≤ g ∧ g ≤ 2) (hm : 0 ≤ m ∧ m ≤ 6) : RWi l yX1_chanceAfter wsX1_chanceAfter { frames := 10, cells := 0, slots := 0, locals := 256 } D cI cL tw [.ref y0, .int (iI (m)), .int (iI (2)), .int (iI (g))] [(y0, .inr (1, [.ref b, .ref y2, .int (iI (tu)), .int (iI (gc)), .int (iI (ph)), .int (iI (mo))])), (y2, .inl (cI, 4, .inl (aI C))), (b, .inr (0, [.ref pq, .ref cq])), (pq, .inl (cI, 16, .inl (aI P))), (cq, .inl (cI, 136, .inl (aI (cnt P))))] (fun (z : Int) (u : Unit) => z = chA tu g 2 (ch tu 2) P m) (fun u : Unit => [(y0, .inr (1, [.ref b, .ref y2, .int (iI (tu)), .int (iI (gc)), .int (iI (ph)), .int (iI (mo))])), (y2, .inl (cI, 4, .inl (aI C))), (b, .inr (0, [.ref pq, .ref cq])), (pq, .inl (cI, 16, .inl (aI P))), (cq, .inl (cI, 136, .inl (aI (cnt P))))]) := by
  refine rwi_of (cc := cX1_chanceAfter) (maxL := 4) (rt := .int) (own := RX1) (by decide) rfl rfl (Or.inl rfl) (Nat.le_of_ble_eq_true rfl) ?_
  intro p e R s mt args below meth c H0 Q ls A S hR hE hP hD hS hA hl hret
  obtain ⟨hx, hb, hml, hown, hts⟩ := id S
  have hl : lv_has ls 4 [(0, .ref y0), (1, .int (iI (m))), (2, .int (iI (2))), (3, .int (iI (g)))] := hl
  refine lv_iload_n hx hb dX1_chanceAfter_0 rfl (lv_at hl 1 rfl) ?_
  refine lv_iload_n hx hb dX1_chanceAfter_1 rfl (lv_at hl 3 rfl) ?_
  refine r_callS (As := [.int (iI (m)), .int (iI (g))]) (rest := []) S (c_X1_isGraceTooMany l D cI cL tw (m) (g) (by omega) (by omega)) gX1_chanceAfter_X1_isGraceTooMany rfl rfl rfl f_X1_isGraceTooMany hR (Nat.le_of_ble_eq_true rfl) (Nat.le_of_ble_eq_true rfl) (hE.kept hS.2.1) rfl hl.1 rfl (Nat.le_of_ble_eq_true rfl) dX1_chanceAfter_2 ⟨Nat.zero_le _, Nat.zero_le _⟩ (fun z2 hz2 => ?_)
  rcases hz2 with ⟨rfl, hz2⟩ | ⟨rfl, hz2⟩
  · refine r_if_eq (tgt := 10) hx hb dX1_chanceAfter_5 (by decide) (by unfold rI; decide) (fun h9 => absurd h9 (by omega)) (fun h5 => ?_)
    refine r_iconst hx hb dX1_chanceAfter_8 ?_
    exact hret (0) () _ _ _ _ dX1_chanceAfter_9 (by exact (chA_lost hz2).symm) hP hD hS
  · refine r_if_eq (tgt := 10) hx hb dX1_chanceAfter_5 (by decide) (by unfold rI; decide) (fun h5 => ?_) (fun h9 => absurd h9 (by omega))
    refine lv_aload_n hx hb dX1_chanceAfter_10 rfl (lv_at hl 0 rfl) ?_
    refine va_get (D := D) (ci := 1) (v := .ref b) (C := RX1) (T := TX1) (N := 6) hx hb hts mu_X1_chanceAfter_2_X1 hown hE.1 hP 0 rfl rfl 0 (by decide) (hts _ mw_X1_chanceAfter_2_0) (fun _ h9 => h9) rfl dX1_chanceAfter_11 ?_
    refine r_iconst hx hb dX1_chanceAfter_14 ?_
    refine lv_aload_n hx hb dX1_chanceAfter_15 rfl (lv_at hl 0 rfl) ?_
    refine va_get (D := D) (ci := 1) (v := .ref b) (C := RX1) (T := TX1) (N := 6) hx hb hts mu_X1_chanceAfter_2_X1 hown hE.1 hP 0 rfl rfl 0 (by decide) (hts _ mw_X1_chanceAfter_2_0) (fun _ h9 => h9) rfl dX1_chanceAfter_16 ?_
    refine lv_aload_n hx hb dX1_chanceAfter_19 rfl (lv_at hl 0 rfl) ?_
    refine va_get (D := D) (ci := 1) (v := .int (iI (tu))) (C := RX1) (T := TX1) (N := 6) hx hb hts mu_X1_chanceAfter_2_X1 hown hE.1 hP 0 rfl rfl 2 (by decide) (hts _ mw_X1_chanceAfter_2_2) (fun _ h9 => h9) rfl dX1_chanceAfter_20 ?_
    refine r_callV (As := [.int (iI (tu))]) (rest := [.int (iI (1)), .ref b]) S (c_X0_moverFor l D cI cL tw (b) (pq) (cq) (P) (tu) (hB) (by omega)) gX1_chanceAfter_X0_moverFor rfl rfl rfl ⟨rfl, f_X0_moverFor⟩ hR (Nat.le_of_ble_eq_true rfl) (Nat.le_of_ble_eq_true rfl) (hE.kept hS.2.1) hP [2, 3, 4] rfl 0 rfl rfl rfl hl.1 rfl (Nat.le_of_ble_eq_true rfl) dX1_chanceAfter_23 ⟨Nat.zero_le _, Nat.zero_le _⟩ (fun z23 hz23 => ?_)
    obtain ⟨hz23, rz23⟩ := hz23
    refine lv_iload_n hx hb dX1_chanceAfter_26 rfl (lv_at hl 1 rfl) ?_
    refine r_callV (As := [.int (iI (1)), .int (iI (z23)), .int (iI (m))]) (rest := []) S (c_X0_canDo l D cI cL tw (b) (pq) (cq) (P) (1) (z23) (m) (hB) (by omega) (by omega) (by omega)) gX1_chanceAfter_X0_canDo rfl rfl rfl ⟨rfl, f_X0_canDo⟩ hR (Nat.le_of_ble_eq_true rfl) (Nat.le_of_ble_eq_true rfl) (hE.kept hS.2.1) hP [2, 3, 4] rfl 0 rfl rfl rfl hl.1 rfl (Nat.le_of_ble_eq_true rfl) dX1_chanceAfter_27 ⟨Nat.zero_le _, Nat.zero_le _⟩ (fun z27 hz27 => ?_)
    rcases hz27 with ⟨rfl, hz27⟩ | ⟨rfl, hz27⟩
    · refine r_if_eq (tgt := 38) hx hb dX1_chanceAfter_30 (by decide) (by unfold rI; decide) (fun h9 => absurd h9 (by omega)) (fun h30 => ?_)
      refine lv_iload_n hx hb dX1_chanceAfter_33 rfl (lv_at hl 2 rfl) ?_
      refine r_callS (As := [.int (iI (2))]) (rest := []) S (c_X1_certainty_2 l D cI cL tw ) gX1_chanceAfter_X1_certainty rfl rfl rfl f_X1_certainty hR (Nat.le_of_ble_eq_true rfl) (Nat.le_of_ble_eq_true rfl) (hE.kept hS.2.1) rfl hl.1 rfl (Nat.le_of_ble_eq_true rfl) dX1_chanceAfter_34 ⟨Nat.zero_le _, Nat.zero_le _⟩ (fun z34 hz34 => ?_)
      exact hret (z34) () _ _ _ _ dX1_chanceAfter_37 (by rw [hz34]; exact ((chA_cap hz2 (by rw [← hz23]; exact hz27)).trans (by decide)).symm) hP hD hS
    · refine r_if_eq (tgt := 38) hx hb dX1_chanceAfter_30 (by decide) (by unfold rI; decide) (fun h30 => ?_) (fun h9 => absurd h9 (by omega))
      refine lv_iload_n hx hb dX1_chanceAfter_38 rfl (lv_at hl 1 rfl) ?_
      refine r_callS (As := [.int (iI (m))]) (rest := []) S (c_X1_isGrace l D cI cL tw (m) (by omega)) gX1_chanceAfter_X1_isGrace rfl rfl rfl f_X1_isGrace hR (Nat.le_of_ble_eq_true rfl) (Nat.le_of_ble_eq_true rfl) (hE.kept hS.2.1) rfl hl.1 rfl (Nat.le_of_ble_eq_true rfl) dX1_chanceAfter_39 ⟨Nat.zero_le _, Nat.zero_le _⟩ (fun z39 hz39 => ?_)
      rcases hz39 with ⟨rfl, hz39⟩ | ⟨rfl, hz39⟩
      · refine r_if_eq (tgt := 49) hx hb dX1_chanceAfter_42 (by decide) (by unfold rI; decide) (fun h9 => absurd h9 (by omega)) (fun h42 => ?_)
        refine lv_iload_n hx hb dX1_chanceAfter_45 rfl (lv_at hl 2 rfl) ?_
        refine r_if_gt (tgt := 51) hx hb dX1_chanceAfter_46 (by decide) (by unfold rI; decide) (fun h46 => ?_) (fun h9 => absurd h9 (by omega))
        refine lv_aload_n hx hb dX1_chanceAfter_51 rfl (lv_at hl 0 rfl) ?_
        refine lv_iload_n hx hb dX1_chanceAfter_52 rfl (lv_at hl 1 rfl) ?_
        refine lv_iload_n hx hb dX1_chanceAfter_53 rfl (lv_at hl 2 rfl) ?_
        refine lv_iload_n hx hb dX1_chanceAfter_54 rfl (lv_at hl 3 rfl) ?_
        refine r_iconst hx hb dX1_chanceAfter_55 ?_
        refine r_iadd hx hb dX1_chanceAfter_56 ?_
        refine r_callVi (As := [.int (iI (m)), .int (iI (2)), .int (iI ((g) + (1)))]) (rest := []) (wr := []) S (c_X1_chanceAfterGrace_2 l D cI cL tw (y0) (y2) (b) (pq) (cq) (tu) (ph) (mo) (gc) (P) (C) (m) ((g) + (1)) (hB) (by omega) (by omega) (by omega)) gX1_chanceAfter_X1_chanceAfterGrace rfl rfl rfl ⟨rfl, f_X1_chanceAfterGrace⟩ hR (Nat.le_of_ble_eq_true rfl) (Nat.le_of_ble_eq_true rfl) (hE.kept hS.2.1) hP hD hS hA [0, 1, 2, 3, 4] [] rfl rfl (by decide) rfl (by decide) (by decide) 0 rfl rfl rfl hl.1 rfl (Nat.le_of_ble_eq_true rfl) dX1_chanceAfter_57 ⟨Nat.zero_le _, Nat.zero_le _⟩ (fun z57 u57 H locs hz57 hP hD hS => ?_)
        have hP : va_P D vwCl [(y0, .inr (1, [.ref b, .ref y2, .int (iI (tu)), .int (iI (gc)), .int (iI (ph)), .int (iI (mo))])), (y2, .inl (cI, 4, .inl (aI C))), (b, .inr (0, [.ref pq, .ref cq])), (pq, .inl (cI, 16, .inl (aI P))), (cq, .inl (cI, 136, .inl (aI (cnt P))))] H := hP.sub [0, 1, 2, 3, 4] rfl
        have hD : va_D A [(y0, .inr (1, [.ref b, .ref y2, .int (iI (tu)), .int (iI (gc)), .int (iI (ph)), .int (iI (mo))])), (y2, .inl (cI, 4, .inl (aI C))), (b, .inr (0, [.ref pq, .ref cq])), (pq, .inl (cI, 16, .inl (aI P))), (cq, .inl (cI, 136, .inl (aI (cnt P))))] := hD.sub [0, 1, 2, 3, 4] (by decide) rfl
        exact hret (z57) () _ _ _ _ dX1_chanceAfter_60 (by rw [hz57]; exact (chA_go hz2 (by rw [← hz23]; exact hz27) (by omega)).symm) hP hD hS
      · refine r_if_eq (tgt := 49) hx hb dX1_chanceAfter_42 (by decide) (by unfold rI; decide) (fun h42 => ?_) (fun h9 => absurd h9 (by omega))
        refine r_iconst hx hb dX1_chanceAfter_49 ?_
        exact hret (0) () _ _ _ _ dX1_chanceAfter_50 (by exact (chA_end (by rw [← hz23]; exact hz27) (Or.inl hz39)).symm) hP hD hS

set_option maxHeartbeats 4000000 in
set_option maxRecDepth 100000 in
theorem c_X1_chanceWithin_3 (l : Launch) (D : va_G) (cI cL : ClassId) (tw : Nat) (y0 : Nat) (y2 : Nat) (b : Nat) (pq : Nat) (cq : Nat) (tu : Int) (ph : Int) (mo : Int) (gc : Int) (P : Int → Int) (C : Int → Int) (g : Int) (hB : ∀ i, 0 ≤ P i ∧ P i ≤ 72) (htu : 0 ≤ tu ∧ tu ≤ 3) (hg : 0 ≤ g ∧ g ≤ 2) : RWi l yX1_chanceWithin wsX1_chanceWithin { frames := 11, cells := 0, slots := 0, locals := 279 } D cI cL tw [.ref y0, .int (iI (3)), .int (iI (g))] [(y0, .inr (1, [.ref b, .ref y2, .int (iI (tu)), .int (iI (gc)), .int (iI (ph)), .int (iI (mo))])), (y2, .inl (cI, 4, .inl (aI C))), (b, .inr (0, [.ref pq, .ref cq])), (pq, .inl (cI, 16, .inl (aI P))), (cq, .inl (cI, 136, .inl (aI (cnt P))))] (fun (z : Int) (u : Unit) => z = ch tu 3 g P) (fun u : Unit => [(y0, .inr (1, [.ref b, .ref y2, .int (iI (tu)), .int (iI (gc)), .int (iI (ph)), .int (iI (mo))])), (y2, .inl (cI, 4, .inl (aI C))), (b, .inr (0, [.ref pq, .ref cq])), (pq, .inl (cI, 16, .inl (aI P))), (cq, .inl (cI, 136, .inl (aI (cnt P))))]) := by
  refine rwi_of (cc := cX1_chanceWithin) (maxL := 5) (rt := .int) (own := RX1) (by decide) rfl rfl (Or.inl rfl) (Nat.le_of_ble_eq_true rfl) ?_
  intro p e R s mt args below meth c H0 Q ls A S hR hE hP hD hS hA hl hret
  obtain ⟨hx, hb, hml, hown, hts⟩ := id S
  have hl : lv_has ls 5 [(0, .ref y0), (1, .int (iI (3))), (2, .int (iI (g)))] := hl
  refine lv_iload_n hx hb dX1_chanceWithin_0 rfl (lv_at hl 1 rfl) ?_
  refine r_if_gt (tgt := 6) hx hb dX1_chanceWithin_1 (by decide) (by unfold rI; decide) (fun h1 => ?_) (fun h9 => absurd h9 (by omega))
  refine r_iconst hx hb dX1_chanceWithin_6 ?_
  refine lv_istore_n (lv' := [(3, .int (iI (0))), (0, .ref y0), (1, .int (iI (3))), (2, .int (iI (g)))]) hx hb dX1_chanceWithin_7 rfl hl (by decide) rfl (fun ls hl => ?_)
  refine r_iconst hx hb dX1_chanceWithin_8 ?_
  refine lv_istore (lv' := [(4, .int (iI (0))), (3, .int (iI (0))), (0, .ref y0), (1, .int (iI (3))), (2, .int (iI (g)))]) hx hb dX1_chanceWithin_9 hl (by decide) rfl (fun ls hl => ?_)
  have lp_11 : ∀ (d_11 : Nat) (n : Int) (k : Int), (d_11 : Int) = 7 - k → (0 ≤ k ∧ k ≤ 7) → (n = sZ (fun m => wyI m * chA tu g 2 (ch tu 2) P m) k) → ∀ (H : Heap) (locs : List Loc), va_P D vwCl [(y0, .inr (1, [.ref b, .ref y2, .int (iI (tu)), .int (iI (gc)), .int (iI (ph)), .int (iI (mo))])), (y2, .inl (cI, 4, .inl (aI C))), (b, .inr (0, [.ref pq, .ref cq])), (pq, .inl (cI, 16, .inl (aI P))), (cq, .inl (cI, 136, .inl (aI (cnt P))))] H → va_D A [(y0, .inr (1, [.ref b, .ref y2, .int (iI (tu)), .int (iI (gc)), .int (iI (ph)), .int (iI (mo))])), (y2, .inl (cI, 4, .inl (aI C))), (b, .inr (0, [.ref pq, .ref cq])), (pq, .inl (cI, 16, .inl (aI P))), (cq, .inl (cI, 136, .inl (aI (cnt P))))] → va_S A H0 H locs → ∀ ls : Array Slot, lv_has ls 5 [(4, .int (iI (k))), (3, .int (iI (n))), (0, .ref y0), (1, .int (iI (3))), (2, .int (iI (g)))] → W p l e R s mt args below meth c H locs 0 0 Q (F0 mt 11 ls []) := by
    intro d_11
    induction d_11 using Nat.strongRecOn with
    | ind d_11 ih_11 =>
    intro n k hd_11 hk hn H locs hP hD hS ls hl
    refine lv_iload hx hb dX1_chanceWithin_11 (lv_at hl 0 rfl) ?_
    refine r_bipush hx hb dX1_chanceWithin_13 (by decide) ?_
    refine r_icmp_gt (tgt := 43) hx hb dX1_chanceWithin_15 (by decide) (by unfold rI; omega) (by unfold rI; decide) (fun h15 => ?_) (fun h15 => ?_)
    · refine lv_iload_n hx hb dX1_chanceWithin_43 rfl (lv_at hl 1 rfl) ?_
      exact hret (n) () _ _ _ _ dX1_chanceWithin_44 (by have e : k = 7 := (by omega); subst e; exact hn) hP hD hS
    · refine lv_iload_n hx hb dX1_chanceWithin_18 rfl (lv_at hl 1 rfl) ?_
      refine lv_iload hx hb dX1_chanceWithin_19 (lv_at hl 0 rfl) ?_
      refine r_callS (As := [.int (iI (k))]) (rest := [.int (iI (n))]) S (c_X1_waysOf l D cI cL tw (k) (by omega)) gX1_chanceWithin_X1_waysOf rfl rfl rfl f_X1_waysOf hR (Nat.le_of_ble_eq_true rfl) (Nat.le_of_ble_eq_true rfl) (hE.kept hS.2.1) rfl hl.1 rfl (Nat.le_of_ble_eq_true rfl) dX1_chanceWithin_21 ⟨Nat.zero_le _, Nat.zero_le _⟩ (fun z21 hz21 => ?_)
      refine lv_aload_n hx hb dX1_chanceWithin_24 rfl (lv_at hl 2 rfl) ?_
      refine lv_iload hx hb dX1_chanceWithin_25 (lv_at hl 0 rfl) ?_
      refine lv_iload_n hx hb dX1_chanceWithin_27 rfl (lv_at hl 3 rfl) ?_
      refine r_iconst hx hb dX1_chanceWithin_28 ?_
      refine r_isub hx hb dX1_chanceWithin_29 ?_
      refine r_top (2) (by decide) ?_
      refine lv_iload_n hx hb dX1_chanceWithin_30 rfl (lv_at hl 4 rfl) ?_
      refine r_callVi (As := [.int (iI (k)), .int (iI (2)), .int (iI (g))]) (rest := [.int (iI (z21)), .int (iI (n))]) (wr := []) S (c_X1_chanceAfter_2 l D cI cL tw (y0) (y2) (b) (pq) (cq) (tu) (ph) (mo) (gc) (P) (C) (k) (g) (hB) (by omega) (by omega) (by omega)) gX1_chanceWithin_X1_chanceAfter rfl rfl rfl ⟨rfl, f_X1_chanceAfter⟩ hR (Nat.le_of_ble_eq_true rfl) (Nat.le_of_ble_eq_true rfl) (hE.kept hS.2.1) hP hD hS hA [0, 1, 2, 3, 4] [] rfl rfl (by decide) rfl (by decide) (by decide) 0 rfl rfl rfl hl.1 rfl (Nat.le_of_ble_eq_true rfl) dX1_chanceWithin_31 ⟨Nat.zero_le _, Nat.zero_le _⟩ (fun z31 u31 H locs hz31 hP hD hS => ?_)
      have hP : va_P D vwCl [(y0, .inr (1, [.ref b, .ref y2, .int (iI (tu)), .int (iI (gc)), .int (iI (ph)), .int (iI (mo))])), (y2, .inl (cI, 4, .inl (aI C))), (b, .inr (0, [.ref pq, .ref cq])), (pq, .inl (cI, 16, .inl (aI P))), (cq, .inl (cI, 136, .inl (aI (cnt P))))] H := hP.sub [0, 1, 2, 3, 4] rfl
      have hD : va_D A [(y0, .inr (1, [.ref b, .ref y2, .int (iI (tu)), .int (iI (gc)), .int (iI (ph)), .int (iI (mo))])), (y2, .inl (cI, 4, .inl (aI C))), (b, .inr (0, [.ref pq, .ref cq])), (pq, .inl (cI, 16, .inl (aI P))), (cq, .inl (cI, 136, .inl (aI (cnt P))))] := hD.sub [0, 1, 2, 3, 4] (by decide) rfl
      refine r_imul hx hb dX1_chanceWithin_34 ?_
      refine r_iadd hx hb dX1_chanceWithin_35 ?_
      refine lv_istore_n (lv' := [(3, .int (iI ((n) + ((z21) * (z31))))), (4, .int (iI (k))), (0, .ref y0), (1, .int (iI (3))), (2, .int (iI (g)))]) hx hb dX1_chanceWithin_36 rfl hl (by decide) rfl (fun ls hl => ?_)
      refine lv_iinc (v := iI (k + 1)) (lv' := [(4, .int (iI (k + 1))), (3, .int (iI ((n) + ((z21) * (z31))))), (0, .ref y0), (1, .int (iI (3))), (2, .int (iI (g)))]) hx hb dX1_chanceWithin_37 hl (k := 1) rfl (iI_add _ _) (by decide) rfl (fun ls hl => ?_)
      refine lv_goto (tgt := 11) hx hb dX1_chanceWithin_40 (by decide) ?_
      exact ih_11 (7 - (k + 1) : Int).toNat (nlt (by omega) hd_11 (by omega)) ((n) + ((z21) * (z31))) (k + 1) (Int.toNat_of_nonneg (by omega)) (by omega) (by rw [sZ_s _ (by omega), ← hn]; show _ = n + wyI k * chA tu g 2 (ch tu 2) P k; rw [← hz31, ← hz21]) _ _ hP hD hS ls (lv_sub hl [0, 1, 2, 3, 4] rfl)
  exact lp_11 (7 - (0) : Int).toNat (0) (0) (Int.toNat_of_nonneg (by omega)) (by omega) ((sZ_0 _).symm) _ _ hP hD hS ls (lv_sub hl [0, 1, 2, 3, 4] rfl)
