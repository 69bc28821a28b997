set_option maxRecDepth 20000 in
theorem mw_X2_thrown_0 : (.fieldLink RX2 19 "PachisiYardModel" "thrown" "I" : Cond) ∈ wsX2_thrown := by decide +kernel
set_option maxRecDepth 20000 in
theorem mu_X2_thrown_X2 : ∀ w ∈ wsX20, w ∈ wsX2_thrown := by decide +kernel
theorem f_X2_thrown : yX2_thrown.cls ≠ "java/lang/invoke/MethodHandle" ∧ yX2_thrown.cls ≠ "java/lang/invoke/VarHandle" ∧ (parseMethodDescriptor yX2_thrown.desc).map (fun d => d.parameters.length) = some 0 := by decide +kernel
set_option maxHeartbeats 4000000 in
set_option maxRecDepth 100000 in
theorem c_X2_thrown (l : Launch) (D : va_G) (cI cL : ClassId) (tw : Nat) (g0 : Nat) (g1 : Nat) (g2 : Nat) (g3 : Nat) (tu : Int) (ph : Int) (mo : Int) (gc : Int) (th : Int) (P : Int → Int) (C : Int → Int) (hB : ∀ i, 0 ≤ P i ∧ P i ≤ 72) : RO l yX2_thrown wsX2_thrown { frames := 0, cells := 0, slots := 0, locals := 0 } D cI cL tw [.ref g0] [(g0, .inr (2, [.ref g1, .int (iI (tu)), .int (iI (ph)), .int (iI (mo)), .int (iI (gc)), .ref g2, .ref g3, .int (iI (th))])), (g1, .inl (cI, 16, .inl (aI P))), (g2, .inl (cI, 4, .inl (aI C))), (g3, .inl (cI, 7, .inl (aI wyI)))] (fun z : Int => z = th) := by
  refine ro_of (cc := cX2_thrown) (maxL := 1) (rt := .int) (own := RX2) (by decide) rfl rfl (Or.inl rfl) (Nat.le_of_ble_eq_true rfl) ?_
  intro p e R s mt args below meth c H Q ls S hR hE hP hl hret
  obtain ⟨hx, hb, hml, hown, hts⟩ := id S
  have hl : lv_has ls 1 [(0, .ref g0)] := hl
  refine lv_aload_n hx hb dX2_thrown_0 rfl (lv_at hl 0 rfl) ?_
  refine va_get (D := D) (ci := 2) (v := .int (iI (th))) (C := RX2) (T := TX2) (N := 8) hx hb hts mu_X2_thrown_X2 hown hE.1 hP 0 rfl rfl 7 (by decide) (hts _ mw_X2_thrown_0) (fun _ h9 => h9) rfl dX2_thrown_1 ?_
  exact hret (th) _ _ dX2_thrown_4 (by rfl)

set_option maxRecDepth 20000 in
theorem mw_X2_phase_0 : (.fieldLink RX2 19 "PachisiYardModel" "thrown" "I" : Cond) ∈ wsX2_phase := by decide +kernel
set_option maxRecDepth 20000 in
theorem mu_X2_phase_X2 : ∀ w ∈ wsX20, w ∈ wsX2_phase := by decide +kernel
set_option maxRecDepth 20000 in
theorem mw_X2_phase_2 : (.fieldLink RX2 60 "PachisiYardModel" "phase" "I" : Cond) ∈ wsX2_phase := by decide +kernel
theorem f_X2_phase : yX2_phase.cls ≠ "java/lang/invoke/MethodHandle" ∧ yX2_phase.cls ≠ "java/lang/invoke/VarHandle" ∧ (parseMethodDescriptor yX2_phase.desc).map (fun d => d.parameters.length) = some 0 := by decide +kernel
set_option maxHeartbeats 4000000 in
set_option maxRecDepth 100000 in
theorem c_X2_phase (l : Launch) (D : va_G) (cI cL : ClassId) (tw : Nat) (g0 : Nat) (g1 : Nat) (g2 : Nat) (g3 : Nat) (tu : Int) (ph : Int) (mo : Int) (gc : Int) (th : Int) (P : Int → Int) (C : Int → Int) (hB : ∀ i, 0 ≤ P i ∧ P i ≤ 72) (htu : 0 ≤ tu ∧ tu ≤ 3) (hgc : 0 ≤ gc ∧ gc ≤ 2) (hph : 0 ≤ ph ∧ ph ≤ 2) (hmo : 0 ≤ mo ∧ mo ≤ 6) : RWi l yX2_phase wsX2_phase { frames := 0, cells := 0, slots := 0, locals := 0 } D cI cL tw [.ref g0] [(g0, .inr (2, [.ref g1, .int (iI (tu)), .int (iI (ph)), .int (iI (mo)), .int (iI (gc)), .ref g2, .ref g3, .int (iI (th))])), (g1, .inl (cI, 16, .inl (aI P))), (g2, .inl (cI, 4, .inl (aI C))), (g3, .inl (cI, 7, .inl (aI wyI)))] (fun (z : Int) (u : Unit) => z = ph) (fun u : Unit => [(g0, .inr (2, [.ref g1, .int (iI (tu)), .int (iI (ph)), .int (iI (mo)), .int (iI (gc)), .ref g2, .ref g3, .int (iI (0))])), (g1, .inl (cI, 16, .inl (aI P))), (g2, .inl (cI, 4, .inl (aI C))), (g3, .inl (cI, 7, .inl (aI wyI)))]) := by
  refine rwi_of (cc := cX2_phase) (maxL := 1) (rt := .int) (own := RX2) (by decide) rfl rfl (Or.inl rfl) (Nat.le_of_ble_eq_true rfl) ?_
  intro p e R s mt args below meth c H0 Q ls A S hR hE hP hD hS hA hl hret
  obtain ⟨hx, hb, hml, hown, hts⟩ := id S
  have hl : lv_has ls 1 [(0, .ref g0)] := hl
  refine lv_aload_n hx hb dX2_phase_0 rfl (lv_at hl 0 rfl) ?_
  refine r_iconst hx hb dX2_phase_1 ?_
  refine va_put (D := D) (ci := 2) (v := .int (iI (0))) (ty := .int) (C := RX2) (T := TX2) (N := 8) hx hb hts mu_X2_phase_X2 tyX2 tyX2_ok nmX2 hown hE.1 hP hD hS 0 rfl rfl 7 (by decide) (hts _ mw_X2_phase_0) (fun _ h9 => h9) rfl (by decide +kernel) rfl rfl (Nat.le_of_ble_eq_true rfl) dX2_phase_2 (fun H locs hP hD hS => ?_)
  have hP : va_P D vwCl [(g0, .inr (2, [.ref g1, .int (iI (tu)), .int (iI (ph)), .int (iI (mo)), .int (iI (gc)), .ref g2, .ref g3, .int (iI (0))])), (g1, .inl (cI, 16, .inl (aI P))), (g2, .inl (cI, 4, .inl (aI C))), (g3, .inl (cI, 7, .inl (aI wyI)))] H := hP
  have hD : va_D A [(g0, .inr (2, [.ref g1, .int (iI (tu)), .int (iI (ph)), .int (iI (mo)), .int (iI (gc)), .ref g2, .ref g3, .int (iI (0))])), (g1, .inl (cI, 16, .inl (aI P))), (g2, .inl (cI, 4, .inl (aI C))), (g3, .inl (cI, 7, .inl (aI wyI)))] := hD
  refine lv_aload_n hx hb dX2_phase_5 rfl (lv_at hl 0 rfl) ?_
  refine va_get (D := D) (ci := 2) (v := .int (iI (ph))) (C := RX2) (T := TX2) (N := 8) hx hb hts mu_X2_phase_X2 hown hE.1 hP 0 rfl rfl 2 (by decide) (hts _ mw_X2_phase_2) (fun _ h9 => h9) rfl dX2_phase_6 ?_
  exact hret (ph) () _ _ _ _ dX2_phase_9 (by rfl) hP hD hS

set_option maxRecDepth 20000 in
theorem mw_X2_onTurn_0 : (.fieldLink RX2 19 "PachisiYardModel" "thrown" "I" : Cond) ∈ wsX2_onTurn := by decide +kernel
set_option maxRecDepth 20000 in
theorem mu_X2_onTurn_X2 : ∀ w ∈ wsX20, w ∈ wsX2_onTurn := by decide +kernel
set_option maxRecDepth 20000 in
theorem mw_X2_onTurn_2 : (.fieldLink RX2 54 "PachisiYardModel" "turn" "I" : Cond) ∈ wsX2_onTurn := by decide +kernel
theorem f_X2_onTurn : yX2_onTurn.cls ≠ "java/lang/invoke/MethodHandle" ∧ yX2_onTurn.cls ≠ "java/lang/invoke/VarHandle" ∧ (parseMethodDescriptor yX2_onTurn.desc).map (fun d => d.parameters.length) = some 0 := by decide +kernel
set_option maxHeartbeats 4000000 in
set_option maxRecDepth 100000 in
theorem c_X2_onTurn (l : Launch) (D : va_G) (cI cL : ClassId) (tw : Nat) (g0 : Nat) (g1 : Nat) (g2 : Nat) (g3 : Nat) (tu : Int) (ph : Int) (mo : Int) (gc : Int) (th : Int) (P : Int → Int) (C : Int → Int) (hB : ∀ i, 0 ≤ P i ∧ P i ≤ 72) (htu : 0 ≤ tu ∧ tu ≤ 3) (hgc : 0 ≤ gc ∧ gc ≤ 2) (hph : 0 ≤ ph ∧ ph ≤ 2) (hmo : 0 ≤ mo ∧ mo ≤ 6) : RWi l yX2_onTurn wsX2_onTurn { frames := 0, cells := 0, slots := 0, locals := 0 } D cI cL tw [.ref g0] [(g0, .inr (2, [.ref g1, .int (iI (tu)), .int (iI (ph)), .int (iI (mo)), .int (iI (gc)), .ref g2, .ref g3, .int (iI (th))])), (g1, .inl (cI, 16, .inl (aI P))), (g2, .inl (cI, 4, .inl (aI C))), (g3, .inl (cI, 7, .inl (aI wyI)))] (fun (z : Int) (u : Unit) => z = tu) (fun u : Unit => [(g0, .inr (2, [.ref g1, .int (iI (tu)), .int (iI (ph)), .int (iI (mo)), .int (iI (gc)), .ref g2, .ref g3, .int (iI (0))])), (g1, .inl (cI, 16, .inl (aI P))), (g2, .inl (cI, 4, .inl (aI C))), (g3, .inl (cI, 7, .inl (aI wyI)))]) := by
  refine rwi_of (cc := cX2_onTurn) (maxL := 1) (rt := .int) (own := RX2) (by decide) rfl rfl (Or.inl rfl) (Nat.le_of_ble_eq_true rfl) ?_
  intro p e R s mt args below meth c H0 Q ls A S hR hE hP hD hS hA hl hret
  obtain ⟨hx, hb, hml, hown, hts⟩ := id S
  have hl : lv_has ls 1 [(0, .ref g0)] := hl
  refine lv_aload_n hx hb dX2_onTurn_0 rfl (lv_at hl 0 rfl) ?_
  refine r_iconst hx hb dX2_onTurn_1 ?_
  refine va_put (D := D) (ci := 2) (v := .int (iI (0))) (ty := .int) (C := RX2) (T := TX2) (N := 8) hx hb hts mu_X2_onTurn_X2 tyX2 tyX2_ok nmX2 hown hE.1 hP hD hS 0 rfl rfl 7 (by decide) (hts _ mw_X2_onTurn_0) (fun _ h9 => h9) rfl (by decide +kernel) rfl rfl (Nat.le_of_ble_eq_true rfl) dX2_onTurn_2 (fun H locs hP hD hS => ?_)
  have hP : va_P D vwCl [(g0, .inr (2, [.ref g1, .int (iI (tu)), .int (iI (ph)), .int (iI (mo)), .int (iI (gc)), .ref g2, .ref g3, .int (iI (0))])), (g1, .inl (cI, 16, .inl (aI P))), (g2, .inl (cI, 4, .inl (aI C))), (g3, .inl (cI, 7, .inl (aI wyI)))] H := hP
  have hD : va_D A [(g0, .inr (2, [.ref g1, .int (iI (tu)), .int (iI (ph)), .int (iI (mo)), .int (iI (gc)), .ref g2, .ref g3, .int (iI (0))])), (g1, .inl (cI, 16, .inl (aI P))), (g2, .inl (cI, 4, .inl (aI C))), (g3, .inl (cI, 7, .inl (aI wyI)))] := hD
  refine lv_aload_n hx hb dX2_onTurn_5 rfl (lv_at hl 0 rfl) ?_
  refine va_get (D := D) (ci := 2) (v := .int (iI (tu))) (C := RX2) (T := TX2) (N := 8) hx hb hts mu_X2_onTurn_X2 hown hE.1 hP 0 rfl rfl 1 (by decide) (hts _ mw_X2_onTurn_2) (fun _ h9 => h9) rfl dX2_onTurn_6 ?_
  exact hret (tu) () _ _ _ _ dX2_onTurn_9 (by rfl) hP hD hS

set_option maxRecDepth 20000 in
theorem mw_X2_graces_0 : (.fieldLink RX2 19 "PachisiYardModel" "thrown" "I" : Cond) ∈ wsX2_graces := by decide +kernel
set_option maxRecDepth 20000 in
theorem mu_X2_graces_X2 : ∀ w ∈ wsX20, w ∈ wsX2_graces := by decide +kernel
set_option maxRecDepth 20000 in
theorem mw_X2_graces_2 : (.fieldLink RX2 57 "PachisiYardModel" "graces" "I" : Cond) ∈ wsX2_graces := by decide +kernel
theorem f_X2_graces : yX2_graces.cls ≠ "java/lang/invoke/MethodHandle" ∧ yX2_graces.cls ≠ "java/lang/invoke/VarHandle" ∧ (parseMethodDescriptor yX2_graces.desc).map (fun d => d.parameters.length) = some 0 := by decide +kernel
set_option maxHeartbeats 4000000 in
set_option maxRecDepth 100000 in
theorem c_X2_graces (l : Launch) (D : va_G) (cI cL : ClassId) (tw : Nat) (g0 : Nat) (g1 : Nat) (g2 : Nat) (g3 : Nat) (tu : Int) (ph : Int) (mo : Int) (gc : Int) (th : Int) (P : Int → Int) (C : Int → Int) (hB : ∀ i, 0 ≤ P i ∧ P i ≤ 72) (htu : 0 ≤ tu ∧ tu ≤ 3) (hgc : 0 ≤ gc ∧ gc ≤ 2) (hph : 0 ≤ ph ∧ ph ≤ 2) (hmo : 0 ≤ mo ∧ mo ≤ 6) : RWi l yX2_graces wsX2_graces { frames := 0, cells := 0, slots := 0, locals := 0 } D cI cL tw [.ref g0] [(g0, .inr (2, [.ref g1, .int (iI (tu)), .int (iI (ph)), .int (iI (mo)), .int (iI (gc)), .ref g2, .ref g3, .int (iI (th))])), (g1, .inl (cI, 16, .inl (aI P))), (g2, .inl (cI, 4, .inl (aI C))), (g3, .inl (cI, 7, .inl (aI wyI)))] (fun (z : Int) (u : Unit) => z = gc) (fun u : Unit => [(g0, .inr (2, [.ref g1, .int (iI (tu)), .int (iI (ph)), .int (iI (mo)), .int (iI (gc)), .ref g2, .ref g3, .int (iI (0))])), (g1, .inl (cI, 16, .inl (aI P))), (g2, .inl (cI, 4, .inl (aI C))), (g3, .inl (cI, 7, .inl (aI wyI)))]) := by
  refine rwi_of (cc := cX2_graces) (maxL := 1) (rt := .int) (own := RX2) (by decide) rfl rfl (Or.inl rfl) (Nat.le_of_ble_eq_true rfl) ?_
  intro p e R s mt args below meth c H0 Q ls A S hR hE hP hD hS hA hl hret
  obtain ⟨hx, hb, hml, hown, hts⟩ := id S
  have hl : lv_has ls 1 [(0, .ref g0)] := hl
  refine lv_aload_n hx hb dX2_graces_0 rfl (lv_at hl 0 rfl) ?_
  refine r_iconst hx hb dX2_graces_1 ?_
  refine va_put (D := D) (ci := 2) (v := .int (iI (0))) (ty := .int) (C := RX2) (T := TX2) (N := 8) hx hb hts mu_X2_graces_X2 tyX2 tyX2_ok nmX2 hown hE.1 hP hD hS 0 rfl rfl 7 (by decide) (hts _ mw_X2_graces_0) (fun _ h9 => h9) rfl (by decide +kernel) rfl rfl (Nat.le_of_ble_eq_true rfl) dX2_graces_2 (fun H locs hP hD hS => ?_)
  have hP : va_P D vwCl [(g0, .inr (2, [.ref g1, .int (iI (tu)), .int (iI (ph)), .int (iI (mo)), .int (iI (gc)), .ref g2, .ref g3, .int (iI (0))])), (g1, .inl (cI, 16, .inl (aI P))), (g2, .inl (cI, 4, .inl (aI C))), (g3, .inl (cI, 7, .inl (aI wyI)))] H := hP
  have hD : va_D A [(g0, .inr (2, [.ref g1, .int (iI (tu)), .int (iI (ph)), .int (iI (mo)), .int (iI (gc)), .ref g2, .ref g3, .int (iI (0))])), (g1, .inl (cI, 16, .inl (aI P))), (g2, .inl (cI, 4, .inl (aI C))), (g3, .inl (cI, 7, .inl (aI wyI)))] := hD
  refine lv_aload_n hx hb dX2_graces_5 rfl (lv_at hl 0 rfl) ?_
  refine va_get (D := D) (ci := 2) (v := .int (iI (gc))) (C := RX2) (T := TX2) (N := 8) hx hb hts mu_X2_graces_X2 hown hE.1 hP 0 rfl rfl 4 (by decide) (hts _ mw_X2_graces_2) (fun _ h9 => h9) rfl dX2_graces_6 ?_
  exact hret (gc) () _ _ _ _ dX2_graces_9 (by rfl) hP hD hS

set_option maxRecDepth 20000 in
theorem mw_X2_mover_0 : (.fieldLink RX2 19 "PachisiYardModel" "thrown" "I" : Cond) ∈ wsX2_mover := by decide +kernel
set_option maxRecDepth 20000 in
theorem mu_X2_mover_X2 : ∀ w ∈ wsX20, w ∈ wsX2_mover := by decide +kernel
set_option maxRecDepth 20000 in
theorem mw_X2_mover_2 : (.fieldLink RX2 54 "PachisiYardModel" "turn" "I" : Cond) ∈ wsX2_mover := by decide +kernel
theorem f_X2_mover : yX2_mover.cls ≠ "java/lang/invoke/MethodHandle" ∧ yX2_mover.cls ≠ "java/lang/invoke/VarHandle" ∧ (parseMethodDescriptor yX2_mover.desc).map (fun d => d.parameters.length) = some 0 := by decide +kernel
set_option maxHeartbeats 4000000 in
set_option maxRecDepth 100000 in
theorem c_X2_mover (l : Launch) (D : va_G) (cI cL : ClassId) (tw : Nat) (g0 : Nat) (g1 : Nat) (g2 : Nat) (g3 : Nat) (tu : Int) (ph : Int) (mo : Int) (gc : Int) (th : Int) (P : Int → Int) (C : Int → Int) (hB : ∀ i, 0 ≤ P i ∧ P i ≤ 72) (htu : 0 ≤ tu ∧ tu ≤ 3) (hgc : 0 ≤ gc ∧ gc ≤ 2) (hph : 0 ≤ ph ∧ ph ≤ 2) (hmo : 0 ≤ mo ∧ mo ≤ 6) : RWi l yX2_mover wsX2_mover { frames := 2, cells := 0, slots := 0, locals := 44 } D cI cL tw [.ref g0] [(g0, .inr (2, [.ref g1, .int (iI (tu)), .int (iI (ph)), .int (iI (mo)), .int (iI (gc)), .ref g2, .ref g3, .int (iI (th))])), (g1, .inl (cI, 16, .inl (aI P))), (g2, .inl (cI, 4, .inl (aI C))), (g3, .inl (cI, 7, .inl (aI wyI)))] (fun (z : Int) (u : Unit) => z = mv P tu) (fun u : Unit => [(g0, .inr (2, [.ref g1, .int (iI (tu)), .int (iI (ph)), .int (iI (mo)), .int (iI (gc)), .ref g2, .ref g3, .int (iI (0))])), (g1, .inl (cI, 16, .inl (aI P))), (g2, .inl (cI, 4, .inl (aI C))), (g3, .inl (cI, 7, .inl (aI wyI)))]) := by
  refine rwi_of (cc := cX2_mover) (maxL := 1) (rt := .int) (own := RX2) (by decide) rfl rfl (Or.inl rfl) (Nat.le_of_ble_eq_true rfl) ?_
  intro p e R s mt args below meth c H0 Q ls A S hR hE hP hD hS hA hl hret
  obtain ⟨hx, hb, hml, hown, hts⟩ := id S
  have hl : lv_has ls 1 [(0, .ref g0)] := hl
  refine lv_aload_n hx hb dX2_mover_0 rfl (lv_at hl 0 rfl) ?_
  refine r_iconst hx hb dX2_mover_1 ?_
  refine va_put (D := D) (ci := 2) (v := .int (iI (0))) (ty := .int) (C := RX2) (T := TX2) (N := 8) hx hb hts mu_X2_mover_X2 tyX2 tyX2_ok nmX2 hown hE.1 hP hD hS 0 rfl rfl 7 (by decide) (hts _ mw_X2_mover_0) (fun _ h9 => h9) rfl (by decide +kernel) rfl rfl (Nat.le_of_ble_eq_true rfl) dX2_mover_2 (fun H locs hP hD hS => ?_)
  have hP : va_P D vwCl [(g0, .inr (2, [.ref g1, .int (iI (tu)), .int (iI (ph)), .int (iI (mo)), .int (iI (gc)), .ref g2, .ref g3, .int (iI (0))])), (g1, .inl (cI, 16, .inl (aI P))), (g2, .inl (cI, 4, .inl (aI C))), (g3, .inl (cI, 7, .inl (aI wyI)))] H := hP
  have hD : va_D A [(g0, .inr (2, [.ref g1, .int (iI (tu)), .int (iI (ph)), .int (iI (mo)), .int (iI (gc)), .ref g2, .ref g3, .int (iI (0))])), (g1, .inl (cI, 16, .inl (aI P))), (g2, .inl (cI, 4, .inl (aI C))), (g3, .inl (cI, 7, .inl (aI wyI)))] := hD
  refine lv_aload_n hx hb dX2_mover_5 rfl (lv_at hl 0 rfl) ?_
  refine lv_aload_n hx hb dX2_mover_6 rfl (lv_at hl 0 rfl) ?_
  refine va_get (D := D) (ci := 2) (v := .int (iI (tu))) (C := RX2) (T := TX2) (N := 8) hx hb hts mu_X2_mover_X2 hown hE.1 hP 0 rfl rfl 1 (by decide) (hts _ mw_X2_mover_2) (fun _ h9 => h9) rfl dX2_mover_7 ?_
  refine r_callV (As := [.int (iI (tu))]) (rest := []) S (c_X2_movesFor l D cI cL tw (g0) (g1) (g2) (g3) (tu) (ph) (mo) (gc) (0) (P) (C) (tu) (hB) (by omega)) gX2_mover_X2_movesFor rfl rfl rfl ⟨rfl, f_X2_movesFor⟩ hR (Nat.le_of_ble_eq_true rfl) (Nat.le_of_ble_eq_true rfl) (hE.kept hS.2.1) hP [0, 1, 2, 3] rfl 0 rfl rfl rfl hl.1 rfl (Nat.le_of_ble_eq_true rfl) dX2_mover_10 ⟨Nat.zero_le _, Nat.zero_le _⟩ (fun z10 hz10 => ?_)
  obtain ⟨hz10, rz10⟩ := hz10
  exact hret (z10) () _ _ _ _ dX2_mover_13 (by exact hz10) hP hD hS

set_option maxRecDepth 20000 in
theorem mw_X2_movable_0 : (.fieldLink RX2 60 "PachisiYardModel" "phase" "I" : Cond) ∈ wsX2_movable := by decide +kernel
set_option maxRecDepth 20000 in
theorem mu_X2_movable_X2 : ∀ w ∈ wsX20, w ∈ wsX2_movable := by decide +kernel
set_option maxRecDepth 20000 in
theorem mw_X2_movable_2 : (.fieldLink RX2 19 "PachisiYardModel" "thrown" "I" : Cond) ∈ wsX2_movable := by decide +kernel
set_option maxRecDepth 20000 in
theorem mw_X2_movable_3 : (.fieldLink RX2 54 "PachisiYardModel" "turn" "I" : Cond) ∈ wsX2_movable := by decide +kernel
set_option maxRecDepth 20000 in
theorem mw_X2_movable_4 : (.fieldLink RX2 73 "PachisiYardModel" "mouths" "I" : Cond) ∈ wsX2_movable := by decide +kernel
theorem f_X2_movable : yX2_movable.cls ≠ "java/lang/invoke/MethodHandle" ∧ yX2_movable.cls ≠ "java/lang/invoke/VarHandle" ∧ (parseMethodDescriptor yX2_movable.desc).map (fun d => d.parameters.length) = some 0 := by decide +kernel
set_option maxHeartbeats 4000000 in
set_option maxRecDepth 100000 in
theorem c_X2_movable (l : Launch) (D : va_G) (cI cL : ClassId) (tw : Nat) (g0 : Nat) (g1 : Nat) (g2 : Nat) (g3 : Nat) (tu : Int) (ph : Int) (mo : Int) (gc : Int) (th : Int) (P : Int → Int) (C : Int → Int) (hB : ∀ i, 0 ≤ P i ∧ P i ≤ 72) (htu : 0 ≤ tu ∧ tu ≤ 3) (hgc : 0 ≤ gc ∧ gc ≤ 2) (hph : 0 ≤ ph ∧ ph ≤ 2) (hmo : 0 ≤ mo ∧ mo ≤ 6) : RWi l yX2_movable wsX2_movable { frames := 4, cells := 0, slots := 0, locals := 99 } D cI cL tw [.ref g0] [(g0, .inr (2, [.ref g1, .int (iI (tu)), .int (iI (ph)), .int (iI (mo)), .int (iI (gc)), .ref g2, .ref g3, .int (iI (th))])), (g1, .inl (cI, 16, .inl (aI P))), (g2, .inl (cI, 4, .inl (aI C))), (g3, .inl (cI, 7, .inl (aI wyI)))] (fun (z : Int) (u : Int) => (ph = 1 ∧ u = 0 ∧ z = ms P (mv P tu) mo) ∨ (ph ≠ 1 ∧ u = 1 ∧ z = 0)) (fun u : Int => [(g0, .inr (2, [.ref g1, .int (iI (tu)), .int (iI (ph)), .int (iI (mo)), .int (iI (gc)), .ref g2, .ref g3, .int (iI (u))])), (g1, .inl (cI, 16, .inl (aI P))), (g2, .inl (cI, 4, .inl (aI C))), (g3, .inl (cI, 7, .inl (aI wyI)))]) := by
  refine rwi_of (cc := cX2_movable) (maxL := 1) (rt := .int) (own := RX2) (by decide) rfl rfl (Or.inl rfl) (Nat.le_of_ble_eq_true rfl) ?_
  intro p e R s mt args below meth c H0 Q ls A S hR hE hP hD hS hA hl hret
  obtain ⟨hx, hb, hml, hown, hts⟩ := id S
  have hl : lv_has ls 1 [(0, .ref g0)] := hl
  refine lv_aload_n hx hb dX2_movable_0 rfl (lv_at hl 0 rfl) ?_
  refine lv_aload_n hx hb dX2_movable_1 rfl (lv_at hl 0 rfl) ?_
  refine va_get (D := D) (ci := 2) (v := .int (iI (ph))) (C := RX2) (T := TX2) (N := 8) hx hb hts mu_X2_movable_X2 hown hE.1 hP 0 rfl rfl 2 (by decide) (hts _ mw_X2_movable_0) (fun _ h9 => h9) rfl dX2_movable_2 ?_
  refine r_iconst hx hb dX2_movable_5 ?_
  refine r_icmp_ne (tgt := 13) hx hb dX2_movable_6 (by decide) (by unfold rI; omega) (by unfold rI; decide) (fun h6 => ?_) (fun h6 => ?_)
  · refine r_iconst hx hb dX2_movable_13 ?_
    refine va_put (D := D) (ci := 2) (v := .int (iI (1))) (ty := .int) (C := RX2) (T := TX2) (N := 8) hx hb hts mu_X2_movable_X2 tyX2 tyX2_ok nmX2 hown hE.1 hP hD hS 0 rfl rfl 7 (by decide) (hts _ mw_X2_movable_2) (fun _ h9 => h9) rfl (by decide +kernel) rfl rfl (Nat.le_of_ble_eq_true rfl) dX2_movable_14 (fun H locs hP hD hS => ?_)
    have hP : va_P D vwCl [(g0, .inr (2, [.ref g1, .int (iI (tu)), .int (iI (ph)), .int (iI (mo)), .int (iI (gc)), .ref g2, .ref g3, .int (iI (1))])), (g1, .inl (cI, 16, .inl (aI P))), (g2, .inl (cI, 4, .inl (aI C))), (g3, .inl (cI, 7, .inl (aI wyI)))] H := hP
    have hD : va_D A [(g0, .inr (2, [.ref g1, .int (iI (tu)), .int (iI (ph)), .int (iI (mo)), .int (iI (gc)), .ref g2, .ref g3, .int (iI (1))])), (g1, .inl (cI, 16, .inl (aI P))), (g2, .inl (cI, 4, .inl (aI C))), (g3, .inl (cI, 7, .inl (aI wyI)))] := hD
    refine lv_aload_n hx hb dX2_movable_17 rfl (lv_at hl 0 rfl) ?_
    refine va_get (D := D) (ci := 2) (v := .int (iI (1))) (C := RX2) (T := TX2) (N := 8) hx hb hts mu_X2_movable_X2 hown hE.1 hP 0 rfl rfl 7 (by decide) (hts _ mw_X2_movable_2) (fun _ h9 => h9) rfl dX2_movable_18 ?_
    refine r_if_le (tgt := 28) hx hb dX2_movable_21 (by decide) (by unfold rI; decide) (fun h9 => absurd h9 (by omega)) (fun h21 => ?_)
    refine r_iconst hx hb dX2_movable_24 ?_
    refine lv_goto (tgt := 45) hx hb dX2_movable_25 (by decide) ?_
    exact hret (0) (1) _ _ _ _ dX2_movable_45 (by first | omega | (dsimp only; omega)) hP hD hS
  · refine r_iconst hx hb dX2_movable_9 ?_
    refine lv_goto (tgt := 14) hx hb dX2_movable_10 (by decide) ?_
    refine va_put (D := D) (ci := 2) (v := .int (iI (0))) (ty := .int) (C := RX2) (T := TX2) (N := 8) hx hb hts mu_X2_movable_X2 tyX2 tyX2_ok nmX2 hown hE.1 hP hD hS 0 rfl rfl 7 (by decide) (hts _ mw_X2_movable_2) (fun _ h9 => h9) rfl (by decide +kernel) rfl rfl (Nat.le_of_ble_eq_true rfl) dX2_movable_14 (fun H locs hP hD hS => ?_)
    have hP : va_P D vwCl [(g0, .inr (2, [.ref g1, .int (iI (tu)), .int (iI (ph)), .int (iI (mo)), .int (iI (gc)), .ref g2, .ref g3, .int (iI (0))])), (g1, .inl (cI, 16, .inl (aI P))), (g2, .inl (cI, 4, .inl (aI C))), (g3, .inl (cI, 7, .inl (aI wyI)))] H := hP
    have hD : va_D A [(g0, .inr (2, [.ref g1, .int (iI (tu)), .int (iI (ph)), .int (iI (mo)), .int (iI (gc)), .ref g2, .ref g3, .int (iI (0))])), (g1, .inl (cI, 16, .inl (aI P))), (g2, .inl (cI, 4, .inl (aI C))), (g3, .inl (cI, 7, .inl (aI wyI)))] := hD
    refine lv_aload_n hx hb dX2_movable_17 rfl (lv_at hl 0 rfl) ?_
    refine va_get (D := D) (ci := 2) (v := .int (iI (0))) (C := RX2) (T := TX2) (N := 8) hx hb hts mu_X2_movable_X2 hown hE.1 hP 0 rfl rfl 7 (by decide) (hts _ mw_X2_movable_2) (fun _ h9 => h9) rfl dX2_movable_18 ?_
    refine r_if_le (tgt := 28) hx hb dX2_movable_21 (by decide) (by unfold rI; decide) (fun h21 => ?_) (fun h9 => absurd h9 (by omega))
    refine lv_aload_n hx hb dX2_movable_28 rfl (lv_at hl 0 rfl) ?_
    refine lv_aload_n hx hb dX2_movable_29 rfl (lv_at hl 0 rfl) ?_
    refine lv_aload_n hx hb dX2_movable_30 rfl (lv_at hl 0 rfl) ?_
    refine va_get (D := D) (ci := 2) (v := .int (iI (tu))) (C := RX2) (T := TX2) (N := 8) hx hb hts mu_X2_movable_X2 hown hE.1 hP 0 rfl rfl 1 (by decide) (hts _ mw_X2_movable_3) (fun _ h9 => h9) rfl dX2_movable_31 ?_
    refine r_callV (As := [.int (iI (tu))]) (rest := [.ref g0]) S (c_X2_movesFor l D cI cL tw (g0) (g1) (g2) (g3) (tu) (ph) (mo) (gc) (0) (P) (C) (tu) (hB) (by omega)) gX2_movable_X2_movesFor rfl rfl rfl ⟨rfl, f_X2_movesFor⟩ hR (Nat.le_of_ble_eq_true rfl) (Nat.le_of_ble_eq_true rfl) (hE.kept hS.2.1) hP [0, 1, 2, 3] rfl 0 rfl rfl rfl hl.1 rfl (Nat.le_of_ble_eq_true rfl) dX2_movable_34 ⟨Nat.zero_le _, Nat.zero_le _⟩ (fun z34 hz34 => ?_)
    obtain ⟨hz34, rz34⟩ := hz34
    refine lv_aload_n hx hb dX2_movable_37 rfl (lv_at hl 0 rfl) ?_
    refine va_get (D := D) (ci := 2) (v := .int (iI (mo))) (C := RX2) (T := TX2) (N := 8) hx hb hts mu_X2_movable_X2 hown hE.1 hP 0 rfl rfl 3 (by decide) (hts _ mw_X2_movable_4) (fun _ h9 => h9) rfl dX2_movable_38 ?_
    refine r_iconst hx hb dX2_movable_41 ?_
    refine r_callV (As := [.int (iI (z34)), .int (iI (mo)), .int (iI (1))]) (rest := []) S (c_X2_movers l D cI cL tw (g0) (g1) (g2) (g3) (tu) (ph) (mo) (gc) (0) (P) (C) (z34) (mo) (1) (hB) (by omega) (by omega) (by omega)) gX2_movable_X2_movers rfl rfl rfl ⟨rfl, f_X2_movers⟩ hR (Nat.le_of_ble_eq_true rfl) (Nat.le_of_ble_eq_true rfl) (hE.kept hS.2.1) hP [0, 1, 2, 3] rfl 0 rfl rfl rfl hl.1 rfl (Nat.le_of_ble_eq_true rfl) dX2_movable_42 ⟨Nat.zero_le _, Nat.zero_le _⟩ (fun z42 hz42 => ?_)
    obtain ⟨hz42, rz42⟩ := hz42
    exact hret (z42) (0) _ _ _ _ dX2_movable_45 (by (try dsimp only); rw [hz34] at hz42; omega) hP hD hS

set_option maxRecDepth 20000 in
theorem mw_X2_position_0 : (.fieldLink RX2 19 "PachisiYardModel" "thrown" "I" : Cond) ∈ wsX2_position := by decide +kernel
set_option maxRecDepth 20000 in
theorem mu_X2_position_X2 : ∀ w ∈ wsX20, w ∈ wsX2_position := by decide +kernel
set_option maxRecDepth 20000 in
theorem mw_X2_position_2 : (.fieldLink RX2 7 "PachisiYardModel" "at" "[I" : Cond) ∈ wsX2_position := by decide +kernel
theorem f_X2_position : yX2_position.cls ≠ "java/lang/invoke/MethodHandle" ∧ yX2_position.cls ≠ "java/lang/invoke/VarHandle" ∧ (parseMethodDescriptor yX2_position.desc).map (fun d => d.parameters.length) = some 2 := by decide +kernel
set_option maxHeartbeats 4000000 in
set_option maxRecDepth 100000 in
theorem c_X2_position (l : Launch) (D : va_G) (cI cL : ClassId) (tw : Nat) (g0 : Nat) (g1 : Nat) (g2 : Nat) (g3 : Nat) (tu : Int) (ph : Int) (mo : Int) (gc : Int) (th : Int) (P : Int → Int) (C : Int → Int) (a : Int) (j : Int) (hB : ∀ i, 0 ≤ P i ∧ P i ≤ 72) (htu : 0 ≤ tu ∧ tu ≤ 3) (hgc : 0 ≤ gc ∧ gc ≤ 2) (hph : 0 ≤ ph ∧ ph ≤ 2) (hmo : 0 ≤ mo ∧ mo ≤ 6) (h_a : -2147483648 ≤ a ∧ a < 2147483648) (h_j : -2147483648 ≤ j ∧ j < 2147483648) : RWi l yX2_position wsX2_position { frames := 1, cells := 0, slots := 0, locals := 22 } D cI cL tw [.ref g0, .int (iI (a)), .int (iI (j))] [(g0, .inr (2, [.ref g1, .int (iI (tu)), .int (iI (ph)), .int (iI (mo)), .int (iI (gc)), .ref g2, .ref g3, .int (iI (th))])), (g1, .inl (cI, 16, .inl (aI P))), (g2, .inl (cI, 4, .inl (aI C))), (g3, .inl (cI, 7, .inl (aI wyI)))] (fun (z : Int) (u : Int) => (0 ≤ a ∧ a ≤ 3 ∧ 0 ≤ j ∧ j ≤ 3 ∧ u = 0 ∧ z = P (4 * a + j)) ∨ (¬ (0 ≤ a ∧ a ≤ 3 ∧ 0 ≤ j ∧ j ≤ 3) ∧ u = 1 ∧ z = 0)) (fun u : Int => [(g0, .inr (2, [.ref g1, .int (iI (tu)), .int (iI (ph)), .int (iI (mo)), .int (iI (gc)), .ref g2, .ref g3, .int (iI (u))])), (g1, .inl (cI, 16, .inl (aI P))), (g2, .inl (cI, 4, .inl (aI C))), (g3, .inl (cI, 7, .inl (aI wyI)))]) := by
  refine rwi_of (cc := cX2_position) (maxL := 3) (rt := .int) (own := RX2) (by decide) rfl rfl (Or.inl rfl) (Nat.le_of_ble_eq_true rfl) ?_
  intro p e R s mt args below meth c H0 Q ls A S hR hE hP hD hS hA hl hret
  obtain ⟨hx, hb, hml, hown, hts⟩ := id S
  have hl : lv_has ls 3 [(0, .ref g0), (1, .int (iI (a))), (2, .int (iI (j)))] := hl
  refine lv_aload_n hx hb dX2_position_0 rfl (lv_at hl 0 rfl) ?_
  refine lv_iload_n hx hb dX2_position_1 rfl (lv_at hl 1 rfl) ?_
  refine r_iconst hx hb dX2_position_2 ?_
  refine r_iconst hx hb dX2_position_3 ?_
  refine r_callS (As := [.int (iI (a)), .int (iI (0)), .int (iI (3))]) (rest := [.ref g0]) S (c_X2_isIn l D cI cL tw (a) (0) (3) (by omega) (by omega) (by omega)) gX2_position_X2_isIn rfl rfl rfl f_X2_isIn hR (Nat.le_of_ble_eq_true rfl) (Nat.le_of_ble_eq_true rfl) (hE.kept hS.2.1) rfl hl.1 rfl (Nat.le_of_ble_eq_true rfl) dX2_position_4 ⟨Nat.zero_le _, Nat.zero_le _⟩ (fun z4 hz4 => ?_)
  rcases hz4 with ⟨rfl, hz4⟩ | ⟨rfl, hz4⟩
  · refine r_if_eq (tgt := 23) hx hb dX2_position_7 (by decide) (by unfold rI; decide) (fun h9 => absurd h9 (by omega)) (fun h7 => ?_)
    refine lv_iload_n hx hb dX2_position_10 rfl (lv_at hl 2 rfl) ?_
    refine r_iconst hx hb dX2_position_11 ?_
    refine r_iconst hx hb dX2_position_12 ?_
    refine r_callS (As := [.int (iI (j)), .int (iI (0)), .int (iI (3))]) (rest := [.ref g0]) S (c_X2_isIn l D cI cL tw (j) (0) (3) (by omega) (by omega) (by omega)) gX2_position_X2_isIn rfl rfl rfl f_X2_isIn hR (Nat.le_of_ble_eq_true rfl) (Nat.le_of_ble_eq_true rfl) (hE.kept hS.2.1) rfl hl.1 rfl (Nat.le_of_ble_eq_true rfl) dX2_position_13 ⟨Nat.zero_le _, Nat.zero_le _⟩ (fun z13 hz13 => ?_)
    rcases hz13 with ⟨rfl, hz13⟩ | ⟨rfl, hz13⟩
    · refine r_if_eq (tgt := 23) hx hb dX2_position_16 (by decide) (by unfold rI; decide) (fun h9 => absurd h9 (by omega)) (fun h16 => ?_)
      refine r_iconst hx hb dX2_position_19 ?_
      refine lv_goto (tgt := 24) hx hb dX2_position_20 (by decide) ?_
      refine va_put (D := D) (ci := 2) (v := .int (iI (0))) (ty := .int) (C := RX2) (T := TX2) (N := 8) hx hb hts mu_X2_position_X2 tyX2 tyX2_ok nmX2 hown hE.1 hP hD hS 0 rfl rfl 7 (by decide) (hts _ mw_X2_position_0) (fun _ h9 => h9) rfl (by decide +kernel) rfl rfl (Nat.le_of_ble_eq_true rfl) dX2_position_24 (fun H locs hP hD hS => ?_)
      have hP : va_P D vwCl [(g0, .inr (2, [.ref g1, .int (iI (tu)), .int (iI (ph)), .int (iI (mo)), .int (iI (gc)), .ref g2, .ref g3, .int (iI (0))])), (g1, .inl (cI, 16, .inl (aI P))), (g2, .inl (cI, 4, .inl (aI C))), (g3, .inl (cI, 7, .inl (aI wyI)))] H := hP
      have hD : va_D A [(g0, .inr (2, [.ref g1, .int (iI (tu)), .int (iI (ph)), .int (iI (mo)), .int (iI (gc)), .ref g2, .ref g3, .int (iI (0))])), (g1, .inl (cI, 16, .inl (aI P))), (g2, .inl (cI, 4, .inl (aI C))), (g3, .inl (cI, 7, .inl (aI wyI)))] := hD
      refine lv_aload_n hx hb dX2_position_27 rfl (lv_at hl 0 rfl) ?_
      refine va_get (D := D) (ci := 2) (v := .int (iI (0))) (C := RX2) (T := TX2) (N := 8) hx hb hts mu_X2_position_X2 hown hE.1 hP 0 rfl rfl 7 (by decide) (hts _ mw_X2_position_0) (fun _ h9 => h9) rfl dX2_position_28 ?_
      refine r_if_le (tgt := 38) hx hb dX2_position_31 (by decide) (by unfold rI; decide) (fun h31 => ?_) (fun h9 => absurd h9 (by omega))
      refine lv_aload_n hx hb dX2_position_38 rfl (lv_at hl 0 rfl) ?_
      refine va_get (D := D) (ci := 2) (v := .ref g1) (C := RX2) (T := TX2) (N := 8) hx hb hts mu_X2_position_X2 hown hE.1 hP 0 rfl rfl 0 (by decide) (hts _ mw_X2_position_2) (fun _ h9 => h9) rfl dX2_position_39 ?_
      refine r_iconst hx hb dX2_position_42 ?_
      refine lv_iload_n hx hb dX2_position_43 rfl (lv_at hl 1 rfl) ?_
      refine r_imul hx hb dX2_position_44 ?_
      refine lv_iload_n hx hb dX2_position_45 rfl (lv_at hl 2 rfl) ?_
      refine r_iadd hx hb dX2_position_46 ?_
      refine r_iald hx hb hE.1 hP 1 rfl (i := ((4) * (a)) + (j)) (by omega) (by omega) (by decide) dX2_position_47 ?_
      obtain ⟨v47, ev47⟩ : ∃ v : Int, v = P (((4) * (a)) + (j)) := ⟨_, rfl⟩
      have gv47 := hB (((4) * (a)) + (j))
      refine r_top v47 ev47.symm ?_
      rw [← ev47] at gv47
      exact hret (v47) (0) _ _ _ _ dX2_position_48 (by first | omega | (dsimp only; omega)) hP hD hS
    · refine r_if_eq (tgt := 23) hx hb dX2_position_16 (by decide) (by unfold rI; decide) (fun h16 => ?_) (fun h9 => absurd h9 (by omega))
      refine r_iconst hx hb dX2_position_23 ?_
      refine va_put (D := D) (ci := 2) (v := .int (iI (1))) (ty := .int) (C := RX2) (T := TX2) (N := 8) hx hb hts mu_X2_position_X2 tyX2 tyX2_ok nmX2 hown hE.1 hP hD hS 0 rfl rfl 7 (by decide) (hts _ mw_X2_position_0) (fun _ h9 => h9) rfl (by decide +kernel) rfl rfl (Nat.le_of_ble_eq_true rfl) dX2_position_24 (fun H locs hP hD hS => ?_)
      have hP : va_P D vwCl [(g0, .inr (2, [.ref g1, .int (iI (tu)), .int (iI (ph)), .int (iI (mo)), .int (iI (gc)), .ref g2, .ref g3, .int (iI (1))])), (g1, .inl (cI, 16, .inl (aI P))), (g2, .inl (cI, 4, .inl (aI C))), (g3, .inl (cI, 7, .inl (aI wyI)))] H := hP
      have hD : va_D A [(g0, .inr (2, [.ref g1, .int (iI (tu)), .int (iI (ph)), .int (iI (mo)), .int (iI (gc)), .ref g2, .ref g3, .int (iI (1))])), (g1, .inl (cI, 16, .inl (aI P))), (g2, .inl (cI, 4, .inl (aI C))), (g3, .inl (cI, 7, .inl (aI wyI)))] := hD
      refine lv_aload_n hx hb dX2_position_27 rfl (lv_at hl 0 rfl) ?_
      refine va_get (D := D) (ci := 2) (v := .int (iI (1))) (C := RX2) (T := TX2) (N := 8) hx hb hts mu_X2_position_X2 hown hE.1 hP 0 rfl rfl 7 (by decide) (hts _ mw_X2_position_0) (fun _ h9 => h9) rfl dX2_position_28 ?_
      refine r_if_le (tgt := 38) hx hb dX2_position_31 (by decide) (by unfold rI; decide) (fun h9 => absurd h9 (by omega)) (fun h31 => ?_)
      refine r_iconst hx hb dX2_position_34 ?_
      refine lv_goto (tgt := 48) hx hb dX2_position_35 (by decide) ?_
      exact hret (0) (1) _ _ _ _ dX2_position_48 (by first | omega | (dsimp only; omega)) hP hD hS
  · refine r_if_eq (tgt := 23) hx hb dX2_position_7 (by decide) (by unfold rI; decide) (fun h7 => ?_) (fun h9 => absurd h9 (by omega))
    refine r_iconst hx hb dX2_position_23 ?_
    refine va_put (D := D) (ci := 2) (v := .int (iI (1))) (ty := .int) (C := RX2) (T := TX2) (N := 8) hx hb hts mu_X2_position_X2 tyX2 tyX2_ok nmX2 hown hE.1 hP hD hS 0 rfl rfl 7 (by decide) (hts _ mw_X2_position_0) (fun _ h9 => h9) rfl (by decide +kernel) rfl rfl (Nat.le_of_ble_eq_true rfl) dX2_position_24 (fun H locs hP hD hS => ?_)
    have hP : va_P D vwCl [(g0, .inr (2, [.ref g1, .int (iI (tu)), .int (iI (ph)), .int (iI (mo)), .int (iI (gc)), .ref g2, .ref g3, .int (iI (1))])), (g1, .inl (cI, 16, .inl (aI P))), (g2, .inl (cI, 4, .inl (aI C))), (g3, .inl (cI, 7, .inl (aI wyI)))] H := hP
    have hD : va_D A [(g0, .inr (2, [.ref g1, .int (iI (tu)), .int (iI (ph)), .int (iI (mo)), .int (iI (gc)), .ref g2, .ref g3, .int (iI (1))])), (g1, .inl (cI, 16, .inl (aI P))), (g2, .inl (cI, 4, .inl (aI C))), (g3, .inl (cI, 7, .inl (aI wyI)))] := hD
    refine lv_aload_n hx hb dX2_position_27 rfl (lv_at hl 0 rfl) ?_
    refine va_get (D := D) (ci := 2) (v := .int (iI (1))) (C := RX2) (T := TX2) (N := 8) hx hb hts mu_X2_position_X2 hown hE.1 hP 0 rfl rfl 7 (by decide) (hts _ mw_X2_position_0) (fun _ h9 => h9) rfl dX2_position_28 ?_
    refine r_if_le (tgt := 38) hx hb dX2_position_31 (by decide) (by unfold rI; decide) (fun h9 => absurd h9 (by omega)) (fun h31 => ?_)
    refine r_iconst hx hb dX2_position_34 ?_
    refine lv_goto (tgt := 48) hx hb dX2_position_35 (by decide) ?_
    exact hret (0) (1) _ _ _ _ dX2_position_48 (by first | omega | (dsimp only; omega)) hP hD hS

set_option maxRecDepth 20000 in
theorem mw_X2_square_0 : (.fieldLink RX2 19 "PachisiYardModel" "thrown" "I" : Cond) ∈ wsX2_square := by decide +kernel
set_option maxRecDepth 20000 in
theorem mu_X2_square_X2 : ∀ w ∈ wsX20, w ∈ wsX2_square := by decide +kernel
set_option maxRecDepth 20000 in
theorem mw_X2_square_2 : (.fieldLink RX2 7 "PachisiYardModel" "at" "[I" : Cond) ∈ wsX2_square := by decide +kernel
theorem f_X2_square : yX2_square.cls ≠ "java/lang/invoke/MethodHandle" ∧ yX2_square.cls ≠ "java/lang/invoke/VarHandle" ∧ (parseMethodDescriptor yX2_square.desc).map (fun d => d.parameters.length) = some 2 := by decide +kernel
set_option maxHeartbeats 4000000 in
set_option maxRecDepth 100000 in
theorem c_X2_square (l : Launch) (D : va_G) (cI cL : ClassId) (tw : Nat) (g0 : Nat) (g1 : Nat) (g2 : Nat) (g3 : Nat) (tu : Int) (ph : Int) (mo : Int) (gc : Int) (th : Int) (P : Int → Int) (C : Int → Int) (a : Int) (j : Int) (hB : ∀ i, 0 ≤ P i ∧ P i ≤ 72) (htu : 0 ≤ tu ∧ tu ≤ 3) (hgc : 0 ≤ gc ∧ gc ≤ 2) (hph : 0 ≤ ph ∧ ph ≤ 2) (hmo : 0 ≤ mo ∧ mo ≤ 6) (h_a : -2147483648 ≤ a ∧ a < 2147483648) (h_j : -2147483648 ≤ j ∧ j < 2147483648) : RWi l yX2_square wsX2_square { frames := 1, cells := 0, slots := 0, locals := 22 } D cI cL tw [.ref g0, .int (iI (a)), .int (iI (j))] [(g0, .inr (2, [.ref g1, .int (iI (tu)), .int (iI (ph)), .int (iI (mo)), .int (iI (gc)), .ref g2, .ref g3, .int (iI (th))])), (g1, .inl (cI, 16, .inl (aI P))), (g2, .inl (cI, 4, .inl (aI C))), (g3, .inl (cI, 7, .inl (aI wyI)))] (fun (z : Int) (u : Int) => (0 ≤ a ∧ a ≤ 3 ∧ 0 ≤ j ∧ j ≤ 3 ∧ u = 0 ∧ z = sA a (P (4 * a + j))) ∨ (¬ (0 ≤ a ∧ a ≤ 3 ∧ 0 ≤ j ∧ j ≤ 3) ∧ u = 1 ∧ z = 0)) (fun u : Int => [(g0, .inr (2, [.ref g1, .int (iI (tu)), .int (iI (ph)), .int (iI (mo)), .int (iI (gc)), .ref g2, .ref g3, .int (iI (u))])), (g1, .inl (cI, 16, .inl (aI P))), (g2, .inl (cI, 4, .inl (aI C))), (g3, .inl (cI, 7, .inl (aI wyI)))]) := by
  refine rwi_of (cc := cX2_square) (maxL := 4) (rt := .int) (own := RX2) (by decide) rfl rfl (Or.inl rfl) (Nat.le_of_ble_eq_true rfl) ?_
  intro p e R s mt args below meth c H0 Q ls A S hR hE hP hD hS hA hl hret
  obtain ⟨hx, hb, hml, hown, hts⟩ := id S
  have hl : lv_has ls 4 [(0, .ref g0), (1, .int (iI (a))), (2, .int (iI (j)))] := hl
  refine lv_aload_n hx hb dX2_square_0 rfl (lv_at hl 0 rfl) ?_
  refine lv_iload_n hx hb dX2_square_1 rfl (lv_at hl 1 rfl) ?_
  refine r_iconst hx hb dX2_square_2 ?_
  refine r_iconst hx hb dX2_square_3 ?_
  refine r_callS (As := [.int (iI (a)), .int (iI (0)), .int (iI (3))]) (rest := [.ref g0]) S (c_X2_isIn l D cI cL tw (a) (0) (3) (by omega) (by omega) (by omega)) gX2_square_X2_isIn rfl rfl rfl f_X2_isIn hR (Nat.le_of_ble_eq_true rfl) (Nat.le_of_ble_eq_true rfl) (hE.kept hS.2.1) rfl hl.1 rfl (Nat.le_of_ble_eq_true rfl) dX2_square_4 ⟨Nat.zero_le _, Nat.zero_le _⟩ (fun z4 hz4 => ?_)
  rcases hz4 with ⟨rfl, hz4⟩ | ⟨rfl, hz4⟩
  · refine r_if_eq (tgt := 23) hx hb dX2_square_7 (by decide) (by unfold rI; decide) (fun h9 => absurd h9 (by omega)) (fun h7 => ?_)
    refine lv_iload_n hx hb dX2_square_10 rfl (lv_at hl 2 rfl) ?_
    refine r_iconst hx hb dX2_square_11 ?_
    refine r_iconst hx hb dX2_square_12 ?_
    refine r_callS (As := [.int (iI (j)), .int (iI (0)), .int (iI (3))]) (rest := [.ref g0]) S (c_X2_isIn l D cI cL tw (j) (0) (3) (by omega) (by omega) (by omega)) gX2_square_X2_isIn rfl rfl rfl f_X2_isIn hR (Nat.le_of_ble_eq_true rfl) (Nat.le_of_ble_eq_true rfl) (hE.kept hS.2.1) rfl hl.1 rfl (Nat.le_of_ble_eq_true rfl) dX2_square_13 ⟨Nat.zero_le _, Nat.zero_le _⟩ (fun z13 hz13 => ?_)
    rcases hz13 with ⟨rfl, hz13⟩ | ⟨rfl, hz13⟩
    · refine r_if_eq (tgt := 23) hx hb dX2_square_16 (by decide) (by unfold rI; decide) (fun h9 => absurd h9 (by omega)) (fun h16 => ?_)
      refine r_iconst hx hb dX2_square_19 ?_
      refine lv_goto (tgt := 24) hx hb dX2_square_20 (by decide) ?_
      refine va_put (D := D) (ci := 2) (v := .int (iI (0))) (ty := .int) (C := RX2) (T := TX2) (N := 8) hx hb hts mu_X2_square_X2 tyX2 tyX2_ok nmX2 hown hE.1 hP hD hS 0 rfl rfl 7 (by decide) (hts _ mw_X2_square_0) (fun _ h9 => h9) rfl (by decide +kernel) rfl rfl (Nat.le_of_ble_eq_true rfl) dX2_square_24 (fun H locs hP hD hS => ?_)
      have hP : va_P D vwCl [(g0, .inr (2, [.ref g1, .int (iI (tu)), .int (iI (ph)), .int (iI (mo)), .int (iI (gc)), .ref g2, .ref g3, .int (iI (0))])), (g1, .inl (cI, 16, .inl (aI P))), (g2, .inl (cI, 4, .inl (aI C))), (g3, .inl (cI, 7, .inl (aI wyI)))] H := hP
      have hD : va_D A [(g0, .inr (2, [.ref g1, .int (iI (tu)), .int (iI (ph)), .int (iI (mo)), .int (iI (gc)), .ref g2, .ref g3, .int (iI (0))])), (g1, .inl (cI, 16, .inl (aI P))), (g2, .inl (cI, 4, .inl (aI C))), (g3, .inl (cI, 7, .inl (aI wyI)))] := hD
      refine lv_aload_n hx hb dX2_square_27 rfl (lv_at hl 0 rfl) ?_
      refine va_get (D := D) (ci := 2) (v := .int (iI (0))) (C := RX2) (T := TX2) (N := 8) hx hb hts mu_X2_square_X2 hown hE.1 hP 0 rfl rfl 7 (by decide) (hts _ mw_X2_square_0) (fun _ h9 => h9) rfl dX2_square_28 ?_
      refine r_if_le (tgt := 36) hx hb dX2_square_31 (by decide) (by unfold rI; decide) (fun h31 => ?_) (fun h9 => absurd h9 (by omega))
      refine lv_aload_n hx hb dX2_square_36 rfl (lv_at hl 0 rfl) ?_
      refine va_get (D := D) (ci := 2) (v := .ref g1) (C := RX2) (T := TX2) (N := 8) hx hb hts mu_X2_square_X2 hown hE.1 hP 0 rfl rfl 0 (by decide) (hts _ mw_X2_square_2) (fun _ h9 => h9) rfl dX2_square_37 ?_
      refine r_iconst hx hb dX2_square_40 ?_
      refine lv_iload_n hx hb dX2_square_41 rfl (lv_at hl 1 rfl) ?_
      refine r_imul hx hb dX2_square_42 ?_
      refine lv_iload_n hx hb dX2_square_43 rfl (lv_at hl 2 rfl) ?_
      refine r_iadd hx hb dX2_square_44 ?_
      refine r_iald hx hb hE.1 hP 1 rfl (i := ((4) * (a)) + (j)) (by omega) (by omega) (by decide) dX2_square_45 ?_
      obtain ⟨v45, ev45⟩ : ∃ v : Int, v = P (((4) * (a)) + (j)) := ⟨_, rfl⟩
      have gv45 := hB (((4) * (a)) + (j))
      refine r_top v45 ev45.symm ?_
      rw [← ev45] at gv45
      refine lv_istore_n (lv' := [(3, .int (iI (v45))), (0, .ref g0), (1, .int (iI (a))), (2, .int (iI (j)))]) hx hb dX2_square_46 rfl hl (by decide) rfl (fun ls hl => ?_)
      refine lv_iload_n hx hb dX2_square_47 rfl (lv_at hl 0 rfl) ?_
      refine r_iconst hx hb dX2_square_48 ?_
      refine r_bipush hx hb dX2_square_49 (by decide) ?_
      refine r_callS (As := [.int (iI (v45)), .int (iI (1)), .int (iI (64))]) (rest := []) S (c_X2_isIn l D cI cL tw (v45) (1) (64) (by omega) (by omega) (by omega)) gX2_square_X2_isIn rfl rfl rfl f_X2_isIn hR (Nat.le_of_ble_eq_true rfl) (Nat.le_of_ble_eq_true rfl) (hE.kept hS.2.1) rfl hl.1 rfl (Nat.le_of_ble_eq_true rfl) dX2_square_51 ⟨Nat.zero_le _, Nat.zero_le _⟩ (fun z51 hz51 => ?_)
      rcases hz51 with ⟨rfl, hz51⟩ | ⟨rfl, hz51⟩
      · refine r_if_eq (tgt := 65) hx hb dX2_square_54 (by decide) (by unfold rI; decide) (fun h9 => absurd h9 (by omega)) (fun h54 => ?_)
        refine lv_iload_n hx hb dX2_square_57 rfl (lv_at hl 2 rfl) ?_
        refine lv_iload_n hx hb dX2_square_58 rfl (lv_at hl 0 rfl) ?_
        refine r_callS (As := [.int (iI (a)), .int (iI (v45))]) (rest := []) S (c_X2_squareOf l D cI cL tw (a) (v45) (by omega) (by omega)) gX2_square_X2_squareOf rfl rfl rfl f_X2_squareOf hR (Nat.le_of_ble_eq_true rfl) (Nat.le_of_ble_eq_true rfl) (hE.kept hS.2.1) rfl hl.1 rfl (Nat.le_of_ble_eq_true rfl) dX2_square_59 ⟨Nat.zero_le _, Nat.zero_le _⟩ (fun z59 hz59 => ?_)
        obtain ⟨hz59, rz59⟩ := hz59
        refine lv_goto (tgt := 66) hx hb dX2_square_62 (by decide) ?_
        exact hret (z59) (0) _ _ _ _ dX2_square_66 (by (try dsimp only); rw [← ev45]; have e : sA a v45 = z59 := (by rw [hz59]; unfold sA; rw [if_pos (by omega)]); omega) hP hD hS
      · refine r_if_eq (tgt := 65) hx hb dX2_square_54 (by decide) (by unfold rI; decide) (fun h54 => ?_) (fun h9 => absurd h9 (by omega))
        refine r_iconst hx hb dX2_square_65 ?_
        exact hret (-1) (0) _ _ _ _ dX2_square_66 (by (try dsimp only); rw [← ev45]; have e : sA a v45 = -1 := (by unfold sA; rw [if_neg (by omega)]); omega) hP hD hS
    · refine r_if_eq (tgt := 23) hx hb dX2_square_16 (by decide) (by unfold rI; decide) (fun h16 => ?_) (fun h9 => absurd h9 (by omega))
      refine r_iconst hx hb dX2_square_23 ?_
      refine va_put (D := D) (ci := 2) (v := .int (iI (1))) (ty := .int) (C := RX2) (T := TX2) (N := 8) hx hb hts mu_X2_square_X2 tyX2 tyX2_ok nmX2 hown hE.1 hP hD hS 0 rfl rfl 7 (by decide) (hts _ mw_X2_square_0) (fun _ h9 => h9) rfl (by decide +kernel) rfl rfl (Nat.le_of_ble_eq_true rfl) dX2_square_24 (fun H locs hP hD hS => ?_)
      have hP : va_P D vwCl [(g0, .inr (2, [.ref g1, .int (iI (tu)), .int (iI (ph)), .int (iI (mo)), .int (iI (gc)), .ref g2, .ref g3, .int (iI (1))])), (g1, .inl (cI, 16, .inl (aI P))), (g2, .inl (cI, 4, .inl (aI C))), (g3, .inl (cI, 7, .inl (aI wyI)))] H := hP
      have hD : va_D A [(g0, .inr (2, [.ref g1, .int (iI (tu)), .int (iI (ph)), .int (iI (mo)), .int (iI (gc)), .ref g2, .ref g3, .int (iI (1))])), (g1, .inl (cI, 16, .inl (aI P))), (g2, .inl (cI, 4, .inl (aI C))), (g3, .inl (cI, 7, .inl (aI wyI)))] := hD
      refine lv_aload_n hx hb dX2_square_27 rfl (lv_at hl 0 rfl) ?_
      refine va_get (D := D) (ci := 2) (v := .int (iI (1))) (C := RX2) (T := TX2) (N := 8) hx hb hts mu_X2_square_X2 hown hE.1 hP 0 rfl rfl 7 (by decide) (hts _ mw_X2_square_0) (fun _ h9 => h9) rfl dX2_square_28 ?_
      refine r_if_le (tgt := 36) hx hb dX2_square_31 (by decide) (by unfold rI; decide) (fun h9 => absurd h9 (by omega)) (fun h31 => ?_)
      refine r_iconst hx hb dX2_square_34 ?_
      exact hret (0) (1) _ _ _ _ dX2_square_35 (by first | omega | (dsimp only; omega)) hP hD hS
  · refine r_if_eq (tgt := 23) hx hb dX2_square_7 (by decide) (by unfold rI; decide) (fun h7 => ?_) (fun h9 => absurd h9 (by omega))
    refine r_iconst hx hb dX2_square_23 ?_
    refine va_put (D := D) (ci := 2) (v := .int (iI (1))) (ty := .int) (C := RX2) (T := TX2) (N := 8) hx hb hts mu_X2_square_X2 tyX2 tyX2_ok nmX2 hown hE.1 hP hD hS 0 rfl rfl 7 (by decide) (hts _ mw_X2_square_0) (fun _ h9 => h9) rfl (by decide +kernel) rfl rfl (Nat.le_of_ble_eq_true rfl) dX2_square_24 (fun H locs hP hD hS => ?_)
    have hP : va_P D vwCl [(g0, .inr (2, [.ref g1, .int (iI (tu)), .int (iI (ph)), .int (iI (mo)), .int (iI (gc)), .ref g2, .ref g3, .int (iI (1))])), (g1, .inl (cI, 16, .inl (aI P))), (g2, .inl (cI, 4, .inl (aI C))), (g3, .inl (cI, 7, .inl (aI wyI)))] H := hP
    have hD : va_D A [(g0, .inr (2, [.ref g1, .int (iI (tu)), .int (iI (ph)), .int (iI (mo)), .int (iI (gc)), .ref g2, .ref g3, .int (iI (1))])), (g1, .inl (cI, 16, .inl (aI P))), (g2, .inl (cI, 4, .inl (aI C))), (g3, .inl (cI, 7, .inl (aI wyI)))] := hD
    refine lv_aload_n hx hb dX2_square_27 rfl (lv_at hl 0 rfl) ?_
    refine va_get (D := D) (ci := 2) (v := .int (iI (1))) (C := RX2) (T := TX2) (N := 8) hx hb hts mu_X2_square_X2 hown hE.1 hP 0 rfl rfl 7 (by decide) (hts _ mw_X2_square_0) (fun _ h9 => h9) rfl dX2_square_28 ?_
    refine r_if_le (tgt := 36) hx hb dX2_square_31 (by decide) (by unfold rI; decide) (fun h9 => absurd h9 (by omega)) (fun h31 => ?_)
    refine r_iconst hx hb dX2_square_34 ?_
    exact hret (0) (1) _ _ _ _ dX2_square_35 (by first | omega | (dsimp only; omega)) hP hD hS

set_option maxRecDepth 20000 in
theorem mw_X2_standing_0 : (.fieldLink RX2 19 "PachisiYardModel" "thrown" "I" : Cond) ∈ wsX2_standing := by decide +kernel
set_option maxRecDepth 20000 in
theorem mu_X2_standing_X2 : ∀ w ∈ wsX20, w ∈ wsX2_standing := by decide +kernel
theorem f_X2_standing : yX2_standing.cls ≠ "java/lang/invoke/MethodHandle" ∧ yX2_standing.cls ≠ "java/lang/invoke/VarHandle" ∧ (parseMethodDescriptor yX2_standing.desc).map (fun d => d.parameters.length) = some 2 := by decide +kernel
set_option maxHeartbeats 4000000 in
set_option maxRecDepth 100000 in
theorem c_X2_standing (l : Launch) (D : va_G) (cI cL : ClassId) (tw : Nat) (g0 : Nat) (g1 : Nat) (g2 : Nat) (g3 : Nat) (tu : Int) (ph : Int) (mo : Int) (gc : Int) (th : Int) (P : Int → Int) (C : Int → Int) (q : Int) (t : Int) (hB : ∀ i, 0 ≤ P i ∧ P i ≤ 72) (htu : 0 ≤ tu ∧ tu ≤ 3) (hgc : 0 ≤ gc ∧ gc ≤ 2) (hph : 0 ≤ ph ∧ ph ≤ 2) (hmo : 0 ≤ mo ∧ mo ≤ 6) (h_q : -2147483648 ≤ q ∧ q < 2147483648) (h_t : -2147483648 ≤ t ∧ t < 2147483648) : RWi l yX2_standing wsX2_standing { frames := 2, cells := 0, slots := 0, locals := 47 } D cI cL tw [.ref g0, .int (iI (q)), .int (iI (t))] [(g0, .inr (2, [.ref g1, .int (iI (tu)), .int (iI (ph)), .int (iI (mo)), .int (iI (gc)), .ref g2, .ref g3, .int (iI (th))])), (g1, .inl (cI, 16, .inl (aI P))), (g2, .inl (cI, 4, .inl (aI C))), (g3, .inl (cI, 7, .inl (aI wyI)))] (fun (z : Int) (u : Int) => (0 ≤ q ∧ q ≤ 67 ∧ 0 ≤ t ∧ t ≤ 1 ∧ u = 0 ∧ z = stand P q t) ∨ (¬ (0 ≤ q ∧ q ≤ 67) ∧ u = 1 ∧ z = 0) ∨ (0 ≤ q ∧ q ≤ 67 ∧ ¬ (0 ≤ t ∧ t ≤ 1) ∧ u = 2 ∧ z = 0)) (fun u : Int => [(g0, .inr (2, [.ref g1, .int (iI (tu)), .int (iI (ph)), .int (iI (mo)), .int (iI (gc)), .ref g2, .ref g3, .int (iI (u))])), (g1, .inl (cI, 16, .inl (aI P))), (g2, .inl (cI, 4, .inl (aI C))), (g3, .inl (cI, 7, .inl (aI wyI)))]) := by
  refine rwi_of (cc := cX2_standing) (maxL := 3) (rt := .int) (own := RX2) (by decide) rfl rfl (Or.inl rfl) (Nat.le_of_ble_eq_true rfl) ?_
  intro p e R s mt args below meth c H0 Q ls A S hR hE hP hD hS hA hl hret
  obtain ⟨hx, hb, hml, hown, hts⟩ := id S
  have hl : lv_has ls 3 [(0, .ref g0), (1, .int (iI (q))), (2, .int (iI (t)))] := hl
  refine lv_aload_n hx hb dX2_standing_0 rfl (lv_at hl 0 rfl) ?_
  refine lv_iload_n hx hb dX2_standing_1 rfl (lv_at hl 1 rfl) ?_
  refine r_iconst hx hb dX2_standing_2 ?_
  refine r_bipush hx hb dX2_standing_3 (by decide) ?_
  refine r_callS (As := [.int (iI (q)), .int (iI (0)), .int (iI (67))]) (rest := [.ref g0]) S (c_X2_isIn l D cI cL tw (q) (0) (67) (by omega) (by omega) (by omega)) gX2_standing_X2_isIn rfl rfl rfl f_X2_isIn hR (Nat.le_of_ble_eq_true rfl) (Nat.le_of_ble_eq_true rfl) (hE.kept hS.2.1) rfl hl.1 rfl (Nat.le_of_ble_eq_true rfl) dX2_standing_5 ⟨Nat.zero_le _, Nat.zero_le _⟩ (fun z5 hz5 => ?_)
  rcases hz5 with ⟨rfl, hz5⟩ | ⟨rfl, hz5⟩
  · refine r_if_ne (tgt := 15) hx hb dX2_standing_8 (by decide) (by unfold rI; decide) (fun h8 => ?_) (fun h9 => absurd h9 (by omega))
    refine lv_iload_n hx hb dX2_standing_15 rfl (lv_at hl 2 rfl) ?_
    refine r_iconst hx hb dX2_standing_16 ?_
    refine r_iconst hx hb dX2_standing_17 ?_
    refine r_callS (As := [.int (iI (t)), .int (iI (0)), .int (iI (1))]) (rest := [.ref g0]) S (c_X2_isIn l D cI cL tw (t) (0) (1) (by omega) (by omega) (by omega)) gX2_standing_X2_isIn rfl rfl rfl f_X2_isIn hR (Nat.le_of_ble_eq_true rfl) (Nat.le_of_ble_eq_true rfl) (hE.kept hS.2.1) rfl hl.1 rfl (Nat.le_of_ble_eq_true rfl) dX2_standing_18 ⟨Nat.zero_le _, Nat.zero_le _⟩ (fun z18 hz18 => ?_)
    rcases hz18 with ⟨rfl, hz18⟩ | ⟨rfl, hz18⟩
    · refine r_if_eq (tgt := 28) hx hb dX2_standing_21 (by decide) (by unfold rI; decide) (fun h9 => absurd h9 (by omega)) (fun h21 => ?_)
      refine r_iconst hx hb dX2_standing_24 ?_
      refine lv_goto (tgt := 29) hx hb dX2_standing_25 (by decide) ?_
      refine va_put (D := D) (ci := 2) (v := .int (iI (0))) (ty := .int) (C := RX2) (T := TX2) (N := 8) hx hb hts mu_X2_standing_X2 tyX2 tyX2_ok nmX2 hown hE.1 hP hD hS 0 rfl rfl 7 (by decide) (hts _ mw_X2_standing_0) (fun _ h9 => h9) rfl (by decide +kernel) rfl rfl (Nat.le_of_ble_eq_true rfl) dX2_standing_29 (fun H locs hP hD hS => ?_)
      have hP : va_P D vwCl [(g0, .inr (2, [.ref g1, .int (iI (tu)), .int (iI (ph)), .int (iI (mo)), .int (iI (gc)), .ref g2, .ref g3, .int (iI (0))])), (g1, .inl (cI, 16, .inl (aI P))), (g2, .inl (cI, 4, .inl (aI C))), (g3, .inl (cI, 7, .inl (aI wyI)))] H := hP
      have hD : va_D A [(g0, .inr (2, [.ref g1, .int (iI (tu)), .int (iI (ph)), .int (iI (mo)), .int (iI (gc)), .ref g2, .ref g3, .int (iI (0))])), (g1, .inl (cI, 16, .inl (aI P))), (g2, .inl (cI, 4, .inl (aI C))), (g3, .inl (cI, 7, .inl (aI wyI)))] := hD
      refine lv_aload_n hx hb dX2_standing_32 rfl (lv_at hl 0 rfl) ?_
      refine va_get (D := D) (ci := 2) (v := .int (iI (0))) (C := RX2) (T := TX2) (N := 8) hx hb hts mu_X2_standing_X2 hown hE.1 hP 0 rfl rfl 7 (by decide) (hts _ mw_X2_standing_0) (fun _ h9 => h9) rfl dX2_standing_33 ?_
      refine r_if_le (tgt := 43) hx hb dX2_standing_36 (by decide) (by unfold rI; decide) (fun h36 => ?_) (fun h9 => absurd h9 (by omega))
      refine lv_aload_n hx hb dX2_standing_43 rfl (lv_at hl 0 rfl) ?_
      refine lv_iload_n hx hb dX2_standing_44 rfl (lv_at hl 1 rfl) ?_
      refine lv_iload_n hx hb dX2_standing_45 rfl (lv_at hl 2 rfl) ?_
      refine r_callV (As := [.int (iI (q)), .int (iI (t))]) (rest := []) S (c_X2_stand l D cI cL tw (g0) (g1) (g2) (g3) (tu) (ph) (mo) (gc) (0) (P) (C) (q) (t) (hB) (by omega) (by omega)) gX2_standing_X2_stand rfl rfl rfl ⟨rfl, f_X2_stand⟩ hR (Nat.le_of_ble_eq_true rfl) (Nat.le_of_ble_eq_true rfl) (hE.kept hS.2.1) hP [0, 1, 2, 3] rfl 0 rfl rfl rfl hl.1 rfl (Nat.le_of_ble_eq_true rfl) dX2_standing_46 ⟨Nat.zero_le _, Nat.zero_le _⟩ (fun z46 hz46 => ?_)
      obtain ⟨hz46, rz46⟩ := hz46
      exact hret (z46) (0) _ _ _ _ dX2_standing_49 (by first | omega | (dsimp only; omega)) hP hD hS
    · refine r_if_eq (tgt := 28) hx hb dX2_standing_21 (by decide) (by unfold rI; decide) (fun h21 => ?_) (fun h9 => absurd h9 (by omega))
      refine r_iconst hx hb dX2_standing_28 ?_
      refine va_put (D := D) (ci := 2) (v := .int (iI (2))) (ty := .int) (C := RX2) (T := TX2) (N := 8) hx hb hts mu_X2_standing_X2 tyX2 tyX2_ok nmX2 hown hE.1 hP hD hS 0 rfl rfl 7 (by decide) (hts _ mw_X2_standing_0) (fun _ h9 => h9) rfl (by decide +kernel) rfl rfl (Nat.le_of_ble_eq_true rfl) dX2_standing_29 (fun H locs hP hD hS => ?_)
      have hP : va_P D vwCl [(g0, .inr (2, [.ref g1, .int (iI (tu)), .int (iI (ph)), .int (iI (mo)), .int (iI (gc)), .ref g2, .ref g3, .int (iI (2))])), (g1, .inl (cI, 16, .inl (aI P))), (g2, .inl (cI, 4, .inl (aI C))), (g3, .inl (cI, 7, .inl (aI wyI)))] H := hP
      have hD : va_D A [(g0, .inr (2, [.ref g1, .int (iI (tu)), .int (iI (ph)), .int (iI (mo)), .int (iI (gc)), .ref g2, .ref g3, .int (iI (2))])), (g1, .inl (cI, 16, .inl (aI P))), (g2, .inl (cI, 4, .inl (aI C))), (g3, .inl (cI, 7, .inl (aI wyI)))] := hD
      refine lv_aload_n hx hb dX2_standing_32 rfl (lv_at hl 0 rfl) ?_
      refine va_get (D := D) (ci := 2) (v := .int (iI (2))) (C := RX2) (T := TX2) (N := 8) hx hb hts mu_X2_standing_X2 hown hE.1 hP 0 rfl rfl 7 (by decide) (hts _ mw_X2_standing_0) (fun _ h9 => h9) rfl dX2_standing_33 ?_
      refine r_if_le (tgt := 43) hx hb dX2_standing_36 (by decide) (by unfold rI; decide) (fun h9 => absurd h9 (by omega)) (fun h36 => ?_)
      refine r_iconst hx hb dX2_standing_39 ?_
      refine lv_goto (tgt := 49) hx hb dX2_standing_40 (by decide) ?_
      exact hret (0) (2) _ _ _ _ dX2_standing_49 (by first | omega | (dsimp only; omega)) hP hD hS
  · refine r_if_ne (tgt := 15) hx hb dX2_standing_8 (by decide) (by unfold rI; decide) (fun h9 => absurd h9 (by omega)) (fun h8 => ?_)
    refine r_iconst hx hb dX2_standing_11 ?_
    refine lv_goto (tgt := 29) hx hb dX2_standing_12 (by decide) ?_
    refine va_put (D := D) (ci := 2) (v := .int (iI (1))) (ty := .int) (C := RX2) (T := TX2) (N := 8) hx hb hts mu_X2_standing_X2 tyX2 tyX2_ok nmX2 hown hE.1 hP hD hS 0 rfl rfl 7 (by decide) (hts _ mw_X2_standing_0) (fun _ h9 => h9) rfl (by decide +kernel) rfl rfl (Nat.le_of_ble_eq_true rfl) dX2_standing_29 (fun H locs hP hD hS => ?_)
    have hP : va_P D vwCl [(g0, .inr (2, [.ref g1, .int (iI (tu)), .int (iI (ph)), .int (iI (mo)), .int (iI (gc)), .ref g2, .ref g3, .int (iI (1))])), (g1, .inl (cI, 16, .inl (aI P))), (g2, .inl (cI, 4, .inl (aI C))), (g3, .inl (cI, 7, .inl (aI wyI)))] H := hP
    have hD : va_D A [(g0, .inr (2, [.ref g1, .int (iI (tu)), .int (iI (ph)), .int (iI (mo)), .int (iI (gc)), .ref g2, .ref g3, .int (iI (1))])), (g1, .inl (cI, 16, .inl (aI P))), (g2, .inl (cI, 4, .inl (aI C))), (g3, .inl (cI, 7, .inl (aI wyI)))] := hD
    refine lv_aload_n hx hb dX2_standing_32 rfl (lv_at hl 0 rfl) ?_
    refine va_get (D := D) (ci := 2) (v := .int (iI (1))) (C := RX2) (T := TX2) (N := 8) hx hb hts mu_X2_standing_X2 hown hE.1 hP 0 rfl rfl 7 (by decide) (hts _ mw_X2_standing_0) (fun _ h9 => h9) rfl dX2_standing_33 ?_
    refine r_if_le (tgt := 43) hx hb dX2_standing_36 (by decide) (by unfold rI; decide) (fun h9 => absurd h9 (by omega)) (fun h36 => ?_)
    refine r_iconst hx hb dX2_standing_39 ?_
    refine lv_goto (tgt := 49) hx hb dX2_standing_40 (by decide) ?_
    exact hret (0) (1) _ _ _ _ dX2_standing_49 (by first | omega | (dsimp only; omega)) hP hD hS

set_option maxRecDepth 20000 in
theorem mw_X2_isSafe_0 : (.fieldLink RX2 19 "PachisiYardModel" "thrown" "I" : Cond) ∈ wsX2_isSafe := by decide +kernel
set_option maxRecDepth 20000 in
theorem mu_X2_isSafe_X2 : ∀ w ∈ wsX20, w ∈ wsX2_isSafe := by decide +kernel
theorem f_X2_isSafe : yX2_isSafe.cls ≠ "java/lang/invoke/MethodHandle" ∧ yX2_isSafe.cls ≠ "java/lang/invoke/VarHandle" ∧ (parseMethodDescriptor yX2_isSafe.desc).map (fun d => d.parameters.length) = some 1 := by decide +kernel
set_option maxHeartbeats 4000000 in
set_option maxRecDepth 100000 in
theorem c_X2_isSafe (l : Launch) (D : va_G) (cI cL : ClassId) (tw : Nat) (g0 : Nat) (g1 : Nat) (g2 : Nat) (g3 : Nat) (tu : Int) (ph : Int) (mo : Int) (gc : Int) (th : Int) (P : Int → Int) (C : Int → Int) (q : Int) (hB : ∀ i, 0 ≤ P i ∧ P i ≤ 72) (htu : 0 ≤ tu ∧ tu ≤ 3) (hgc : 0 ≤ gc ∧ gc ≤ 2) (hph : 0 ≤ ph ∧ ph ≤ 2) (hmo : 0 ≤ mo ∧ mo ≤ 6) (h_q : -2147483648 ≤ q ∧ q < 2147483648) : RWi l yX2_isSafe wsX2_isSafe { frames := 1, cells := 0, slots := 0, locals := 22 } D cI cL tw [.ref g0, .int (iI (q))] [(g0, .inr (2, [.ref g1, .int (iI (tu)), .int (iI (ph)), .int (iI (mo)), .int (iI (gc)), .ref g2, .ref g3, .int (iI (th))])), (g1, .inl (cI, 16, .inl (aI P))), (g2, .inl (cI, 4, .inl (aI C))), (g3, .inl (cI, 7, .inl (aI wyI)))] (fun (z : Int) (u : Int) => (0 ≤ q ∧ q ≤ 67 ∧ u = 0 ∧ tz (q % 17 = 4 ∨ q % 17 = 11) z) ∨ (¬ (0 ≤ q ∧ q ≤ 67) ∧ u = 1 ∧ z = 0)) (fun u : Int => [(g0, .inr (2, [.ref g1, .int (iI (tu)), .int (iI (ph)), .int (iI (mo)), .int (iI (gc)), .ref g2, .ref g3, .int (iI (u))])), (g1, .inl (cI, 16, .inl (aI P))), (g2, .inl (cI, 4, .inl (aI C))), (g3, .inl (cI, 7, .inl (aI wyI)))]) := by
  refine rwi_of (cc := cX2_isSafe) (maxL := 2) (rt := .boolean) (own := RX2) (by decide) rfl rfl (Or.inr ⟨rfl, fun z u h => by unfold tz at h; omega⟩) (Nat.le_of_ble_eq_true rfl) ?_
  intro p e R s mt args below meth c H0 Q ls A S hR hE hP hD hS hA hl hret
  obtain ⟨hx, hb, hml, hown, hts⟩ := id S
  have hl : lv_has ls 2 [(0, .ref g0), (1, .int (iI (q)))] := hl
  refine lv_aload_n hx hb dX2_isSafe_0 rfl (lv_at hl 0 rfl) ?_
  refine lv_iload_n hx hb dX2_isSafe_1 rfl (lv_at hl 1 rfl) ?_
  refine r_iconst hx hb dX2_isSafe_2 ?_
  refine r_bipush hx hb dX2_isSafe_3 (by decide) ?_
  refine r_callS (As := [.int (iI (q)), .int (iI (0)), .int (iI (67))]) (rest := [.ref g0]) S (c_X2_isIn l D cI cL tw (q) (0) (67) (by omega) (by omega) (by omega)) gX2_isSafe_X2_isIn rfl rfl rfl f_X2_isIn hR (Nat.le_of_ble_eq_true rfl) (Nat.le_of_ble_eq_true rfl) (hE.kept hS.2.1) rfl hl.1 rfl (Nat.le_of_ble_eq_true rfl) dX2_isSafe_5 ⟨Nat.zero_le _, Nat.zero_le _⟩ (fun z5 hz5 => ?_)
  rcases hz5 with ⟨rfl, hz5⟩ | ⟨rfl, hz5⟩
  · refine r_if_eq (tgt := 15) hx hb dX2_isSafe_8 (by decide) (by unfold rI; decide) (fun h9 => absurd h9 (by omega)) (fun h8 => ?_)
    refine r_iconst hx hb dX2_isSafe_11 ?_
    refine lv_goto (tgt := 16) hx hb dX2_isSafe_12 (by decide) ?_
    refine va_put (D := D) (ci := 2) (v := .int (iI (0))) (ty := .int) (C := RX2) (T := TX2) (N := 8) hx hb hts mu_X2_isSafe_X2 tyX2 tyX2_ok nmX2 hown hE.1 hP hD hS 0 rfl rfl 7 (by decide) (hts _ mw_X2_isSafe_0) (fun _ h9 => h9) rfl (by decide +kernel) rfl rfl (Nat.le_of_ble_eq_true rfl) dX2_isSafe_16 (fun H locs hP hD hS => ?_)
    have hP : va_P D vwCl [(g0, .inr (2, [.ref g1, .int (iI (tu)), .int (iI (ph)), .int (iI (mo)), .int (iI (gc)), .ref g2, .ref g3, .int (iI (0))])), (g1, .inl (cI, 16, .inl (aI P))), (g2, .inl (cI, 4, .inl (aI C))), (g3, .inl (cI, 7, .inl (aI wyI)))] H := hP
    have hD : va_D A [(g0, .inr (2, [.ref g1, .int (iI (tu)), .int (iI (ph)), .int (iI (mo)), .int (iI (gc)), .ref g2, .ref g3, .int (iI (0))])), (g1, .inl (cI, 16, .inl (aI P))), (g2, .inl (cI, 4, .inl (aI C))), (g3, .inl (cI, 7, .inl (aI wyI)))] := hD
    refine lv_aload_n hx hb dX2_isSafe_19 rfl (lv_at hl 0 rfl) ?_
    refine va_get (D := D) (ci := 2) (v := .int (iI (0))) (C := RX2) (T := TX2) (N := 8) hx hb hts mu_X2_isSafe_X2 hown hE.1 hP 0 rfl rfl 7 (by decide) (hts _ mw_X2_isSafe_0) (fun _ h9 => h9) rfl dX2_isSafe_20 ?_
    refine r_if_ne (tgt := 37) hx hb dX2_isSafe_23 (by decide) (by unfold rI; decide) (fun h9 => absurd h9 (by omega)) (fun h23 => ?_)
    refine lv_iload_n hx hb dX2_isSafe_26 rfl (lv_at hl 1 rfl) ?_
    refine r_callS (As := [.int (iI (q))]) (rest := []) S (c_X2_isSafeOne l D cI cL tw (q) (by omega)) gX2_isSafe_X2_isSafeOne rfl rfl rfl f_X2_isSafeOne hR (Nat.le_of_ble_eq_true rfl) (Nat.le_of_ble_eq_true rfl) (hE.kept hS.2.1) rfl hl.1 rfl (Nat.le_of_ble_eq_true rfl) dX2_isSafe_27 ⟨Nat.zero_le _, Nat.zero_le _⟩ (fun z27 hz27 => ?_)
    rcases hz27 with ⟨rfl, hz27⟩ | ⟨rfl, hz27⟩
    · refine r_if_eq (tgt := 37) hx hb dX2_isSafe_30 (by decide) (by unfold rI; decide) (fun h9 => absurd h9 (by omega)) (fun h30 => ?_)
      refine r_iconst hx hb dX2_isSafe_33 ?_
      refine lv_goto (tgt := 38) hx hb dX2_isSafe_34 (by decide) ?_
      exact hret (1) (0) _ _ _ _ dX2_isSafe_38 (by (try dsimp only); unfold tz; omega) hP hD hS
    · refine r_if_eq (tgt := 37) hx hb dX2_isSafe_30 (by decide) (by unfold rI; decide) (fun h30 => ?_) (fun h9 => absurd h9 (by omega))
      refine r_iconst hx hb dX2_isSafe_37 ?_
      exact hret (0) (0) _ _ _ _ dX2_isSafe_38 (by (try dsimp only); unfold tz; omega) hP hD hS
  · refine r_if_eq (tgt := 15) hx hb dX2_isSafe_8 (by decide) (by unfold rI; decide) (fun h8 => ?_) (fun h9 => absurd h9 (by omega))
    refine r_iconst hx hb dX2_isSafe_15 ?_
    refine va_put (D := D) (ci := 2) (v := .int (iI (1))) (ty := .int) (C := RX2) (T := TX2) (N := 8) hx hb hts mu_X2_isSafe_X2 tyX2 tyX2_ok nmX2 hown hE.1 hP hD hS 0 rfl rfl 7 (by decide) (hts _ mw_X2_isSafe_0) (fun _ h9 => h9) rfl (by decide +kernel) rfl rfl (Nat.le_of_ble_eq_true rfl) dX2_isSafe_16 (fun H locs hP hD hS => ?_)
    have hP : va_P D vwCl [(g0, .inr (2, [.ref g1, .int (iI (tu)), .int (iI (ph)), .int (iI (mo)), .int (iI (gc)), .ref g2, .ref g3, .int (iI (1))])), (g1, .inl (cI, 16, .inl (aI P))), (g2, .inl (cI, 4, .inl (aI C))), (g3, .inl (cI, 7, .inl (aI wyI)))] H := hP
    have hD : va_D A [(g0, .inr (2, [.ref g1, .int (iI (tu)), .int (iI (ph)), .int (iI (mo)), .int (iI (gc)), .ref g2, .ref g3, .int (iI (1))])), (g1, .inl (cI, 16, .inl (aI P))), (g2, .inl (cI, 4, .inl (aI C))), (g3, .inl (cI, 7, .inl (aI wyI)))] := hD
    refine lv_aload_n hx hb dX2_isSafe_19 rfl (lv_at hl 0 rfl) ?_
    refine va_get (D := D) (ci := 2) (v := .int (iI (1))) (C := RX2) (T := TX2) (N := 8) hx hb hts mu_X2_isSafe_X2 hown hE.1 hP 0 rfl rfl 7 (by decide) (hts _ mw_X2_isSafe_0) (fun _ h9 => h9) rfl dX2_isSafe_20 ?_
    refine r_if_ne (tgt := 37) hx hb dX2_isSafe_23 (by decide) (by unfold rI; decide) (fun h23 => ?_) (fun h9 => absurd h9 (by omega))
    refine r_iconst hx hb dX2_isSafe_37 ?_
    exact hret (0) (1) _ _ _ _ dX2_isSafe_38 (by (try dsimp only); unfold tz; omega) hP hD hS

set_option maxRecDepth 20000 in
theorem mw_X2_home_0 : (.fieldLink RX2 19 "PachisiYardModel" "thrown" "I" : Cond) ∈ wsX2_home := by decide +kernel
set_option maxRecDepth 20000 in
theorem mu_X2_home_X2 : ∀ w ∈ wsX20, w ∈ wsX2_home := by decide +kernel
theorem f_X2_home : yX2_home.cls ≠ "java/lang/invoke/MethodHandle" ∧ yX2_home.cls ≠ "java/lang/invoke/VarHandle" ∧ (parseMethodDescriptor yX2_home.desc).map (fun d => d.parameters.length) = some 1 := by decide +kernel
set_option maxHeartbeats 4000000 in
set_option maxRecDepth 100000 in
theorem c_X2_home (l : Launch) (D : va_G) (cI cL : ClassId) (tw : Nat) (g0 : Nat) (g1 : Nat) (g2 : Nat) (g3 : Nat) (tu : Int) (ph : Int) (mo : Int) (gc : Int) (th : Int) (P : Int → Int) (C : Int → Int) (a : Int) (hB : ∀ i, 0 ≤ P i ∧ P i ≤ 72) (htu : 0 ≤ tu ∧ tu ≤ 3) (hgc : 0 ≤ gc ∧ gc ≤ 2) (hph : 0 ≤ ph ∧ ph ≤ 2) (hmo : 0 ≤ mo ∧ mo ≤ 6) (h_a : -2147483648 ≤ a ∧ a < 2147483648) : RWi l yX2_home wsX2_home { frames := 1, cells := 0, slots := 0, locals := 23 } D cI cL tw [.ref g0, .int (iI (a))] [(g0, .inr (2, [.ref g1, .int (iI (tu)), .int (iI (ph)), .int (iI (mo)), .int (iI (gc)), .ref g2, .ref g3, .int (iI (th))])), (g1, .inl (cI, 16, .inl (aI P))), (g2, .inl (cI, 4, .inl (aI C))), (g3, .inl (cI, 7, .inl (aI wyI)))] (fun (z : Int) (u : Int) => (0 ≤ a ∧ a ≤ 3 ∧ u = 0 ∧ z = hm P a) ∨ (¬ (0 ≤ a ∧ a ≤ 3) ∧ u = 1 ∧ z = 0)) (fun u : Int => [(g0, .inr (2, [.ref g1, .int (iI (tu)), .int (iI (ph)), .int (iI (mo)), .int (iI (gc)), .ref g2, .ref g3, .int (iI (u))])), (g1, .inl (cI, 16, .inl (aI P))), (g2, .inl (cI, 4, .inl (aI C))), (g3, .inl (cI, 7, .inl (aI wyI)))]) := by
  refine rwi_of (cc := cX2_home) (maxL := 2) (rt := .int) (own := RX2) (by decide) rfl rfl (Or.inl rfl) (Nat.le_of_ble_eq_true rfl) ?_
  intro p e R s mt args below meth c H0 Q ls A S hR hE hP hD hS hA hl hret
  obtain ⟨hx, hb, hml, hown, hts⟩ := id S
  have hl : lv_has ls 2 [(0, .ref g0), (1, .int (iI (a)))] := hl
  refine lv_aload_n hx hb dX2_home_0 rfl (lv_at hl 0 rfl) ?_
  refine lv_iload_n hx hb dX2_home_1 rfl (lv_at hl 1 rfl) ?_
  refine r_iconst hx hb dX2_home_2 ?_
  refine r_iconst hx hb dX2_home_3 ?_
  refine r_callS (As := [.int (iI (a)), .int (iI (0)), .int (iI (3))]) (rest := [.ref g0]) S (c_X2_isIn l D cI cL tw (a) (0) (3) (by omega) (by omega) (by omega)) gX2_home_X2_isIn rfl rfl rfl f_X2_isIn hR (Nat.le_of_ble_eq_true rfl) (Nat.le_of_ble_eq_true rfl) (hE.kept hS.2.1) rfl hl.1 rfl (Nat.le_of_ble_eq_true rfl) dX2_home_4 ⟨Nat.zero_le _, Nat.zero_le _⟩ (fun z4 hz4 => ?_)
  rcases hz4 with ⟨rfl, hz4⟩ | ⟨rfl, hz4⟩
  · refine r_if_eq (tgt := 14) hx hb dX2_home_7 (by decide) (by unfold rI; decide) (fun h9 => absurd h9 (by omega)) (fun h7 => ?_)
    refine r_iconst hx hb dX2_home_10 ?_
    refine lv_goto (tgt := 15) hx hb dX2_home_11 (by decide) ?_
    refine va_put (D := D) (ci := 2) (v := .int (iI (0))) (ty := .int) (C := RX2) (T := TX2) (N := 8) hx hb hts mu_X2_home_X2 tyX2 tyX2_ok nmX2 hown hE.1 hP hD hS 0 rfl rfl 7 (by decide) (hts _ mw_X2_home_0) (fun _ h9 => h9) rfl (by decide +kernel) rfl rfl (Nat.le_of_ble_eq_true rfl) dX2_home_15 (fun H locs hP hD hS => ?_)
    have hP : va_P D vwCl [(g0, .inr (2, [.ref g1, .int (iI (tu)), .int (iI (ph)), .int (iI (mo)), .int (iI (gc)), .ref g2, .ref g3, .int (iI (0))])), (g1, .inl (cI, 16, .inl (aI P))), (g2, .inl (cI, 4, .inl (aI C))), (g3, .inl (cI, 7, .inl (aI wyI)))] H := hP
    have hD : va_D A [(g0, .inr (2, [.ref g1, .int (iI (tu)), .int (iI (ph)), .int (iI (mo)), .int (iI (gc)), .ref g2, .ref g3, .int (iI (0))])), (g1, .inl (cI, 16, .inl (aI P))), (g2, .inl (cI, 4, .inl (aI C))), (g3, .inl (cI, 7, .inl (aI wyI)))] := hD
    refine lv_aload_n hx hb dX2_home_18 rfl (lv_at hl 0 rfl) ?_
    refine va_get (D := D) (ci := 2) (v := .int (iI (0))) (C := RX2) (T := TX2) (N := 8) hx hb hts mu_X2_home_X2 hown hE.1 hP 0 rfl rfl 7 (by decide) (hts _ mw_X2_home_0) (fun _ h9 => h9) rfl dX2_home_19 ?_
    refine r_if_le (tgt := 29) hx hb dX2_home_22 (by decide) (by unfold rI; decide) (fun h22 => ?_) (fun h9 => absurd h9 (by omega))
    refine lv_aload_n hx hb dX2_home_29 rfl (lv_at hl 0 rfl) ?_
    refine lv_iload_n hx hb dX2_home_30 rfl (lv_at hl 1 rfl) ?_
    refine r_callV (As := [.int (iI (a))]) (rest := []) S (c_X2_homes l D cI cL tw (g0) (g1) (g2) (g3) (tu) (ph) (mo) (gc) (0) (P) (C) (a) (hB) (by omega)) gX2_home_X2_homes rfl rfl rfl ⟨rfl, f_X2_homes⟩ hR (Nat.le_of_ble_eq_true rfl) (Nat.le_of_ble_eq_true rfl) (hE.kept hS.2.1) hP [0, 1, 2, 3] rfl 0 rfl rfl rfl hl.1 rfl (Nat.le_of_ble_eq_true rfl) dX2_home_31 ⟨Nat.zero_le _, Nat.zero_le _⟩ (fun z31 hz31 => ?_)
    obtain ⟨hz31, rz31⟩ := hz31
    exact hret (z31) (0) _ _ _ _ dX2_home_34 (by first | omega | (dsimp only; omega)) hP hD hS
  · refine r_if_eq (tgt := 14) hx hb dX2_home_7 (by decide) (by unfold rI; decide) (fun h7 => ?_) (fun h9 => absurd h9 (by omega))
    refine r_iconst hx hb dX2_home_14 ?_
    refine va_put (D := D) (ci := 2) (v := .int (iI (1))) (ty := .int) (C := RX2) (T := TX2) (N := 8) hx hb hts mu_X2_home_X2 tyX2 tyX2_ok nmX2 hown hE.1 hP hD hS 0 rfl rfl 7 (by decide) (hts _ mw_X2_home_0) (fun _ h9 => h9) rfl (by decide +kernel) rfl rfl (Nat.le_of_ble_eq_true rfl) dX2_home_15 (fun H locs hP hD hS => ?_)
    have hP : va_P D vwCl [(g0, .inr (2, [.ref g1, .int (iI (tu)), .int (iI (ph)), .int (iI (mo)), .int (iI (gc)), .ref g2, .ref g3, .int (iI (1))])), (g1, .inl (cI, 16, .inl (aI P))), (g2, .inl (cI, 4, .inl (aI C))), (g3, .inl (cI, 7, .inl (aI wyI)))] H := hP
    have hD : va_D A [(g0, .inr (2, [.ref g1, .int (iI (tu)), .int (iI (ph)), .int (iI (mo)), .int (iI (gc)), .ref g2, .ref g3, .int (iI (1))])), (g1, .inl (cI, 16, .inl (aI P))), (g2, .inl (cI, 4, .inl (aI C))), (g3, .inl (cI, 7, .inl (aI wyI)))] := hD
    refine lv_aload_n hx hb dX2_home_18 rfl (lv_at hl 0 rfl) ?_
    refine va_get (D := D) (ci := 2) (v := .int (iI (1))) (C := RX2) (T := TX2) (N := 8) hx hb hts mu_X2_home_X2 hown hE.1 hP 0 rfl rfl 7 (by decide) (hts _ mw_X2_home_0) (fun _ h9 => h9) rfl dX2_home_19 ?_
    refine r_if_le (tgt := 29) hx hb dX2_home_22 (by decide) (by unfold rI; decide) (fun h9 => absurd h9 (by omega)) (fun h22 => ?_)
    refine r_iconst hx hb dX2_home_25 ?_
    refine lv_goto (tgt := 34) hx hb dX2_home_26 (by decide) ?_
    exact hret (0) (1) _ _ _ _ dX2_home_34 (by first | omega | (dsimp only; omega)) hP hD hS

set_option maxRecDepth 20000 in
theorem mw_X2_captures_0 : (.fieldLink RX2 19 "PachisiYardModel" "thrown" "I" : Cond) ∈ wsX2_captures := by decide +kernel
set_option maxRecDepth 20000 in
theorem mu_X2_captures_X2 : ∀ w ∈ wsX20, w ∈ wsX2_captures := by decide +kernel
set_option maxRecDepth 20000 in
theorem mw_X2_captures_2 : (.fieldLink RX2 13 "PachisiYardModel" "captures" "[I" : Cond) ∈ wsX2_captures := by decide +kernel
theorem f_X2_captures : yX2_captures.cls ≠ "java/lang/invoke/MethodHandle" ∧ yX2_captures.cls ≠ "java/lang/invoke/VarHandle" ∧ (parseMethodDescriptor yX2_captures.desc).map (fun d => d.parameters.length) = some 1 := by decide +kernel
set_option maxHeartbeats 4000000 in
set_option maxRecDepth 100000 in
theorem c_X2_captures (l : Launch) (D : va_G) (cI cL : ClassId) (tw : Nat) (g0 : Nat) (g1 : Nat) (g2 : Nat) (g3 : Nat) (tu : Int) (ph : Int) (mo : Int) (gc : Int) (th : Int) (P : Int → Int) (C : Int → Int) (a : Int) (hB : ∀ i, 0 ≤ P i ∧ P i ≤ 72) (htu : 0 ≤ tu ∧ tu ≤ 3) (hgc : 0 ≤ gc ∧ gc ≤ 2) (hph : 0 ≤ ph ∧ ph ≤ 2) (hmo : 0 ≤ mo ∧ mo ≤ 6) (h_a : -2147483648 ≤ a ∧ a < 2147483648) : RWi l yX2_captures wsX2_captures { frames := 1, cells := 0, slots := 0, locals := 22 } D cI cL tw [.ref g0, .int (iI (a))] [(g0, .inr (2, [.ref g1, .int (iI (tu)), .int (iI (ph)), .int (iI (mo)), .int (iI (gc)), .ref g2, .ref g3, .int (iI (th))])), (g1, .inl (cI, 16, .inl (aI P))), (g2, .inl (cI, 4, .inl (aI C))), (g3, .inl (cI, 7, .inl (aI wyI)))] (fun (z : Int) (u : Int) => (0 ≤ a ∧ a ≤ 3 ∧ u = 0 ∧ z = C a) ∨ (¬ (0 ≤ a ∧ a ≤ 3) ∧ u = 1 ∧ z = 0)) (fun u : Int => [(g0, .inr (2, [.ref g1, .int (iI (tu)), .int (iI (ph)), .int (iI (mo)), .int (iI (gc)), .ref g2, .ref g3, .int (iI (u))])), (g1, .inl (cI, 16, .inl (aI P))), (g2, .inl (cI, 4, .inl (aI C))), (g3, .inl (cI, 7, .inl (aI wyI)))]) := by
  refine rwi_of (cc := cX2_captures) (maxL := 2) (rt := .int) (own := RX2) (by decide) rfl rfl (Or.inl rfl) (Nat.le_of_ble_eq_true rfl) ?_
  intro p e R s mt args below meth c H0 Q ls A S hR hE hP hD hS hA hl hret
  obtain ⟨hx, hb, hml, hown, hts⟩ := id S
  have hl : lv_has ls 2 [(0, .ref g0), (1, .int (iI (a)))] := hl
  refine lv_aload_n hx hb dX2_captures_0 rfl (lv_at hl 0 rfl) ?_
  refine lv_iload_n hx hb dX2_captures_1 rfl (lv_at hl 1 rfl) ?_
  refine r_iconst hx hb dX2_captures_2 ?_
  refine r_iconst hx hb dX2_captures_3 ?_
  refine r_callS (As := [.int (iI (a)), .int (iI (0)), .int (iI (3))]) (rest := [.ref g0]) S (c_X2_isIn l D cI cL tw (a) (0) (3) (by omega) (by omega) (by omega)) gX2_captures_X2_isIn rfl rfl rfl f_X2_isIn hR (Nat.le_of_ble_eq_true rfl) (Nat.le_of_ble_eq_true rfl) (hE.kept hS.2.1) rfl hl.1 rfl (Nat.le_of_ble_eq_true rfl) dX2_captures_4 ⟨Nat.zero_le _, Nat.zero_le _⟩ (fun z4 hz4 => ?_)
  rcases hz4 with ⟨rfl, hz4⟩ | ⟨rfl, hz4⟩
  · refine r_if_eq (tgt := 14) hx hb dX2_captures_7 (by decide) (by unfold rI; decide) (fun h9 => absurd h9 (by omega)) (fun h7 => ?_)
    refine r_iconst hx hb dX2_captures_10 ?_
    refine lv_goto (tgt := 15) hx hb dX2_captures_11 (by decide) ?_
    refine va_put (D := D) (ci := 2) (v := .int (iI (0))) (ty := .int) (C := RX2) (T := TX2) (N := 8) hx hb hts mu_X2_captures_X2 tyX2 tyX2_ok nmX2 hown hE.1 hP hD hS 0 rfl rfl 7 (by decide) (hts _ mw_X2_captures_0) (fun _ h9 => h9) rfl (by decide +kernel) rfl rfl (Nat.le_of_ble_eq_true rfl) dX2_captures_15 (fun H locs hP hD hS => ?_)
    have hP : va_P D vwCl [(g0, .inr (2, [.ref g1, .int (iI (tu)), .int (iI (ph)), .int (iI (mo)), .int (iI (gc)), .ref g2, .ref g3, .int (iI (0))])), (g1, .inl (cI, 16, .inl (aI P))), (g2, .inl (cI, 4, .inl (aI C))), (g3, .inl (cI, 7, .inl (aI wyI)))] H := hP
    have hD : va_D A [(g0, .inr (2, [.ref g1, .int (iI (tu)), .int (iI (ph)), .int (iI (mo)), .int (iI (gc)), .ref g2, .ref g3, .int (iI (0))])), (g1, .inl (cI, 16, .inl (aI P))), (g2, .inl (cI, 4, .inl (aI C))), (g3, .inl (cI, 7, .inl (aI wyI)))] := hD
    refine lv_aload_n hx hb dX2_captures_18 rfl (lv_at hl 0 rfl) ?_
    refine va_get (D := D) (ci := 2) (v := .int (iI (0))) (C := RX2) (T := TX2) (N := 8) hx hb hts mu_X2_captures_X2 hown hE.1 hP 0 rfl rfl 7 (by decide) (hts _ mw_X2_captures_0) (fun _ h9 => h9) rfl dX2_captures_19 ?_
    refine r_if_le (tgt := 29) hx hb dX2_captures_22 (by decide) (by unfold rI; decide) (fun h22 => ?_) (fun h9 => absurd h9 (by omega))
    refine lv_aload_n hx hb dX2_captures_29 rfl (lv_at hl 0 rfl) ?_
    refine va_get (D := D) (ci := 2) (v := .ref g2) (C := RX2) (T := TX2) (N := 8) hx hb hts mu_X2_captures_X2 hown hE.1 hP 0 rfl rfl 5 (by decide) (hts _ mw_X2_captures_2) (fun _ h9 => h9) rfl dX2_captures_30 ?_
    refine lv_iload_n hx hb dX2_captures_33 rfl (lv_at hl 1 rfl) ?_
    refine r_iald hx hb hE.1 hP 2 rfl (i := a) (by omega) (by omega) (by decide) dX2_captures_34 ?_
    exact hret (C (a)) (0) _ _ _ _ dX2_captures_35 (by first | omega | (dsimp only; omega)) hP hD hS
  · refine r_if_eq (tgt := 14) hx hb dX2_captures_7 (by decide) (by unfold rI; decide) (fun h7 => ?_) (fun h9 => absurd h9 (by omega))
    refine r_iconst hx hb dX2_captures_14 ?_
    refine va_put (D := D) (ci := 2) (v := .int (iI (1))) (ty := .int) (C := RX2) (T := TX2) (N := 8) hx hb hts mu_X2_captures_X2 tyX2 tyX2_ok nmX2 hown hE.1 hP hD hS 0 rfl rfl 7 (by decide) (hts _ mw_X2_captures_0) (fun _ h9 => h9) rfl (by decide +kernel) rfl rfl (Nat.le_of_ble_eq_true rfl) dX2_captures_15 (fun H locs hP hD hS => ?_)
    have hP : va_P D vwCl [(g0, .inr (2, [.ref g1, .int (iI (tu)), .int (iI (ph)), .int (iI (mo)), .int (iI (gc)), .ref g2, .ref g3, .int (iI (1))])), (g1, .inl (cI, 16, .inl (aI P))), (g2, .inl (cI, 4, .inl (aI C))), (g3, .inl (cI, 7, .inl (aI wyI)))] H := hP
    have hD : va_D A [(g0, .inr (2, [.ref g1, .int (iI (tu)), .int (iI (ph)), .int (iI (mo)), .int (iI (gc)), .ref g2, .ref g3, .int (iI (1))])), (g1, .inl (cI, 16, .inl (aI P))), (g2, .inl (cI, 4, .inl (aI C))), (g3, .inl (cI, 7, .inl (aI wyI)))] := hD
    refine lv_aload_n hx hb dX2_captures_18 rfl (lv_at hl 0 rfl) ?_
    refine va_get (D := D) (ci := 2) (v := .int (iI (1))) (C := RX2) (T := TX2) (N := 8) hx hb hts mu_X2_captures_X2 hown hE.1 hP 0 rfl rfl 7 (by decide) (hts _ mw_X2_captures_0) (fun _ h9 => h9) rfl dX2_captures_19 ?_
    refine r_if_le (tgt := 29) hx hb dX2_captures_22 (by decide) (by unfold rI; decide) (fun h9 => absurd h9 (by omega)) (fun h22 => ?_)
    refine r_iconst hx hb dX2_captures_25 ?_
    refine lv_goto (tgt := 35) hx hb dX2_captures_26 (by decide) ?_
    exact hret (0) (1) _ _ _ _ dX2_captures_35 (by first | omega | (dsimp only; omega)) hP hD hS

set_option maxRecDepth 20000 in
theorem mw_X2_winner_0 : (.fieldLink RX2 19 "PachisiYardModel" "thrown" "I" : Cond) ∈ wsX2_winner := by decide +kernel
set_option maxRecDepth 20000 in
theorem mu_X2_winner_X2 : ∀ w ∈ wsX20, w ∈ wsX2_winner := by decide +kernel
theorem f_X2_winner : yX2_winner.cls ≠ "java/lang/invoke/MethodHandle" ∧ yX2_winner.cls ≠ "java/lang/invoke/VarHandle" ∧ (parseMethodDescriptor yX2_winner.desc).map (fun d => d.parameters.length) = some 0 := by decide +kernel
set_option maxHeartbeats 4000000 in
set_option maxRecDepth 100000 in
theorem c_X2_winner (l : Launch) (D : va_G) (cI cL : ClassId) (tw : Nat) (g0 : Nat) (g1 : Nat) (g2 : Nat) (g3 : Nat) (tu : Int) (ph : Int) (mo : Int) (gc : Int) (th : Int) (P : Int → Int) (C : Int → Int) (hB : ∀ i, 0 ≤ P i ∧ P i ≤ 72) (htu : 0 ≤ tu ∧ tu ≤ 3) (hgc : 0 ≤ gc ∧ gc ≤ 2) (hph : 0 ≤ ph ∧ ph ≤ 2) (hmo : 0 ≤ mo ∧ mo ≤ 6) : RWi l yX2_winner wsX2_winner { frames := 2, cells := 0, slots := 0, locals := 44 } D cI cL tw [.ref g0] [(g0, .inr (2, [.ref g1, .int (iI (tu)), .int (iI (ph)), .int (iI (mo)), .int (iI (gc)), .ref g2, .ref g3, .int (iI (th))])), (g1, .inl (cI, 16, .inl (aI P))), (g2, .inl (cI, 4, .inl (aI C))), (g3, .inl (cI, 7, .inl (aI wyI)))] (fun (z : Int) (u : Unit) => (won P 0 ∧ z = 0) ∨ (¬ won P 0 ∧ won P 1 ∧ z = 1) ∨ (¬ won P 0 ∧ ¬ won P 1 ∧ z = -1)) (fun u : Unit => [(g0, .inr (2, [.ref g1, .int (iI (tu)), .int (iI (ph)), .int (iI (mo)), .int (iI (gc)), .ref g2, .ref g3, .int (iI (0))])), (g1, .inl (cI, 16, .inl (aI P))), (g2, .inl (cI, 4, .inl (aI C))), (g3, .inl (cI, 7, .inl (aI wyI)))]) := by
  refine rwi_of (cc := cX2_winner) (maxL := 1) (rt := .int) (own := RX2) (by decide) rfl rfl (Or.inl rfl) (Nat.le_of_ble_eq_true rfl) ?_
  intro p e R s mt args below meth c H0 Q ls A S hR hE hP hD hS hA hl hret
  obtain ⟨hx, hb, hml, hown, hts⟩ := id S
  have hl : lv_has ls 1 [(0, .ref g0)] := hl
  refine lv_aload_n hx hb dX2_winner_0 rfl (lv_at hl 0 rfl) ?_
  refine r_iconst hx hb dX2_winner_1 ?_
  refine va_put (D := D) (ci := 2) (v := .int (iI (0))) (ty := .int) (C := RX2) (T := TX2) (N := 8) hx hb hts mu_X2_winner_X2 tyX2 tyX2_ok nmX2 hown hE.1 hP hD hS 0 rfl rfl 7 (by decide) (hts _ mw_X2_winner_0) (fun _ h9 => h9) rfl (by decide +kernel) rfl rfl (Nat.le_of_ble_eq_true rfl) dX2_winner_2 (fun H locs hP hD hS => ?_)
  have hP : va_P D vwCl [(g0, .inr (2, [.ref g1, .int (iI (tu)), .int (iI (ph)), .int (iI (mo)), .int (iI (gc)), .ref g2, .ref g3, .int (iI (0))])), (g1, .inl (cI, 16, .inl (aI P))), (g2, .inl (cI, 4, .inl (aI C))), (g3, .inl (cI, 7, .inl (aI wyI)))] H := hP
  have hD : va_D A [(g0, .inr (2, [.ref g1, .int (iI (tu)), .int (iI (ph)), .int (iI (mo)), .int (iI (gc)), .ref g2, .ref g3, .int (iI (0))])), (g1, .inl (cI, 16, .inl (aI P))), (g2, .inl (cI, 4, .inl (aI C))), (g3, .inl (cI, 7, .inl (aI wyI)))] := hD
  refine lv_aload_n hx hb dX2_winner_5 rfl (lv_at hl 0 rfl) ?_
  refine r_iconst hx hb dX2_winner_6 ?_
  refine r_callV (As := [.int (iI (0))]) (rest := []) S (c_X2_isWon l D cI cL tw (g0) (g1) (g2) (g3) (tu) (ph) (mo) (gc) (0) (P) (C) (0) (hB) (by omega)) gX2_winner_X2_isWon rfl rfl rfl ⟨rfl, f_X2_isWon⟩ hR (Nat.le_of_ble_eq_true rfl) (Nat.le_of_ble_eq_true rfl) (hE.kept hS.2.1) hP [0, 1, 2, 3] rfl 0 rfl rfl rfl hl.1 rfl (Nat.le_of_ble_eq_true rfl) dX2_winner_7 ⟨Nat.zero_le _, Nat.zero_le _⟩ (fun z7 hz7 => ?_)
  rcases hz7 with ⟨rfl, hz7⟩ | ⟨rfl, hz7⟩
  · refine r_if_eq (tgt := 17) hx hb dX2_winner_10 (by decide) (by unfold rI; decide) (fun h9 => absurd h9 (by omega)) (fun h10 => ?_)
    refine r_iconst hx hb dX2_winner_13 ?_
    refine lv_goto (tgt := 30) hx hb dX2_winner_14 (by decide) ?_
    exact hret (0) () _ _ _ _ dX2_winner_30 (by exact Or.inl ⟨hz7, rfl⟩) hP hD hS
  · refine r_if_eq (tgt := 17) hx hb dX2_winner_10 (by decide) (by unfold rI; decide) (fun h10 => ?_) (fun h9 => absurd h9 (by omega))
    refine lv_aload_n hx hb dX2_winner_17 rfl (lv_at hl 0 rfl) ?_
    refine r_iconst hx hb dX2_winner_18 ?_
    refine r_callV (As := [.int (iI (1))]) (rest := []) S (c_X2_isWon l D cI cL tw (g0) (g1) (g2) (g3) (tu) (ph) (mo) (gc) (0) (P) (C) (1) (hB) (by omega)) gX2_winner_X2_isWon rfl rfl rfl ⟨rfl, f_X2_isWon⟩ hR (Nat.le_of_ble_eq_true rfl) (Nat.le_of_ble_eq_true rfl) (hE.kept hS.2.1) hP [0, 1, 2, 3] rfl 0 rfl rfl rfl hl.1 rfl (Nat.le_of_ble_eq_true rfl) dX2_winner_19 ⟨Nat.zero_le _, Nat.zero_le _⟩ (fun z19 hz19 => ?_)
    rcases hz19 with ⟨rfl, hz19⟩ | ⟨rfl, hz19⟩
    · refine r_if_eq (tgt := 29) hx hb dX2_winner_22 (by decide) (by unfold rI; decide) (fun h9 => absurd h9 (by omega)) (fun h22 => ?_)
      refine r_iconst hx hb dX2_winner_25 ?_
      refine lv_goto (tgt := 30) hx hb dX2_winner_26 (by decide) ?_
      exact hret (1) () _ _ _ _ dX2_winner_30 (by exact Or.inr (Or.inl ⟨hz7, hz19, rfl⟩)) hP hD hS
    · refine r_if_eq (tgt := 29) hx hb dX2_winner_22 (by decide) (by unfold rI; decide) (fun h22 => ?_) (fun h9 => absurd h9 (by omega))
      refine r_iconst hx hb dX2_winner_29 ?_
      exact hret (-1) () _ _ _ _ dX2_winner_30 (by exact Or.inr (Or.inr ⟨hz7, hz19, rfl⟩)) hP hD hS

set_option maxRecDepth 20000 in
theorem mw_X2_distance_0 : (.fieldLink RX2 19 "PachisiYardModel" "thrown" "I" : Cond) ∈ wsX2_distance := by decide +kernel
set_option maxRecDepth 20000 in
theorem mu_X2_distance_X2 : ∀ w ∈ wsX20, w ∈ wsX2_distance := by decide +kernel
set_option maxRecDepth 20000 in
theorem mw_X2_distance_2 : (.fieldLink RX2 7 "PachisiYardModel" "at" "[I" : Cond) ∈ wsX2_distance := by decide +kernel
theorem f_X2_distance : yX2_distance.cls ≠ "java/lang/invoke/MethodHandle" ∧ yX2_distance.cls ≠ "java/lang/invoke/VarHandle" ∧ (parseMethodDescriptor yX2_distance.desc).map (fun d => d.parameters.length) = some 1 := by decide +kernel
set_option maxHeartbeats 4000000 in
set_option maxRecDepth 100000 in
theorem c_X2_distance (l : Launch) (D : va_G) (cI cL : ClassId) (tw : Nat) (g0 : Nat) (g1 : Nat) (g2 : Nat) (g3 : Nat) (tu : Int) (ph : Int) (mo : Int) (gc : Int) (th : Int) (P : Int → Int) (C : Int → Int) (t : Int) (hB : ∀ i, 0 ≤ P i ∧ P i ≤ 72) (htu : 0 ≤ tu ∧ tu ≤ 3) (hgc : 0 ≤ gc ∧ gc ≤ 2) (hph : 0 ≤ ph ∧ ph ≤ 2) (hmo : 0 ≤ mo ∧ mo ≤ 6) (h_t : -2147483648 ≤ t ∧ t < 2147483648) : RWi l yX2_distance wsX2_distance { frames := 1, cells := 0, slots := 0, locals := 22 } D cI cL tw [.ref g0, .int (iI (t))] [(g0, .inr (2, [.ref g1, .int (iI (tu)), .int (iI (ph)), .int (iI (mo)), .int (iI (gc)), .ref g2, .ref g3, .int (iI (th))])), (g1, .inl (cI, 16, .inl (aI P))), (g2, .inl (cI, 4, .inl (aI C))), (g3, .inl (cI, 7, .inl (aI wyI)))] (fun (z : Int) (u : Int) => (0 ≤ t ∧ t ≤ 1 ∧ u = 0 ∧ z = dst P t) ∨ (¬ (0 ≤ t ∧ t ≤ 1) ∧ u = 1 ∧ z = 0)) (fun u : Int => [(g0, .inr (2, [.ref g1, .int (iI (tu)), .int (iI (ph)), .int (iI (mo)), .int (iI (gc)), .ref g2, .ref g3, .int (iI (u))])), (g1, .inl (cI, 16, .inl (aI P))), (g2, .inl (cI, 4, .inl (aI C))), (g3, .inl (cI, 7, .inl (aI wyI)))]) := by
  refine rwi_of (cc := cX2_distance) (maxL := 4) (rt := .int) (own := RX2) (by decide) rfl rfl (Or.inl rfl) (Nat.le_of_ble_eq_true rfl) ?_
  intro p e R s mt args below meth c H0 Q ls A S hR hE hP hD hS hA hl hret
  obtain ⟨hx, hb, hml, hown, hts⟩ := id S
  have hl : lv_has ls 4 [(0, .ref g0), (1, .int (iI (t)))] := hl
  refine lv_aload_n hx hb dX2_distance_0 rfl (lv_at hl 0 rfl) ?_
  refine lv_iload_n hx hb dX2_distance_1 rfl (lv_at hl 1 rfl) ?_
  refine r_iconst hx hb dX2_distance_2 ?_
  refine r_iconst hx hb dX2_distance_3 ?_
  refine r_callS (As := [.int (iI (t)), .int (iI (0)), .int (iI (1))]) (rest := [.ref g0]) S (c_X2_isIn l D cI cL tw (t) (0) (1) (by omega) (by omega) (by omega)) gX2_distance_X2_isIn rfl rfl rfl f_X2_isIn hR (Nat.le_of_ble_eq_true rfl) (Nat.le_of_ble_eq_true rfl) (hE.kept hS.2.1) rfl hl.1 rfl (Nat.le_of_ble_eq_true rfl) dX2_distance_4 ⟨Nat.zero_le _, Nat.zero_le _⟩ (fun z4 hz4 => ?_)
  rcases hz4 with ⟨rfl, hz4⟩ | ⟨rfl, hz4⟩
  · refine r_if_eq (tgt := 14) hx hb dX2_distance_7 (by decide) (by unfold rI; decide) (fun h9 => absurd h9 (by omega)) (fun h7 => ?_)
    refine r_iconst hx hb dX2_distance_10 ?_
    refine lv_goto (tgt := 15) hx hb dX2_distance_11 (by decide) ?_
    refine va_put (D := D) (ci := 2) (v := .int (iI (0))) (ty := .int) (C := RX2) (T := TX2) (N := 8) hx hb hts mu_X2_distance_X2 tyX2 tyX2_ok nmX2 hown hE.1 hP hD hS 0 rfl rfl 7 (by decide) (hts _ mw_X2_distance_0) (fun _ h9 => h9) rfl (by decide +kernel) rfl rfl (Nat.le_of_ble_eq_true rfl) dX2_distance_15 (fun H locs hP hD hS => ?_)
    have hP : va_P D vwCl [(g0, .inr (2, [.ref g1, .int (iI (tu)), .int (iI (ph)), .int (iI (mo)), .int (iI (gc)), .ref g2, .ref g3, .int (iI (0))])), (g1, .inl (cI, 16, .inl (aI P))), (g2, .inl (cI, 4, .inl (aI C))), (g3, .inl (cI, 7, .inl (aI wyI)))] H := hP
    have hD : va_D A [(g0, .inr (2, [.ref g1, .int (iI (tu)), .int (iI (ph)), .int (iI (mo)), .int (iI (gc)), .ref g2, .ref g3, .int (iI (0))])), (g1, .inl (cI, 16, .inl (aI P))), (g2, .inl (cI, 4, .inl (aI C))), (g3, .inl (cI, 7, .inl (aI wyI)))] := hD
    refine r_iconst hx hb dX2_distance_18 ?_
    refine lv_istore_n (lv' := [(2, .int (iI (0))), (0, .ref g0), (1, .int (iI (t)))]) hx hb dX2_distance_19 rfl hl (by decide) rfl (fun ls hl => ?_)
    refine r_iconst hx hb dX2_distance_20 ?_
    refine lv_istore_n (lv' := [(3, .int (iI (0))), (2, .int (iI (0))), (0, .ref g0), (1, .int (iI (t)))]) hx hb dX2_distance_21 rfl hl (by decide) rfl (fun ls hl => ?_)
    have lp_22 : ∀ (d_22 : Nat) (n : Int) (k : Int), (d_22 : Int) = 16 - k → (0 ≤ k ∧ k ≤ 16) → (n = sZ (dsN P t) k) → ∀ (H : Heap) (locs : List Loc), va_P D vwCl [(g0, .inr (2, [.ref g1, .int (iI (tu)), .int (iI (ph)), .int (iI (mo)), .int (iI (gc)), .ref g2, .ref g3, .int (iI (0))])), (g1, .inl (cI, 16, .inl (aI P))), (g2, .inl (cI, 4, .inl (aI C))), (g3, .inl (cI, 7, .inl (aI wyI)))] H → va_D A [(g0, .inr (2, [.ref g1, .int (iI (tu)), .int (iI (ph)), .int (iI (mo)), .int (iI (gc)), .ref g2, .ref g3, .int (iI (0))])), (g1, .inl (cI, 16, .inl (aI P))), (g2, .inl (cI, 4, .inl (aI C))), (g3, .inl (cI, 7, .inl (aI wyI)))] → va_S A H0 H locs → ∀ ls : Array Slot, lv_has ls 4 [(3, .int (iI (k))), (2, .int (iI (n))), (0, .ref g0), (1, .int (iI (t)))] → W p l e R s mt args below meth c H locs 0 0 Q (F0 mt 22 ls []) := by
      intro d_22
      induction d_22 using Nat.strongRecOn with
      | ind d_22 ih_22 =>
      intro n k hd_22 hk hn H locs hP hD hS ls hl
      refine lv_iload_n hx hb dX2_distance_22 rfl (lv_at hl 0 rfl) ?_
      refine r_bipush hx hb dX2_distance_23 (by decide) ?_
      refine r_icmp_ge (tgt := 66) hx hb dX2_distance_25 (by decide) (by unfold rI; omega) (by unfold rI; decide) (fun h25 => ?_) (fun h25 => ?_)
      · refine lv_iload_n hx hb dX2_distance_66 rfl (lv_at hl 1 rfl) ?_
        exact hret (n) (0) _ _ _ _ dX2_distance_67 (by (try dsimp only); have e : k = 16 := (by omega); subst e; rw [dst_eq P (by omega)] at hn; omega) hP hD hS
      · refine lv_aload_n hx hb dX2_distance_28 rfl (lv_at hl 2 rfl) ?_
        refine va_get (D := D) (ci := 2) (v := .int (iI (0))) (C := RX2) (T := TX2) (N := 8) hx hb hts mu_X2_distance_X2 hown hE.1 hP 0 rfl rfl 7 (by decide) (hts _ mw_X2_distance_0) (fun _ h9 => h9) rfl dX2_distance_29 ?_
        refine r_if_ne (tgt := 66) hx hb dX2_distance_32 (by decide) (by unfold rI; decide) (fun h9 => absurd h9 (by omega)) (fun h32 => ?_)
        refine lv_iload_n hx hb dX2_distance_35 rfl (lv_at hl 1 rfl) ?_
        refine lv_iload_n hx hb dX2_distance_36 rfl (lv_at hl 0 rfl) ?_
        refine r_iconst hx hb dX2_distance_37 ?_
        refine r_idiv hx hb dX2_distance_38 (by omega) (by omega) ?_
        refine r_iconst hx hb dX2_distance_39 ?_
        refine r_irem hx hb dX2_distance_40 (by omega) (by omega) ?_
        refine lv_iload_n hx hb dX2_distance_41 rfl (lv_at hl 3 rfl) ?_
        refine r_icmp_ne (tgt := 57) hx hb dX2_distance_42 (by decide) (by unfold rI; omega) (by unfold rI; omega) (fun h42 => ?_) (fun h42 => ?_)
        · refine r_iconst hx hb dX2_distance_57 ?_
          refine r_iadd hx hb dX2_distance_58 ?_
          refine lv_istore_n (lv' := [(2, .int (iI ((n) + (0)))), (3, .int (iI (k))), (0, .ref g0), (1, .int (iI (t)))]) hx hb dX2_distance_59 rfl hl (by decide) rfl (fun ls hl => ?_)
          refine lv_iinc (v := iI (k + 1)) (lv' := [(3, .int (iI (k + 1))), (2, .int (iI ((n) + (0)))), (0, .ref g0), (1, .int (iI (t)))]) hx hb dX2_distance_60 hl (k := 1) rfl (iI_add _ _) (by decide) rfl (fun ls hl => ?_)
          refine lv_goto (tgt := 22) hx hb dX2_distance_63 (by decide) ?_
          exact ih_22 (16 - (k + 1) : Int).toNat (nlt (by omega) hd_22 (by omega)) ((n) + (0)) (k + 1) (Int.toNat_of_nonneg (by omega)) (by omega) (by rw [sZ_s _ (by omega), ← hn]; unfold dsN; rw [if_neg (by omega)]) _ _ hP hD hS ls (lv_sub hl [0, 1, 2, 3] rfl)
        · refine r_bipush hx hb dX2_distance_45 (by decide) ?_
          refine lv_aload_n hx hb dX2_distance_47 rfl (lv_at hl 2 rfl) ?_
          refine va_get (D := D) (ci := 2) (v := .ref g1) (C := RX2) (T := TX2) (N := 8) hx hb hts mu_X2_distance_X2 hown hE.1 hP 0 rfl rfl 0 (by decide) (hts _ mw_X2_distance_2) (fun _ h9 => h9) rfl dX2_distance_48 ?_
          refine lv_iload_n hx hb dX2_distance_51 rfl (lv_at hl 0 rfl) ?_
          refine r_iald hx hb hE.1 hP 1 rfl (i := k) (by omega) (by omega) (by decide) dX2_distance_52 ?_
          obtain ⟨v52, ev52⟩ : ∃ v : Int, v = P (k) := ⟨_, rfl⟩
          have gv52 := hB (k)
          refine r_top v52 ev52.symm ?_
          rw [← ev52] at gv52
          refine r_isub hx hb dX2_distance_53 ?_
          refine lv_goto (tgt := 58) hx hb dX2_distance_54 (by decide) ?_
          refine r_iadd hx hb dX2_distance_58 ?_
          refine lv_istore_n (lv' := [(2, .int (iI ((n) + ((72) - (v52))))), (3, .int (iI (k))), (0, .ref g0), (1, .int (iI (t)))]) hx hb dX2_distance_59 rfl hl (by decide) rfl (fun ls hl => ?_)
          refine lv_iinc (v := iI (k + 1)) (lv' := [(3, .int (iI (k + 1))), (2, .int (iI ((n) + ((72) - (v52))))), (0, .ref g0), (1, .int (iI (t)))]) hx hb dX2_distance_60 hl (k := 1) rfl (iI_add _ _) (by decide) rfl (fun ls hl => ?_)
          refine lv_goto (tgt := 22) hx hb dX2_distance_63 (by decide) ?_
          exact ih_22 (16 - (k + 1) : Int).toNat (nlt (by omega) hd_22 (by omega)) ((n) + ((72) - (v52))) (k + 1) (Int.toNat_of_nonneg (by omega)) (by omega) (by rw [sZ_s _ (by omega), ← hn]; unfold dsN; rw [if_pos (by omega)]; rw [ev52]) _ _ hP hD hS ls (lv_sub hl [0, 1, 2, 3] rfl)
    exact lp_22 (16 - (0) : Int).toNat (0) (0) (Int.toNat_of_nonneg (by omega)) (by omega) ((sZ_0 _).symm) _ _ hP hD hS ls (lv_sub hl [0, 1, 2, 3] rfl)
  · refine r_if_eq (tgt := 14) hx hb dX2_distance_7 (by decide) (by unfold rI; decide) (fun h7 => ?_) (fun h9 => absurd h9 (by omega))
    refine r_iconst hx hb dX2_distance_14 ?_
    refine va_put (D := D) (ci := 2) (v := .int (iI (1))) (ty := .int) (C := RX2) (T := TX2) (N := 8) hx hb hts mu_X2_distance_X2 tyX2 tyX2_ok nmX2 hown hE.1 hP hD hS 0 rfl rfl 7 (by decide) (hts _ mw_X2_distance_0) (fun _ h9 => h9) rfl (by decide +kernel) rfl rfl (Nat.le_of_ble_eq_true rfl) dX2_distance_15 (fun H locs hP hD hS => ?_)
    have hP : va_P D vwCl [(g0, .inr (2, [.ref g1, .int (iI (tu)), .int (iI (ph)), .int (iI (mo)), .int (iI (gc)), .ref g2, .ref g3, .int (iI (1))])), (g1, .inl (cI, 16, .inl (aI P))), (g2, .inl (cI, 4, .inl (aI C))), (g3, .inl (cI, 7, .inl (aI wyI)))] H := hP
    have hD : va_D A [(g0, .inr (2, [.ref g1, .int (iI (tu)), .int (iI (ph)), .int (iI (mo)), .int (iI (gc)), .ref g2, .ref g3, .int (iI (1))])), (g1, .inl (cI, 16, .inl (aI P))), (g2, .inl (cI, 4, .inl (aI C))), (g3, .inl (cI, 7, .inl (aI wyI)))] := hD
    refine r_iconst hx hb dX2_distance_18 ?_
    refine lv_istore_n (lv' := [(2, .int (iI (0))), (0, .ref g0), (1, .int (iI (t)))]) hx hb dX2_distance_19 rfl hl (by decide) rfl (fun ls hl => ?_)
    refine r_iconst hx hb dX2_distance_20 ?_
    refine lv_istore_n (lv' := [(3, .int (iI (0))), (2, .int (iI (0))), (0, .ref g0), (1, .int (iI (t)))]) hx hb dX2_distance_21 rfl hl (by decide) rfl (fun ls hl => ?_)
    refine lv_iload_n hx hb dX2_distance_22 rfl (lv_at hl 0 rfl) ?_
    refine r_bipush hx hb dX2_distance_23 (by decide) ?_
    refine r_icmp_ge (tgt := 66) hx hb dX2_distance_25 (by decide) (by unfold rI; decide) (by unfold rI; decide) (fun h9 => absurd h9 (by omega)) (fun h25 => ?_)
    refine lv_aload_n hx hb dX2_distance_28 rfl (lv_at hl 2 rfl) ?_
    refine va_get (D := D) (ci := 2) (v := .int (iI (1))) (C := RX2) (T := TX2) (N := 8) hx hb hts mu_X2_distance_X2 hown hE.1 hP 0 rfl rfl 7 (by decide) (hts _ mw_X2_distance_0) (fun _ h9 => h9) rfl dX2_distance_29 ?_
    refine r_if_ne (tgt := 66) hx hb dX2_distance_32 (by decide) (by unfold rI; decide) (fun h32 => ?_) (fun h9 => absurd h9 (by omega))
    refine lv_iload_n hx hb dX2_distance_66 rfl (lv_at hl 1 rfl) ?_
    exact hret (0) (1) _ _ _ _ dX2_distance_67 (by first | omega | (dsimp only; omega)) hP hD hS

set_option maxRecDepth 20000 in
theorem mw_X2_ways_0 : (.fieldLink RX2 60 "PachisiYardModel" "phase" "I" : Cond) ∈ wsX2_ways := by decide +kernel
set_option maxRecDepth 20000 in
theorem mu_X2_ways_X2 : ∀ w ∈ wsX20, w ∈ wsX2_ways := by decide +kernel
set_option maxRecDepth 20000 in
theorem mw_X2_ways_2 : (.fieldLink RX2 19 "PachisiYardModel" "thrown" "I" : Cond) ∈ wsX2_ways := by decide +kernel
set_option maxRecDepth 20000 in
theorem mw_X2_ways_3 : (.fieldLink RX2 57 "PachisiYardModel" "graces" "I" : Cond) ∈ wsX2_ways := by decide +kernel
set_option maxRecDepth 20000 in
theorem mw_X2_ways_4 : (.fieldLink RX2 54 "PachisiYardModel" "turn" "I" : Cond) ∈ wsX2_ways := by decide +kernel
set_option maxRecDepth 20000 in
theorem mw_X2_ways_5 : (.fieldLink RX2 16 "PachisiYardModel" "many" "[I" : Cond) ∈ wsX2_ways := by decide +kernel
theorem f_X2_ways : yX2_ways.cls ≠ "java/lang/invoke/MethodHandle" ∧ yX2_ways.cls ≠ "java/lang/invoke/VarHandle" ∧ (parseMethodDescriptor yX2_ways.desc).map (fun d => d.parameters.length) = some 1 := by decide +kernel
set_option maxHeartbeats 4000000 in
set_option maxRecDepth 100000 in
theorem c_X2_ways (l : Launch) (D : va_G) (cI cL : ClassId) (tw : Nat) (g0 : Nat) (g1 : Nat) (g2 : Nat) (g3 : Nat) (tu : Int) (ph : Int) (mo : Int) (gc : Int) (th : Int) (P : Int → Int) (C : Int → Int) (w : Int) (hB : ∀ i, 0 ≤ P i ∧ P i ≤ 72) (htu : 0 ≤ tu ∧ tu ≤ 3) (hgc : 0 ≤ gc ∧ gc ≤ 2) (hph : 0 ≤ ph ∧ ph ≤ 2) (hmo : 0 ≤ mo ∧ mo ≤ 6) (h_w : -2147483648 ≤ w ∧ w < 2147483648) : RWi l yX2_ways wsX2_ways { frames := 4, cells := 0, slots := 0, locals := 100 } D cI cL tw [.ref g0, .int (iI (w))] [(g0, .inr (2, [.ref g1, .int (iI (tu)), .int (iI (ph)), .int (iI (mo)), .int (iI (gc)), .ref g2, .ref g3, .int (iI (th))])), (g1, .inl (cI, 16, .inl (aI P))), (g2, .inl (cI, 4, .inl (aI C))), (g3, .inl (cI, 7, .inl (aI wyI)))] (fun (z : Int) (u : Int) => (0 ≤ w ∧ w ≤ 3 ∧ ph = 0 ∧ u = 0 ∧ z = wy P tu gc w) ∨ (¬ (0 ≤ w ∧ w ≤ 3) ∧ u = 1 ∧ z = 0) ∨ (0 ≤ w ∧ w ≤ 3 ∧ ph ≠ 0 ∧ u = 2 ∧ z = 0)) (fun u : Int => [(g0, .inr (2, [.ref g1, .int (iI (tu)), .int (iI (ph)), .int (iI (mo)), .int (iI (gc)), .ref g2, .ref g3, .int (iI (u))])), (g1, .inl (cI, 16, .inl (aI P))), (g2, .inl (cI, 4, .inl (aI C))), (g3, .inl (cI, 7, .inl (aI wyI)))]) := by
  refine rwi_of (cc := cX2_ways) (maxL := 5) (rt := .int) (own := RX2) (by decide) rfl rfl (Or.inl rfl) (Nat.le_of_ble_eq_true rfl) ?_
  intro p e R s mt args below meth c H0 Q ls A S hR hE hP hD hS hA hl hret
  obtain ⟨hx, hb, hml, hown, hts⟩ := id S
  have hl : lv_has ls 5 [(0, .ref g0), (1, .int (iI (w)))] := hl
  refine lv_aload_n hx hb dX2_ways_0 rfl (lv_at hl 0 rfl) ?_
  refine lv_iload_n hx hb dX2_ways_1 rfl (lv_at hl 1 rfl) ?_
  refine r_iconst hx hb dX2_ways_2 ?_
  refine r_iconst hx hb dX2_ways_3 ?_
  refine r_callS (As := [.int (iI (w)), .int (iI (0)), .int (iI (3))]) (rest := [.ref g0]) S (c_X2_isIn l D cI cL tw (w) (0) (3) (by omega) (by omega) (by omega)) gX2_ways_X2_isIn rfl rfl rfl f_X2_isIn hR (Nat.le_of_ble_eq_true rfl) (Nat.le_of_ble_eq_true rfl) (hE.kept hS.2.1) rfl hl.1 rfl (Nat.le_of_ble_eq_true rfl) dX2_ways_4 ⟨Nat.zero_le _, Nat.zero_le _⟩ (fun z4 hz4 => ?_)
  rcases hz4 with ⟨rfl, hz4⟩ | ⟨rfl, hz4⟩
  · refine r_if_ne (tgt := 14) hx hb dX2_ways_7 (by decide) (by unfold rI; decide) (fun h7 => ?_) (fun h9 => absurd h9 (by omega))
    refine lv_aload_n hx hb dX2_ways_14 rfl (lv_at hl 0 rfl) ?_
    refine va_get (D := D) (ci := 2) (v := .int (iI (ph))) (C := RX2) (T := TX2) (N := 8) hx hb hts mu_X2_ways_X2 hown hE.1 hP 0 rfl rfl 2 (by decide) (hts _ mw_X2_ways_0) (fun _ h9 => h9) rfl dX2_ways_15 ?_
    refine r_if_eq (tgt := 25) hx hb dX2_ways_18 (by decide) (by unfold rI; omega) (fun h18 => ?_) (fun h18 => ?_)
    · refine r_iconst hx hb dX2_ways_25 ?_
      refine va_put (D := D) (ci := 2) (v := .int (iI (0))) (ty := .int) (C := RX2) (T := TX2) (N := 8) hx hb hts mu_X2_ways_X2 tyX2 tyX2_ok nmX2 hown hE.1 hP hD hS 0 rfl rfl 7 (by decide) (hts _ mw_X2_ways_2) (fun _ h9 => h9) rfl (by decide +kernel) rfl rfl (Nat.le_of_ble_eq_true rfl) dX2_ways_26 (fun H locs hP hD hS => ?_)
      have hP : va_P D vwCl [(g0, .inr (2, [.ref g1, .int (iI (tu)), .int (iI (ph)), .int (iI (mo)), .int (iI (gc)), .ref g2, .ref g3, .int (iI (0))])), (g1, .inl (cI, 16, .inl (aI P))), (g2, .inl (cI, 4, .inl (aI C))), (g3, .inl (cI, 7, .inl (aI wyI)))] H := hP
      have hD : va_D A [(g0, .inr (2, [.ref g1, .int (iI (tu)), .int (iI (ph)), .int (iI (mo)), .int (iI (gc)), .ref g2, .ref g3, .int (iI (0))])), (g1, .inl (cI, 16, .inl (aI P))), (g2, .inl (cI, 4, .inl (aI C))), (g3, .inl (cI, 7, .inl (aI wyI)))] := hD
      refine r_iconst hx hb dX2_ways_29 ?_
      refine lv_istore_n (lv' := [(2, .int (iI (0))), (0, .ref g0), (1, .int (iI (w)))]) hx hb dX2_ways_30 rfl hl (by decide) rfl (fun ls hl => ?_)
      refine r_iconst hx hb dX2_ways_31 ?_
      refine lv_istore_n (lv' := [(3, .int (iI (0))), (2, .int (iI (0))), (0, .ref g0), (1, .int (iI (w)))]) hx hb dX2_ways_32 rfl hl (by decide) rfl (fun ls hl => ?_)
      have lp_33 : ∀ (d_33 : Nat) (n : Int) (k : Int), (d_33 : Int) = 7 - k → (0 ≤ k ∧ k ≤ 7) → (n = sZ (wyA P tu gc w) k) → ∀ (H : Heap) (locs : List Loc), va_P D vwCl [(g0, .inr (2, [.ref g1, .int (iI (tu)), .int (iI (ph)), .int (iI (mo)), .int (iI (gc)), .ref g2, .ref g3, .int (iI (0))])), (g1, .inl (cI, 16, .inl (aI P))), (g2, .inl (cI, 4, .inl (aI C))), (g3, .inl (cI, 7, .inl (aI wyI)))] H → va_D A [(g0, .inr (2, [.ref g1, .int (iI (tu)), .int (iI (ph)), .int (iI (mo)), .int (iI (gc)), .ref g2, .ref g3, .int (iI (0))])), (g1, .inl (cI, 16, .inl (aI P))), (g2, .inl (cI, 4, .inl (aI C))), (g3, .inl (cI, 7, .inl (aI wyI)))] → va_S A H0 H locs → ∀ ls : Array Slot, lv_has ls 5 [(3, .int (iI (k))), (2, .int (iI (n))), (0, .ref g0), (1, .int (iI (w)))] → W p l e R s mt args below meth c H locs 0 0 Q (F0 mt 33 ls []) := by
        intro d_33
        induction d_33 using Nat.strongRecOn with
        | ind d_33 ih_33 =>
        intro n k hd_33 hk hn H locs hP hD hS ls hl
        refine lv_iload_n hx hb dX2_ways_33 rfl (lv_at hl 0 rfl) ?_
        refine r_bipush hx hb dX2_ways_34 (by decide) ?_
        refine r_icmp_ge (tgt := 109) hx hb dX2_ways_36 (by decide) (by unfold rI; omega) (by unfold rI; decide) (fun h36 => ?_) (fun h36 => ?_)
        · refine lv_iload_n hx hb dX2_ways_109 rfl (lv_at hl 1 rfl) ?_
          exact hret (n) (0) _ _ _ _ dX2_ways_110 (by (try dsimp only); have e : k = 7 := (by omega); subst e; have q : n = wy P tu gc w := hn; omega) hP hD hS
        · refine lv_aload_n hx hb dX2_ways_39 rfl (lv_at hl 2 rfl) ?_
          refine va_get (D := D) (ci := 2) (v := .int (iI (0))) (C := RX2) (T := TX2) (N := 8) hx hb hts mu_X2_ways_X2 hown hE.1 hP 0 rfl rfl 7 (by decide) (hts _ mw_X2_ways_2) (fun _ h9 => h9) rfl dX2_ways_40 ?_
          refine r_if_ne (tgt := 109) hx hb dX2_ways_43 (by decide) (by unfold rI; decide) (fun h9 => absurd h9 (by omega)) (fun h43 => ?_)
          refine lv_iload_n hx hb dX2_ways_46 rfl (lv_at hl 0 rfl) ?_
          refine r_callS (As := [.int (iI (k))]) (rest := []) S (c_X2_isGrace l D cI cL tw (k) (by omega)) gX2_ways_X2_isGrace rfl rfl rfl f_X2_isGrace hR (Nat.le_of_ble_eq_true rfl) (Nat.le_of_ble_eq_true rfl) (hE.kept hS.2.1) rfl hl.1 rfl (Nat.le_of_ble_eq_true rfl) dX2_ways_47 ⟨Nat.zero_le _, Nat.zero_le _⟩ (fun z47 hz47 => ?_)
          rcases hz47 with ⟨rfl, hz47⟩ | ⟨rfl, hz47⟩
          · refine r_if_eq (tgt := 65) hx hb dX2_ways_50 (by decide) (by unfold rI; decide) (fun h9 => absurd h9 (by omega)) (fun h50 => ?_)
            refine lv_aload_n hx hb dX2_ways_53 rfl (lv_at hl 2 rfl) ?_
            refine va_get (D := D) (ci := 2) (v := .int (iI (gc))) (C := RX2) (T := TX2) (N := 8) hx hb hts mu_X2_ways_X2 hown hE.1 hP 0 rfl rfl 4 (by decide) (hts _ mw_X2_ways_3) (fun _ h9 => h9) rfl dX2_ways_54 ?_
            refine r_iconst hx hb dX2_ways_57 ?_
            refine r_icmp_ne (tgt := 65) hx hb dX2_ways_58 (by decide) (by unfold rI; omega) (by unfold rI; decide) (fun h58 => ?_) (fun h58 => ?_)
            · refine r_iconst hx hb dX2_ways_65 ?_
              refine lv_istore (lv' := [(4, .int (iI (0))), (3, .int (iI (k))), (2, .int (iI (n))), (0, .ref g0), (1, .int (iI (w)))]) hx hb dX2_ways_66 hl (by decide) rfl (fun ls hl => ?_)
              refine lv_iload_n hx hb dX2_ways_68 rfl (lv_at hl 2 rfl) ?_
              refine lv_iload hx hb dX2_ways_69 (lv_at hl 0 rfl) ?_
              refine r_if_ne (tgt := 100) hx hb dX2_ways_71 (by decide) (by unfold rI; decide) (fun h9 => absurd h9 (by omega)) (fun h71 => ?_)
              refine lv_aload_n hx hb dX2_ways_74 rfl (lv_at hl 3 rfl) ?_
              refine lv_aload_n hx hb dX2_ways_75 rfl (lv_at hl 3 rfl) ?_
              refine lv_aload_n hx hb dX2_ways_76 rfl (lv_at hl 3 rfl) ?_
              refine va_get (D := D) (ci := 2) (v := .int (iI (tu))) (C := RX2) (T := TX2) (N := 8) hx hb hts mu_X2_ways_X2 hown hE.1 hP 0 rfl rfl 1 (by decide) (hts _ mw_X2_ways_4) (fun _ h9 => h9) rfl dX2_ways_77 ?_
              refine r_callV (As := [.int (iI (tu))]) (rest := [.ref g0, .int (iI (n))]) S (c_X2_movesFor l D cI cL tw (g0) (g1) (g2) (g3) (tu) (ph) (mo) (gc) (0) (P) (C) (tu) (hB) (by omega)) gX2_ways_X2_movesFor rfl rfl rfl ⟨rfl, f_X2_movesFor⟩ hR (Nat.le_of_ble_eq_true rfl) (Nat.le_of_ble_eq_true rfl) (hE.kept hS.2.1) hP [0, 1, 2, 3] rfl 0 rfl rfl rfl hl.1 rfl (Nat.le_of_ble_eq_true rfl) dX2_ways_80 ⟨Nat.zero_le _, Nat.zero_le _⟩ (fun z80 hz80 => ?_)
              obtain ⟨hz80, rz80⟩ := hz80
              refine lv_iload_n hx hb dX2_ways_83 rfl (lv_at hl 1 rfl) ?_
              refine lv_iload_n hx hb dX2_ways_84 rfl (lv_at hl 4 rfl) ?_
              refine r_callV (As := [.int (iI (z80)), .int (iI (k)), .int (iI (w))]) (rest := [.int (iI (n))]) S (c_X2_does l D cI cL tw (g0) (g1) (g2) (g3) (tu) (ph) (mo) (gc) (0) (P) (C) (z80) (k) (w) (hB) (by omega) (by omega) (by omega)) gX2_ways_X2_does rfl rfl rfl ⟨rfl, f_X2_does⟩ hR (Nat.le_of_ble_eq_true rfl) (Nat.le_of_ble_eq_true rfl) (hE.kept hS.2.1) hP [0, 1, 2, 3] rfl 0 rfl rfl rfl hl.1 rfl (Nat.le_of_ble_eq_true rfl) dX2_ways_85 ⟨Nat.zero_le _, Nat.zero_le _⟩ (fun z85 hz85 => ?_)
              rcases hz85 with ⟨rfl, hz85⟩ | ⟨rfl, hz85⟩
              · refine r_if_eq (tgt := 100) hx hb dX2_ways_88 (by decide) (by unfold rI; decide) (fun h9 => absurd h9 (by omega)) (fun h88 => ?_)
                refine lv_aload_n hx hb dX2_ways_91 rfl (lv_at hl 3 rfl) ?_
                refine va_get (D := D) (ci := 2) (v := .ref g3) (C := RX2) (T := TX2) (N := 8) hx hb hts mu_X2_ways_X2 hown hE.1 hP 0 rfl rfl 6 (by decide) (hts _ mw_X2_ways_5) (fun _ h9 => h9) rfl dX2_ways_92 ?_
                refine lv_iload_n hx hb dX2_ways_95 rfl (lv_at hl 1 rfl) ?_
                refine r_iald hx hb hE.1 hP 3 rfl (i := k) (by omega) (by omega) (by decide) dX2_ways_96 ?_
                refine lv_goto (tgt := 101) hx hb dX2_ways_97 (by decide) ?_
                refine r_iadd hx hb dX2_ways_101 ?_
                refine lv_istore_n (lv' := [(2, .int (iI ((n) + (wyI (k))))), (4, .int (iI (0))), (3, .int (iI (k))), (0, .ref g0), (1, .int (iI (w)))]) hx hb dX2_ways_102 rfl hl (by decide) rfl (fun ls hl => ?_)
                refine lv_iinc (v := iI (k + 1)) (lv' := [(3, .int (iI (k + 1))), (2, .int (iI ((n) + (wyI (k))))), (4, .int (iI (0))), (0, .ref g0), (1, .int (iI (w)))]) hx hb dX2_ways_103 hl (k := 2) rfl (iI_add _ _) (by decide) rfl (fun ls hl => ?_)
                refine lv_goto (tgt := 33) hx hb dX2_ways_106 (by decide) ?_
                exact ih_33 (7 - (k + 1) : Int).toNat (nlt (by omega) hd_33 (by omega)) ((n) + (wyI (k))) (k + 1) (Int.toNat_of_nonneg (by omega)) (by omega) (by rw [sZ_s _ (by omega), ← hn, wyA_y (by omega) (by rw [← hz80]; exact hz85)]) _ _ hP hD hS ls (lv_sub hl [0, 1, 3, 4] rfl)
              · refine r_if_eq (tgt := 100) hx hb dX2_ways_88 (by decide) (by unfold rI; decide) (fun h88 => ?_) (fun h9 => absurd h9 (by omega))
                refine r_iconst hx hb dX2_ways_100 ?_
                refine r_iadd hx hb dX2_ways_101 ?_
                refine lv_istore_n (lv' := [(2, .int (iI ((n) + (0)))), (4, .int (iI (0))), (3, .int (iI (k))), (0, .ref g0), (1, .int (iI (w)))]) hx hb dX2_ways_102 rfl hl (by decide) rfl (fun ls hl => ?_)
                refine lv_iinc (v := iI (k + 1)) (lv' := [(3, .int (iI (k + 1))), (2, .int (iI ((n) + (0)))), (4, .int (iI (0))), (0, .ref g0), (1, .int (iI (w)))]) hx hb dX2_ways_103 hl (k := 2) rfl (iI_add _ _) (by decide) rfl (fun ls hl => ?_)
                refine lv_goto (tgt := 33) hx hb dX2_ways_106 (by decide) ?_
                exact ih_33 (7 - (k + 1) : Int).toNat (nlt (by omega) hd_33 (by omega)) ((n) + (0)) (k + 1) (Int.toNat_of_nonneg (by omega)) (by omega) (by rw [sZ_s _ (by omega), ← hn, wyA_n (fun q => hz85 (by rw [hz80]; exact q.2))]) _ _ hP hD hS ls (lv_sub hl [0, 1, 3, 4] rfl)
            · refine r_iconst hx hb dX2_ways_61 ?_
              refine lv_goto (tgt := 66) hx hb dX2_ways_62 (by decide) ?_
              refine lv_istore (lv' := [(4, .int (iI (1))), (3, .int (iI (k))), (2, .int (iI (n))), (0, .ref g0), (1, .int (iI (w)))]) hx hb dX2_ways_66 hl (by decide) rfl (fun ls hl => ?_)
              refine lv_iload_n hx hb dX2_ways_68 rfl (lv_at hl 2 rfl) ?_
              refine lv_iload hx hb dX2_ways_69 (lv_at hl 0 rfl) ?_
              refine r_if_ne (tgt := 100) hx hb dX2_ways_71 (by decide) (by unfold rI; decide) (fun h71 => ?_) (fun h9 => absurd h9 (by omega))
              refine r_iconst hx hb dX2_ways_100 ?_
              refine r_iadd hx hb dX2_ways_101 ?_
              refine lv_istore_n (lv' := [(2, .int (iI ((n) + (0)))), (4, .int (iI (1))), (3, .int (iI (k))), (0, .ref g0), (1, .int (iI (w)))]) hx hb dX2_ways_102 rfl hl (by decide) rfl (fun ls hl => ?_)
              refine lv_iinc (v := iI (k + 1)) (lv' := [(3, .int (iI (k + 1))), (2, .int (iI ((n) + (0)))), (4, .int (iI (1))), (0, .ref g0), (1, .int (iI (w)))]) hx hb dX2_ways_103 hl (k := 2) rfl (iI_add _ _) (by decide) rfl (fun ls hl => ?_)
              refine lv_goto (tgt := 33) hx hb dX2_ways_106 (by decide) ?_
              exact ih_33 (7 - (k + 1) : Int).toNat (nlt (by omega) hd_33 (by omega)) ((n) + (0)) (k + 1) (Int.toNat_of_nonneg (by omega)) (by omega) (by rw [sZ_s _ (by omega), ← hn, wyA_n (fun q => q.1 (by omega))]) _ _ hP hD hS ls (lv_sub hl [0, 1, 3, 4] rfl)
          · refine r_if_eq (tgt := 65) hx hb dX2_ways_50 (by decide) (by unfold rI; decide) (fun h50 => ?_) (fun h9 => absurd h9 (by omega))
            refine r_iconst hx hb dX2_ways_65 ?_
            refine lv_istore (lv' := [(4, .int (iI (0))), (3, .int (iI (k))), (2, .int (iI (n))), (0, .ref g0), (1, .int (iI (w)))]) hx hb dX2_ways_66 hl (by decide) rfl (fun ls hl => ?_)
            refine lv_iload_n hx hb dX2_ways_68 rfl (lv_at hl 2 rfl) ?_
            refine lv_iload hx hb dX2_ways_69 (lv_at hl 0 rfl) ?_
            refine r_if_ne (tgt := 100) hx hb dX2_ways_71 (by decide) (by unfold rI; decide) (fun h9 => absurd h9 (by omega)) (fun h71 => ?_)
            refine lv_aload_n hx hb dX2_ways_74 rfl (lv_at hl 3 rfl) ?_
            refine lv_aload_n hx hb dX2_ways_75 rfl (lv_at hl 3 rfl) ?_
            refine lv_aload_n hx hb dX2_ways_76 rfl (lv_at hl 3 rfl) ?_
            refine va_get (D := D) (ci := 2) (v := .int (iI (tu))) (C := RX2) (T := TX2) (N := 8) hx hb hts mu_X2_ways_X2 hown hE.1 hP 0 rfl rfl 1 (by decide) (hts _ mw_X2_ways_4) (fun _ h9 => h9) rfl dX2_ways_77 ?_
            refine r_callV (As := [.int (iI (tu))]) (rest := [.ref g0, .int (iI (n))]) S (c_X2_movesFor l D cI cL tw (g0) (g1) (g2) (g3) (tu) (ph) (mo) (gc) (0) (P) (C) (tu) (hB) (by omega)) gX2_ways_X2_movesFor rfl rfl rfl ⟨rfl, f_X2_movesFor⟩ hR (Nat.le_of_ble_eq_true rfl) (Nat.le_of_ble_eq_true rfl) (hE.kept hS.2.1) hP [0, 1, 2, 3] rfl 0 rfl rfl rfl hl.1 rfl (Nat.le_of_ble_eq_true rfl) dX2_ways_80 ⟨Nat.zero_le _, Nat.zero_le _⟩ (fun z80 hz80 => ?_)
            obtain ⟨hz80, rz80⟩ := hz80
            refine lv_iload_n hx hb dX2_ways_83 rfl (lv_at hl 1 rfl) ?_
            refine lv_iload_n hx hb dX2_ways_84 rfl (lv_at hl 4 rfl) ?_
            refine r_callV (As := [.int (iI (z80)), .int (iI (k)), .int (iI (w))]) (rest := [.int (iI (n))]) S (c_X2_does l D cI cL tw (g0) (g1) (g2) (g3) (tu) (ph) (mo) (gc) (0) (P) (C) (z80) (k) (w) (hB) (by omega) (by omega) (by omega)) gX2_ways_X2_does rfl rfl rfl ⟨rfl, f_X2_does⟩ hR (Nat.le_of_ble_eq_true rfl) (Nat.le_of_ble_eq_true rfl) (hE.kept hS.2.1) hP [0, 1, 2, 3] rfl 0 rfl rfl rfl hl.1 rfl (Nat.le_of_ble_eq_true rfl) dX2_ways_85 ⟨Nat.zero_le _, Nat.zero_le _⟩ (fun z85 hz85 => ?_)
            rcases hz85 with ⟨rfl, hz85⟩ | ⟨rfl, hz85⟩
            · refine r_if_eq (tgt := 100) hx hb dX2_ways_88 (by decide) (by unfold rI; decide) (fun h9 => absurd h9 (by omega)) (fun h88 => ?_)
              refine lv_aload_n hx hb dX2_ways_91 rfl (lv_at hl 3 rfl) ?_
              refine va_get (D := D) (ci := 2) (v := .ref g3) (C := RX2) (T := TX2) (N := 8) hx hb hts mu_X2_ways_X2 hown hE.1 hP 0 rfl rfl 6 (by decide) (hts _ mw_X2_ways_5) (fun _ h9 => h9) rfl dX2_ways_92 ?_
              refine lv_iload_n hx hb dX2_ways_95 rfl (lv_at hl 1 rfl) ?_
              refine r_iald hx hb hE.1 hP 3 rfl (i := k) (by omega) (by omega) (by decide) dX2_ways_96 ?_
              refine lv_goto (tgt := 101) hx hb dX2_ways_97 (by decide) ?_
              refine r_iadd hx hb dX2_ways_101 ?_
              refine lv_istore_n (lv' := [(2, .int (iI ((n) + (wyI (k))))), (4, .int (iI (0))), (3, .int (iI (k))), (0, .ref g0), (1, .int (iI (w)))]) hx hb dX2_ways_102 rfl hl (by decide) rfl (fun ls hl => ?_)
              refine lv_iinc (v := iI (k + 1)) (lv' := [(3, .int (iI (k + 1))), (2, .int (iI ((n) + (wyI (k))))), (4, .int (iI (0))), (0, .ref g0), (1, .int (iI (w)))]) hx hb dX2_ways_103 hl (k := 2) rfl (iI_add _ _) (by decide) rfl (fun ls hl => ?_)
              refine lv_goto (tgt := 33) hx hb dX2_ways_106 (by decide) ?_
              exact ih_33 (7 - (k + 1) : Int).toNat (nlt (by omega) hd_33 (by omega)) ((n) + (wyI (k))) (k + 1) (Int.toNat_of_nonneg (by omega)) (by omega) (by rw [sZ_s _ (by omega), ← hn, wyA_y (by omega) (by rw [← hz80]; exact hz85)]) _ _ hP hD hS ls (lv_sub hl [0, 1, 3, 4] rfl)
            · refine r_if_eq (tgt := 100) hx hb dX2_ways_88 (by decide) (by unfold rI; decide) (fun h88 => ?_) (fun h9 => absurd h9 (by omega))
              refine r_iconst hx hb dX2_ways_100 ?_
              refine r_iadd hx hb dX2_ways_101 ?_
              refine lv_istore_n (lv' := [(2, .int (iI ((n) + (0)))), (4, .int (iI (0))), (3, .int (iI (k))), (0, .ref g0), (1, .int (iI (w)))]) hx hb dX2_ways_102 rfl hl (by decide) rfl (fun ls hl => ?_)
              refine lv_iinc (v := iI (k + 1)) (lv' := [(3, .int (iI (k + 1))), (2, .int (iI ((n) + (0)))), (4, .int (iI (0))), (0, .ref g0), (1, .int (iI (w)))]) hx hb dX2_ways_103 hl (k := 2) rfl (iI_add _ _) (by decide) rfl (fun ls hl => ?_)
              refine lv_goto (tgt := 33) hx hb dX2_ways_106 (by decide) ?_
              exact ih_33 (7 - (k + 1) : Int).toNat (nlt (by omega) hd_33 (by omega)) ((n) + (0)) (k + 1) (Int.toNat_of_nonneg (by omega)) (by omega) (by rw [sZ_s _ (by omega), ← hn, wyA_n (fun q => hz85 (by rw [hz80]; exact q.2))]) _ _ hP hD hS ls (lv_sub hl [0, 1, 3, 4] rfl)
      exact lp_33 (7 - (0) : Int).toNat (0) (0) (Int.toNat_of_nonneg (by omega)) (by omega) ((sZ_0 _).symm) _ _ hP hD hS ls (lv_sub hl [0, 1, 2, 3] rfl)
    · refine r_iconst hx hb dX2_ways_21 ?_
      refine lv_goto (tgt := 26) hx hb dX2_ways_22 (by decide) ?_
      refine va_put (D := D) (ci := 2) (v := .int (iI (2))) (ty := .int) (C := RX2) (T := TX2) (N := 8) hx hb hts mu_X2_ways_X2 tyX2 tyX2_ok nmX2 hown hE.1 hP hD hS 0 rfl rfl 7 (by decide) (hts _ mw_X2_ways_2) (fun _ h9 => h9) rfl (by decide +kernel) rfl rfl (Nat.le_of_ble_eq_true rfl) dX2_ways_26 (fun H locs hP hD hS => ?_)
      have hP : va_P D vwCl [(g0, .inr (2, [.ref g1, .int (iI (tu)), .int (iI (ph)), .int (iI (mo)), .int (iI (gc)), .ref g2, .ref g3, .int (iI (2))])), (g1, .inl (cI, 16, .inl (aI P))), (g2, .inl (cI, 4, .inl (aI C))), (g3, .inl (cI, 7, .inl (aI wyI)))] H := hP
      have hD : va_D A [(g0, .inr (2, [.ref g1, .int (iI (tu)), .int (iI (ph)), .int (iI (mo)), .int (iI (gc)), .ref g2, .ref g3, .int (iI (2))])), (g1, .inl (cI, 16, .inl (aI P))), (g2, .inl (cI, 4, .inl (aI C))), (g3, .inl (cI, 7, .inl (aI wyI)))] := hD
      refine r_iconst hx hb dX2_ways_29 ?_
      refine lv_istore_n (lv' := [(2, .int (iI (0))), (0, .ref g0), (1, .int (iI (w)))]) hx hb dX2_ways_30 rfl hl (by decide) rfl (fun ls hl => ?_)
      refine r_iconst hx hb dX2_ways_31 ?_
      refine lv_istore_n (lv' := [(3, .int (iI (0))), (2, .int (iI (0))), (0, .ref g0), (1, .int (iI (w)))]) hx hb dX2_ways_32 rfl hl (by decide) rfl (fun ls hl => ?_)
      refine lv_iload_n hx hb dX2_ways_33 rfl (lv_at hl 0 rfl) ?_
      refine r_bipush hx hb dX2_ways_34 (by decide) ?_
      refine r_icmp_ge (tgt := 109) hx hb dX2_ways_36 (by decide) (by unfold rI; decide) (by unfold rI; decide) (fun h9 => absurd h9 (by omega)) (fun h36 => ?_)
      refine lv_aload_n hx hb dX2_ways_39 rfl (lv_at hl 2 rfl) ?_
      refine va_get (D := D) (ci := 2) (v := .int (iI (2))) (C := RX2) (T := TX2) (N := 8) hx hb hts mu_X2_ways_X2 hown hE.1 hP 0 rfl rfl 7 (by decide) (hts _ mw_X2_ways_2) (fun _ h9 => h9) rfl dX2_ways_40 ?_
      refine r_if_ne (tgt := 109) hx hb dX2_ways_43 (by decide) (by unfold rI; decide) (fun h43 => ?_) (fun h9 => absurd h9 (by omega))
      refine lv_iload_n hx hb dX2_ways_109 rfl (lv_at hl 1 rfl) ?_
      exact hret (0) (2) _ _ _ _ dX2_ways_110 (by first | omega | (dsimp only; omega)) hP hD hS
  · refine r_if_ne (tgt := 14) hx hb dX2_ways_7 (by decide) (by unfold rI; decide) (fun h9 => absurd h9 (by omega)) (fun h7 => ?_)
    refine r_iconst hx hb dX2_ways_10 ?_
    refine lv_goto (tgt := 26) hx hb dX2_ways_11 (by decide) ?_
    refine va_put (D := D) (ci := 2) (v := .int (iI (1))) (ty := .int) (C := RX2) (T := TX2) (N := 8) hx hb hts mu_X2_ways_X2 tyX2 tyX2_ok nmX2 hown hE.1 hP hD hS 0 rfl rfl 7 (by decide) (hts _ mw_X2_ways_2) (fun _ h9 => h9) rfl (by decide +kernel) rfl rfl (Nat.le_of_ble_eq_true rfl) dX2_ways_26 (fun H locs hP hD hS => ?_)
    have hP : va_P D vwCl [(g0, .inr (2, [.ref g1, .int (iI (tu)), .int (iI (ph)), .int (iI (mo)), .int (iI (gc)), .ref g2, .ref g3, .int (iI (1))])), (g1, .inl (cI, 16, .inl (aI P))), (g2, .inl (cI, 4, .inl (aI C))), (g3, .inl (cI, 7, .inl (aI wyI)))] H := hP
    have hD : va_D A [(g0, .inr (2, [.ref g1, .int (iI (tu)), .int (iI (ph)), .int (iI (mo)), .int (iI (gc)), .ref g2, .ref g3, .int (iI (1))])), (g1, .inl (cI, 16, .inl (aI P))), (g2, .inl (cI, 4, .inl (aI C))), (g3, .inl (cI, 7, .inl (aI wyI)))] := hD
    refine r_iconst hx hb dX2_ways_29 ?_
    refine lv_istore_n (lv' := [(2, .int (iI (0))), (0, .ref g0), (1, .int (iI (w)))]) hx hb dX2_ways_30 rfl hl (by decide) rfl (fun ls hl => ?_)
    refine r_iconst hx hb dX2_ways_31 ?_
    refine lv_istore_n (lv' := [(3, .int (iI (0))), (2, .int (iI (0))), (0, .ref g0), (1, .int (iI (w)))]) hx hb dX2_ways_32 rfl hl (by decide) rfl (fun ls hl => ?_)
    refine lv_iload_n hx hb dX2_ways_33 rfl (lv_at hl 0 rfl) ?_
    refine r_bipush hx hb dX2_ways_34 (by decide) ?_
    refine r_icmp_ge (tgt := 109) hx hb dX2_ways_36 (by decide) (by unfold rI; decide) (by unfold rI; decide) (fun h9 => absurd h9 (by omega)) (fun h36 => ?_)
    refine lv_aload_n hx hb dX2_ways_39 rfl (lv_at hl 2 rfl) ?_
    refine va_get (D := D) (ci := 2) (v := .int (iI (1))) (C := RX2) (T := TX2) (N := 8) hx hb hts mu_X2_ways_X2 hown hE.1 hP 0 rfl rfl 7 (by decide) (hts _ mw_X2_ways_2) (fun _ h9 => h9) rfl dX2_ways_40 ?_
    refine r_if_ne (tgt := 109) hx hb dX2_ways_43 (by decide) (by unfold rI; decide) (fun h43 => ?_) (fun h9 => absurd h9 (by omega))
    refine lv_iload_n hx hb dX2_ways_109 rfl (lv_at hl 1 rfl) ?_
    exact hret (0) (1) _ _ _ _ dX2_ways_110 (by first | omega | (dsimp only; omega)) hP hD hS

set_option maxRecDepth 20000 in
theorem mw_X2_threat_0 : (.fieldLink RX2 19 "PachisiYardModel" "thrown" "I" : Cond) ∈ wsX2_threat := by decide +kernel
set_option maxRecDepth 20000 in
theorem mu_X2_threat_X2 : ∀ w ∈ wsX20, w ∈ wsX2_threat := by decide +kernel
set_option maxRecDepth 20000 in
theorem mw_X2_threat_2 : (.fieldLink RX2 7 "PachisiYardModel" "at" "[I" : Cond) ∈ wsX2_threat := by decide +kernel
set_option maxRecDepth 20000 in
theorem mw_X2_threat_3 : (.fieldLink RX2 16 "PachisiYardModel" "many" "[I" : Cond) ∈ wsX2_threat := by decide +kernel
theorem f_X2_threat : yX2_threat.cls ≠ "java/lang/invoke/MethodHandle" ∧ yX2_threat.cls ≠ "java/lang/invoke/VarHandle" ∧ (parseMethodDescriptor yX2_threat.desc).map (fun d => d.parameters.length) = some 3 := by decide +kernel
set_option maxHeartbeats 4000000 in
set_option maxRecDepth 100000 in
theorem c_X2_threat (l : Launch) (D : va_G) (cI cL : ClassId) (tw : Nat) (g0 : Nat) (g1 : Nat) (g2 : Nat) (g3 : Nat) (tu : Int) (ph : Int) (mo : Int) (gc : Int) (th : Int) (P : Int → Int) (C : Int → Int) (a : Int) (j : Int) (b : Int) (hB : ∀ i, 0 ≤ P i ∧ P i ≤ 72) (htu : 0 ≤ tu ∧ tu ≤ 3) (hgc : 0 ≤ gc ∧ gc ≤ 2) (hph : 0 ≤ ph ∧ ph ≤ 2) (hmo : 0 ≤ mo ∧ mo ≤ 6) (h_a : -2147483648 ≤ a ∧ a < 2147483648) (h_j : -2147483648 ≤ j ∧ j < 2147483648) (h_b : -2147483648 ≤ b ∧ b < 2147483648) : RWi l yX2_threat wsX2_threat { frames := 3, cells := 0, slots := 0, locals := 74 } D cI cL tw [.ref g0, .int (iI (a)), .int (iI (j)), .int (iI (b))] [(g0, .inr (2, [.ref g1, .int (iI (tu)), .int (iI (ph)), .int (iI (mo)), .int (iI (gc)), .ref g2, .ref g3, .int (iI (th))])), (g1, .inl (cI, 16, .inl (aI P))), (g2, .inl (cI, 4, .inl (aI C))), (g3, .inl (cI, 7, .inl (aI wyI)))] (fun (z : Int) (u : Int) => (0 ≤ a ∧ a ≤ 3 ∧ 0 ≤ j ∧ j ≤ 3 ∧ 0 ≤ b ∧ b ≤ 3 ∧ b % 2 ≠ a % 2 ∧ u = 0 ∧ z = thr P (4 * a + j) b) ∨ (¬ (0 ≤ a ∧ a ≤ 3 ∧ 0 ≤ j ∧ j ≤ 3) ∧ u = 1 ∧ z = 0) ∨ (0 ≤ a ∧ a ≤ 3 ∧ 0 ≤ j ∧ j ≤ 3 ∧ ¬ (0 ≤ b ∧ b ≤ 3 ∧ b % 2 ≠ a % 2) ∧ u = 2 ∧ z = 0)) (fun u : Int => [(g0, .inr (2, [.ref g1, .int (iI (tu)), .int (iI (ph)), .int (iI (mo)), .int (iI (gc)), .ref g2, .ref g3, .int (iI (u))])), (g1, .inl (cI, 16, .inl (aI P))), (g2, .inl (cI, 4, .inl (aI C))), (g3, .inl (cI, 7, .inl (aI wyI)))]) := by
  refine rwi_of (cc := cX2_threat) (maxL := 10) (rt := .int) (own := RX2) (by decide) rfl rfl (Or.inl rfl) (Nat.le_of_ble_eq_true rfl) ?_
  intro p e R s mt args below meth c H0 Q ls A S hR hE hP hD hS hA hl hret
  obtain ⟨hx, hb, hml, hown, hts⟩ := id S
  have hl : lv_has ls 10 [(0, .ref g0), (1, .int (iI (a))), (2, .int (iI (j))), (3, .int (iI (b)))] := hl
  refine lv_aload_n hx hb dX2_threat_0 rfl (lv_at hl 0 rfl) ?_
  refine lv_iload_n hx hb dX2_threat_1 rfl (lv_at hl 1 rfl) ?_
  refine r_iconst hx hb dX2_threat_2 ?_
  refine r_iconst hx hb dX2_threat_3 ?_
  refine r_callS (As := [.int (iI (a)), .int (iI (0)), .int (iI (3))]) (rest := [.ref g0]) S (c_X2_isIn l D cI cL tw (a) (0) (3) (by omega) (by omega) (by omega)) gX2_threat_X2_isIn rfl rfl rfl f_X2_isIn hR (Nat.le_of_ble_eq_true rfl) (Nat.le_of_ble_eq_true rfl) (hE.kept hS.2.1) rfl hl.1 rfl (Nat.le_of_ble_eq_true rfl) dX2_threat_4 ⟨Nat.zero_le _, Nat.zero_le _⟩ (fun z4 hz4 => ?_)
  rcases hz4 with ⟨rfl, hz4⟩ | ⟨rfl, hz4⟩
  · refine r_if_eq (tgt := 19) hx hb dX2_threat_7 (by decide) (by unfold rI; decide) (fun h9 => absurd h9 (by omega)) (fun h7 => ?_)
    refine lv_iload_n hx hb dX2_threat_10 rfl (lv_at hl 2 rfl) ?_
    refine r_iconst hx hb dX2_threat_11 ?_
    refine r_iconst hx hb dX2_threat_12 ?_
    refine r_callS (As := [.int (iI (j)), .int (iI (0)), .int (iI (3))]) (rest := [.ref g0]) S (c_X2_isIn l D cI cL tw (j) (0) (3) (by omega) (by omega) (by omega)) gX2_threat_X2_isIn rfl rfl rfl f_X2_isIn hR (Nat.le_of_ble_eq_true rfl) (Nat.le_of_ble_eq_true rfl) (hE.kept hS.2.1) rfl hl.1 rfl (Nat.le_of_ble_eq_true rfl) dX2_threat_13 ⟨Nat.zero_le _, Nat.zero_le _⟩ (fun z13 hz13 => ?_)
    rcases hz13 with ⟨rfl, hz13⟩ | ⟨rfl, hz13⟩
    · refine r_if_ne (tgt := 23) hx hb dX2_threat_16 (by decide) (by unfold rI; decide) (fun h16 => ?_) (fun h9 => absurd h9 (by omega))
      refine lv_iload_n hx hb dX2_threat_23 rfl (lv_at hl 3 rfl) ?_
      refine r_iconst hx hb dX2_threat_24 ?_
      refine r_iconst hx hb dX2_threat_25 ?_
      refine r_callS (As := [.int (iI (b)), .int (iI (0)), .int (iI (3))]) (rest := [.ref g0]) S (c_X2_isIn l D cI cL tw (b) (0) (3) (by omega) (by omega) (by omega)) gX2_threat_X2_isIn rfl rfl rfl f_X2_isIn hR (Nat.le_of_ble_eq_true rfl) (Nat.le_of_ble_eq_true rfl) (hE.kept hS.2.1) rfl hl.1 rfl (Nat.le_of_ble_eq_true rfl) dX2_threat_26 ⟨Nat.zero_le _, Nat.zero_le _⟩ (fun z26 hz26 => ?_)
      rcases hz26 with ⟨rfl, hz26⟩ | ⟨rfl, hz26⟩
      · refine r_if_eq (tgt := 45) hx hb dX2_threat_29 (by decide) (by unfold rI; decide) (fun h9 => absurd h9 (by omega)) (fun h29 => ?_)
        refine lv_iload_n hx hb dX2_threat_32 rfl (lv_at hl 3 rfl) ?_
        refine r_iconst hx hb dX2_threat_33 ?_
        refine r_irem hx hb dX2_threat_34 (by omega) (by omega) ?_
        refine lv_iload_n hx hb dX2_threat_35 rfl (lv_at hl 1 rfl) ?_
        refine r_iconst hx hb dX2_threat_36 ?_
        refine r_irem hx hb dX2_threat_37 (by omega) (by omega) ?_
        refine r_icmp_eq (tgt := 45) hx hb dX2_threat_38 (by decide) (by unfold rI; omega) (by unfold rI; omega) (fun h38 => ?_) (fun h38 => ?_)
        · refine r_iconst hx hb dX2_threat_45 ?_
          refine va_put (D := D) (ci := 2) (v := .int (iI (2))) (ty := .int) (C := RX2) (T := TX2) (N := 8) hx hb hts mu_X2_threat_X2 tyX2 tyX2_ok nmX2 hown hE.1 hP hD hS 0 rfl rfl 7 (by decide) (hts _ mw_X2_threat_0) (fun _ h9 => h9) rfl (by decide +kernel) rfl rfl (Nat.le_of_ble_eq_true rfl) dX2_threat_46 (fun H locs hP hD hS => ?_)
          have hP : va_P D vwCl [(g0, .inr (2, [.ref g1, .int (iI (tu)), .int (iI (ph)), .int (iI (mo)), .int (iI (gc)), .ref g2, .ref g3, .int (iI (2))])), (g1, .inl (cI, 16, .inl (aI P))), (g2, .inl (cI, 4, .inl (aI C))), (g3, .inl (cI, 7, .inl (aI wyI)))] H := hP
          have hD : va_D A [(g0, .inr (2, [.ref g1, .int (iI (tu)), .int (iI (ph)), .int (iI (mo)), .int (iI (gc)), .ref g2, .ref g3, .int (iI (2))])), (g1, .inl (cI, 16, .inl (aI P))), (g2, .inl (cI, 4, .inl (aI C))), (g3, .inl (cI, 7, .inl (aI wyI)))] := hD
          refine r_iconst hx hb dX2_threat_49 ?_
          refine lv_istore (lv' := [(4, .int (iI (0))), (0, .ref g0), (1, .int (iI (a))), (2, .int (iI (j))), (3, .int (iI (b)))]) hx hb dX2_threat_50 hl (by decide) rfl (fun ls hl => ?_)
          refine lv_aload_n hx hb dX2_threat_52 rfl (lv_at hl 1 rfl) ?_
          refine va_get (D := D) (ci := 2) (v := .int (iI (2))) (C := RX2) (T := TX2) (N := 8) hx hb hts mu_X2_threat_X2 hown hE.1 hP 0 rfl rfl 7 (by decide) (hts _ mw_X2_threat_0) (fun _ h9 => h9) rfl dX2_threat_53 ?_
          refine r_if_ne (tgt := 204) hx hb dX2_threat_56 (by decide) (by unfold rI; decide) (fun h56 => ?_) (fun h9 => absurd h9 (by omega))
          refine lv_iload hx hb dX2_threat_204 (lv_at hl 0 rfl) ?_
          exact hret (0) (2) _ _ _ _ dX2_threat_206 (by first | omega | (dsimp only; omega)) hP hD hS
        · refine r_iconst hx hb dX2_threat_41 ?_
          refine lv_goto (tgt := 46) hx hb dX2_threat_42 (by decide) ?_
          refine va_put (D := D) (ci := 2) (v := .int (iI (0))) (ty := .int) (C := RX2) (T := TX2) (N := 8) hx hb hts mu_X2_threat_X2 tyX2 tyX2_ok nmX2 hown hE.1 hP hD hS 0 rfl rfl 7 (by decide) (hts _ mw_X2_threat_0) (fun _ h9 => h9) rfl (by decide +kernel) rfl rfl (Nat.le_of_ble_eq_true rfl) dX2_threat_46 (fun H locs hP hD hS => ?_)
          have hP : va_P D vwCl [(g0, .inr (2, [.ref g1, .int (iI (tu)), .int (iI (ph)), .int (iI (mo)), .int (iI (gc)), .ref g2, .ref g3, .int (iI (0))])), (g1, .inl (cI, 16, .inl (aI P))), (g2, .inl (cI, 4, .inl (aI C))), (g3, .inl (cI, 7, .inl (aI wyI)))] H := hP
          have hD : va_D A [(g0, .inr (2, [.ref g1, .int (iI (tu)), .int (iI (ph)), .int (iI (mo)), .int (iI (gc)), .ref g2, .ref g3, .int (iI (0))])), (g1, .inl (cI, 16, .inl (aI P))), (g2, .inl (cI, 4, .inl (aI C))), (g3, .inl (cI, 7, .inl (aI wyI)))] := hD
          refine r_iconst hx hb dX2_threat_49 ?_
          refine lv_istore (lv' := [(4, .int (iI (0))), (0, .ref g0), (1, .int (iI (a))), (2, .int (iI (j))), (3, .int (iI (b)))]) hx hb dX2_threat_50 hl (by decide) rfl (fun ls hl => ?_)
          refine lv_aload_n hx hb dX2_threat_52 rfl (lv_at hl 1 rfl) ?_
          refine va_get (D := D) (ci := 2) (v := .int (iI (0))) (C := RX2) (T := TX2) (N := 8) hx hb hts mu_X2_threat_X2 hown hE.1 hP 0 rfl rfl 7 (by decide) (hts _ mw_X2_threat_0) (fun _ h9 => h9) rfl dX2_threat_53 ?_
          refine r_if_ne (tgt := 204) hx hb dX2_threat_56 (by decide) (by unfold rI; decide) (fun h9 => absurd h9 (by omega)) (fun h56 => ?_)
          refine lv_aload_n hx hb dX2_threat_59 rfl (lv_at hl 1 rfl) ?_
          refine va_get (D := D) (ci := 2) (v := .ref g1) (C := RX2) (T := TX2) (N := 8) hx hb hts mu_X2_threat_X2 hown hE.1 hP 0 rfl rfl 0 (by decide) (hts _ mw_X2_threat_2) (fun _ h9 => h9) rfl dX2_threat_60 ?_
          refine r_iconst hx hb dX2_threat_63 ?_
          refine lv_iload_n hx hb dX2_threat_64 rfl (lv_at hl 2 rfl) ?_
          refine r_imul hx hb dX2_threat_65 ?_
          refine lv_iload_n hx hb dX2_threat_66 rfl (lv_at hl 3 rfl) ?_
          refine r_iadd hx hb dX2_threat_67 ?_
          refine r_iald hx hb hE.1 hP 1 rfl (i := ((4) * (a)) + (j)) (by omega) (by omega) (by decide) dX2_threat_68 ?_
          obtain ⟨v68, ev68⟩ : ∃ v : Int, v = P (((4) * (a)) + (j)) := ⟨_, rfl⟩
          have gv68 := hB (((4) * (a)) + (j))
          refine r_top v68 ev68.symm ?_
          rw [← ev68] at gv68
          refine r_iconst hx hb dX2_threat_69 ?_
          refine r_bipush hx hb dX2_threat_70 (by decide) ?_
          refine r_callS (As := [.int (iI (v68)), .int (iI (1)), .int (iI (64))]) (rest := []) S (c_X2_isIn l D cI cL tw (v68) (1) (64) (by omega) (by omega) (by omega)) gX2_threat_X2_isIn rfl rfl rfl f_X2_isIn hR (Nat.le_of_ble_eq_true rfl) (Nat.le_of_ble_eq_true rfl) (hE.kept hS.2.1) rfl hl.1 rfl (Nat.le_of_ble_eq_true rfl) dX2_threat_72 ⟨Nat.zero_le _, Nat.zero_le _⟩ (fun z72 hz72 => ?_)
          rcases hz72 with ⟨rfl, hz72⟩ | ⟨rfl, hz72⟩
          · refine r_if_eq (tgt := 204) hx hb dX2_threat_75 (by decide) (by unfold rI; decide) (fun h9 => absurd h9 (by omega)) (fun h75 => ?_)
            refine lv_iload_n hx hb dX2_threat_78 rfl (lv_at hl 2 rfl) ?_
            refine lv_aload_n hx hb dX2_threat_79 rfl (lv_at hl 1 rfl) ?_
            refine va_get (D := D) (ci := 2) (v := .ref g1) (C := RX2) (T := TX2) (N := 8) hx hb hts mu_X2_threat_X2 hown hE.1 hP 0 rfl rfl 0 (by decide) (hts _ mw_X2_threat_2) (fun _ h9 => h9) rfl dX2_threat_80 ?_
            refine r_iconst hx hb dX2_threat_83 ?_
            refine lv_iload_n hx hb dX2_threat_84 rfl (lv_at hl 2 rfl) ?_
            refine r_imul hx hb dX2_threat_85 ?_
            refine lv_iload_n hx hb dX2_threat_86 rfl (lv_at hl 3 rfl) ?_
            refine r_iadd hx hb dX2_threat_87 ?_
            refine r_iald hx hb hE.1 hP 1 rfl (i := ((4) * (a)) + (j)) (by omega) (by omega) (by decide) dX2_threat_88 ?_
            obtain ⟨v88, ev88⟩ : ∃ v : Int, v = P (((4) * (a)) + (j)) := ⟨_, rfl⟩
            have gv88 := hB (((4) * (a)) + (j))
            refine r_top v88 ev88.symm ?_
            rw [← ev88] at gv88
            refine r_callS (As := [.int (iI (a)), .int (iI (v88))]) (rest := []) S (c_X2_squareOf l D cI cL tw (a) (v88) (by omega) (by omega)) gX2_threat_X2_squareOf rfl rfl rfl f_X2_squareOf hR (Nat.le_of_ble_eq_true rfl) (Nat.le_of_ble_eq_true rfl) (hE.kept hS.2.1) rfl hl.1 rfl (Nat.le_of_ble_eq_true rfl) dX2_threat_89 ⟨Nat.zero_le _, Nat.zero_le _⟩ (fun z89 hz89 => ?_)
            obtain ⟨hz89, rz89⟩ := hz89
            refine lv_istore (lv' := [(5, .int (iI (z89))), (4, .int (iI (0))), (0, .ref g0), (1, .int (iI (a))), (2, .int (iI (j))), (3, .int (iI (b)))]) hx hb dX2_threat_92 hl (by decide) rfl (fun ls hl => ?_)
            refine lv_aload_n hx hb dX2_threat_94 rfl (lv_at hl 2 rfl) ?_
            refine lv_iload_n hx hb dX2_threat_95 rfl (lv_at hl 5 rfl) ?_
            refine r_callV (As := [.int (iI (b))]) (rest := []) S (c_X2_movesFor l D cI cL tw (g0) (g1) (g2) (g3) (tu) (ph) (mo) (gc) (0) (P) (C) (b) (hB) (by omega)) gX2_threat_X2_movesFor rfl rfl rfl ⟨rfl, f_X2_movesFor⟩ hR (Nat.le_of_ble_eq_true rfl) (Nat.le_of_ble_eq_true rfl) (hE.kept hS.2.1) hP [0, 1, 2, 3] rfl 0 rfl rfl rfl hl.1 rfl (Nat.le_of_ble_eq_true rfl) dX2_threat_96 ⟨Nat.zero_le _, Nat.zero_le _⟩ (fun z96 hz96 => ?_)
            obtain ⟨hz96, rz96⟩ := hz96
            refine lv_istore (lv' := [(6, .int (iI (z96))), (5, .int (iI (z89))), (4, .int (iI (0))), (0, .ref g0), (1, .int (iI (a))), (2, .int (iI (j))), (3, .int (iI (b)))]) hx hb dX2_threat_99 hl (by decide) rfl (fun ls hl => ?_)
            refine r_iconst hx hb dX2_threat_101 ?_
            refine lv_istore (lv' := [(7, .int (iI (0))), (6, .int (iI (z96))), (5, .int (iI (z89))), (4, .int (iI (0))), (0, .ref g0), (1, .int (iI (a))), (2, .int (iI (j))), (3, .int (iI (b)))]) hx hb dX2_threat_102 hl (by decide) rfl (fun ls hl => ?_)
            have lp_104 : ∀ (d_104 : Nat) (n : Int) (k : Int), (d_104 : Int) = 7 - k → (0 ≤ k ∧ k ≤ 7) → (n = sZ (thA P z89 z96) k) → ∀ (H : Heap) (locs : List Loc), va_P D vwCl [(g0, .inr (2, [.ref g1, .int (iI (tu)), .int (iI (ph)), .int (iI (mo)), .int (iI (gc)), .ref g2, .ref g3, .int (iI (0))])), (g1, .inl (cI, 16, .inl (aI P))), (g2, .inl (cI, 4, .inl (aI C))), (g3, .inl (cI, 7, .inl (aI wyI)))] H → va_D A [(g0, .inr (2, [.ref g1, .int (iI (tu)), .int (iI (ph)), .int (iI (mo)), .int (iI (gc)), .ref g2, .ref g3, .int (iI (0))])), (g1, .inl (cI, 16, .inl (aI P))), (g2, .inl (cI, 4, .inl (aI C))), (g3, .inl (cI, 7, .inl (aI wyI)))] → va_S A H0 H locs → ∀ ls : Array Slot, lv_has ls 10 [(7, .int (iI (k))), (6, .int (iI (z96))), (5, .int (iI (z89))), (4, .int (iI (n))), (0, .ref g0), (1, .int (iI (a))), (2, .int (iI (j))), (3, .int (iI (b)))] → W p l e R s mt args below meth c H locs 0 0 Q (F0 mt 104 ls []) := by
              intro d_104
              induction d_104 using Nat.strongRecOn with
              | ind d_104 ih_104 =>
              intro n k hd_104 hk hn H locs hP hD hS ls hl
              refine lv_iload hx hb dX2_threat_104 (lv_at hl 0 rfl) ?_
              refine r_bipush hx hb dX2_threat_106 (by decide) ?_
              refine r_icmp_ge (tgt := 204) hx hb dX2_threat_108 (by decide) (by unfold rI; omega) (by unfold rI; decide) (fun h108 => ?_) (fun h108 => ?_)
              · refine lv_iload hx hb dX2_threat_204 (lv_at hl 3 rfl) ?_
                exact hret (n) (0) _ _ _ _ dX2_threat_206 (by (try dsimp only); have e : k = 7 := (by omega); subst e; have e : thr P (4 * a + j) b = n := (by rw [thr_on (by rw [← ev68]; exact hz72), show (4 * a + j) / 4 = a by omega, ← ev88, ← hz89, ← hz96]; exact hn.symm); omega) hP hD hS
              · refine r_iconst hx hb dX2_threat_111 ?_
                refine lv_istore (lv' := [(8, .int (iI (0))), (7, .int (iI (k))), (6, .int (iI (z96))), (5, .int (iI (z89))), (4, .int (iI (n))), (0, .ref g0), (1, .int (iI (a))), (2, .int (iI (j))), (3, .int (iI (b)))]) hx hb dX2_threat_112 hl (by decide) rfl (fun ls hl => ?_)
                refine r_iconst hx hb dX2_threat_114 ?_
                refine lv_iload hx hb dX2_threat_115 (lv_at hl 2 rfl) ?_
                refine r_imul hx hb dX2_threat_117 ?_
                refine lv_istore (lv' := [(9, .int (iI ((4) * (z96)))), (8, .int (iI (0))), (7, .int (iI (k))), (6, .int (iI (z96))), (5, .int (iI (z89))), (4, .int (iI (n))), (0, .ref g0), (1, .int (iI (a))), (2, .int (iI (j))), (3, .int (iI (b)))]) hx hb dX2_threat_118 hl (by decide) rfl (fun ls hl => ?_)
                have lp_120 : ∀ (d_120 : Nat) (fl : Int) (x : Int), (d_120 : Int) = 4 * z96 + 4 - x → (4 * z96 ≤ x ∧ x ≤ 4 * z96 + 4) → ((fl = 1 ∧ ∃ i, 0 ≤ i ∧ i < x - 4 * z96 ∧ cpA P z89 z96 k i) ∨ (fl = 0 ∧ ∀ i, 0 ≤ i → i < x - 4 * z96 → ¬ cpA P z89 z96 k i)) → ∀ (H : Heap) (locs : List Loc), va_P D vwCl [(g0, .inr (2, [.ref g1, .int (iI (tu)), .int (iI (ph)), .int (iI (mo)), .int (iI (gc)), .ref g2, .ref g3, .int (iI (0))])), (g1, .inl (cI, 16, .inl (aI P))), (g2, .inl (cI, 4, .inl (aI C))), (g3, .inl (cI, 7, .inl (aI wyI)))] H → va_D A [(g0, .inr (2, [.ref g1, .int (iI (tu)), .int (iI (ph)), .int (iI (mo)), .int (iI (gc)), .ref g2, .ref g3, .int (iI (0))])), (g1, .inl (cI, 16, .inl (aI P))), (g2, .inl (cI, 4, .inl (aI C))), (g3, .inl (cI, 7, .inl (aI wyI)))] → va_S A H0 H locs → ∀ ls : Array Slot, lv_has ls 10 [(9, .int (iI (x))), (8, .int (iI (fl))), (7, .int (iI (k))), (6, .int (iI (z96))), (5, .int (iI (z89))), (4, .int (iI (n))), (0, .ref g0), (1, .int (iI (a))), (2, .int (iI (j))), (3, .int (iI (b)))] → W p l e R s mt args below meth c H locs 0 0 Q (F0 mt 120 ls []) := by
                  intro d_120
                  induction d_120 using Nat.strongRecOn with
                  | ind d_120 ih_120 =>
                  intro fl x hd_120 hx9 hf H locs hP hD hS ls hl
                  refine lv_iload hx hb dX2_threat_120 (lv_at hl 0 rfl) ?_
                  refine r_iconst hx hb dX2_threat_122 ?_
                  refine lv_iload hx hb dX2_threat_123 (lv_at hl 3 rfl) ?_
                  refine r_imul hx hb dX2_threat_125 ?_
                  refine r_iconst hx hb dX2_threat_126 ?_
                  refine r_iadd hx hb dX2_threat_127 ?_
                  refine r_icmp_ge (tgt := 177) hx hb dX2_threat_128 (by decide) (by unfold rI; omega) (by unfold rI; omega) (fun h128 => ?_) (fun h128 => ?_)
                  · refine lv_iload hx hb dX2_threat_177 (lv_at hl 5 rfl) ?_
                    refine lv_iload hx hb dX2_threat_179 (lv_at hl 1 rfl) ?_
                    refine r_if_eq (tgt := 194) hx hb dX2_threat_181 (by decide) (by unfold rI; omega) (fun h181 => ?_) (fun h181 => ?_)
                    · refine r_iconst hx hb dX2_threat_194 ?_
                      refine r_iadd hx hb dX2_threat_195 ?_
                      refine lv_istore (lv' := [(4, .int (iI ((n) + (0)))), (9, .int (iI (x))), (8, .int (iI (fl))), (7, .int (iI (k))), (6, .int (iI (z96))), (5, .int (iI (z89))), (0, .ref g0), (1, .int (iI (a))), (2, .int (iI (j))), (3, .int (iI (b)))]) hx hb dX2_threat_196 hl (by decide) rfl (fun ls hl => ?_)
                      refine lv_iinc (v := iI (k + 1)) (lv' := [(7, .int (iI (k + 1))), (4, .int (iI ((n) + (0)))), (9, .int (iI (x))), (8, .int (iI (fl))), (6, .int (iI (z96))), (5, .int (iI (z89))), (0, .ref g0), (1, .int (iI (a))), (2, .int (iI (j))), (3, .int (iI (b)))]) hx hb dX2_threat_198 hl (k := 3) rfl (iI_add _ _) (by decide) rfl (fun ls hl => ?_)
                      refine lv_goto (tgt := 104) hx hb dX2_threat_201 (by decide) ?_
                      exact ih_104 (7 - (k + 1) : Int).toNat (nlt (by omega) hd_104 (by omega)) ((n) + (0)) (k + 1) (Int.toNat_of_nonneg (by omega)) (by omega) (by have q : k = k := rfl; have hc : ¬ cpP P z89 z96 k := (fun ⟨i, q2, q3, q4⟩ => by rcases hf with ⟨q1, q5⟩ | ⟨q1, q5⟩; (exact absurd q1 (by omega)); exact q5 i q2 (by omega) q4); rw [sZ_s _ (by omega), ← hn, thA_n hc]) _ _ hP hD hS ls (lv_sub hl [0, 4, 5, 1, 6, 7, 8, 9] rfl)
                    · refine lv_aload_n hx hb dX2_threat_184 rfl (lv_at hl 6 rfl) ?_
                      refine va_get (D := D) (ci := 2) (v := .ref g3) (C := RX2) (T := TX2) (N := 8) hx hb hts mu_X2_threat_X2 hown hE.1 hP 0 rfl rfl 6 (by decide) (hts _ mw_X2_threat_3) (fun _ h9 => h9) rfl dX2_threat_185 ?_
                      refine lv_iload hx hb dX2_threat_188 (lv_at hl 2 rfl) ?_
                      refine r_iald hx hb hE.1 hP 3 rfl (i := k) (by omega) (by omega) (by decide) dX2_threat_190 ?_
                      refine lv_goto (tgt := 195) hx hb dX2_threat_191 (by decide) ?_
                      refine r_iadd hx hb dX2_threat_195 ?_
                      refine lv_istore (lv' := [(4, .int (iI ((n) + (wyI (k))))), (9, .int (iI (x))), (8, .int (iI (fl))), (7, .int (iI (k))), (6, .int (iI (z96))), (5, .int (iI (z89))), (0, .ref g0), (1, .int (iI (a))), (2, .int (iI (j))), (3, .int (iI (b)))]) hx hb dX2_threat_196 hl (by decide) rfl (fun ls hl => ?_)
                      refine lv_iinc (v := iI (k + 1)) (lv' := [(7, .int (iI (k + 1))), (4, .int (iI ((n) + (wyI (k))))), (9, .int (iI (x))), (8, .int (iI (fl))), (6, .int (iI (z96))), (5, .int (iI (z89))), (0, .ref g0), (1, .int (iI (a))), (2, .int (iI (j))), (3, .int (iI (b)))]) hx hb dX2_threat_198 hl (k := 3) rfl (iI_add _ _) (by decide) rfl (fun ls hl => ?_)
                      refine lv_goto (tgt := 104) hx hb dX2_threat_201 (by decide) ?_
                      exact ih_104 (7 - (k + 1) : Int).toNat (nlt (by omega) hd_104 (by omega)) ((n) + (wyI (k))) (k + 1) (Int.toNat_of_nonneg (by omega)) (by omega) (by have q : k = k := rfl; have hc : cpP P z89 z96 k := (by rcases hf with ⟨q1, i, q2, q3, q4⟩ | ⟨q1, q2⟩; (exact ⟨i, q2, by omega, q4⟩); exact absurd q1 (by omega)); rw [sZ_s _ (by omega), ← hn, thA_y hc]) _ _ hP hD hS ls (lv_sub hl [0, 4, 5, 1, 6, 7, 8, 9] rfl)
                  · refine lv_iload hx hb dX2_threat_131 (lv_at hl 1 rfl) ?_
                    refine lv_aload_n hx hb dX2_threat_133 rfl (lv_at hl 6 rfl) ?_
                    refine lv_iload hx hb dX2_threat_134 (lv_at hl 0 rfl) ?_
                    refine lv_iload hx hb dX2_threat_136 (lv_at hl 2 rfl) ?_
                    refine r_callV (As := [.int (iI (x)), .int (iI (k))]) (rest := [.int (iI (fl))]) S (c_X2_can l D cI cL tw (g0) (g1) (g2) (g3) (tu) (ph) (mo) (gc) (0) (P) (C) (x) (k) (hB) (by omega) (by omega)) gX2_threat_X2_can rfl rfl rfl ⟨rfl, f_X2_can⟩ hR (Nat.le_of_ble_eq_true rfl) (Nat.le_of_ble_eq_true rfl) (hE.kept hS.2.1) hP [0, 1, 2, 3] rfl 0 rfl rfl rfl hl.1 rfl (Nat.le_of_ble_eq_true rfl) dX2_threat_138 ⟨Nat.zero_le _, Nat.zero_le _⟩ (fun z138 hz138 => ?_)
                    obtain ⟨hz138, rz138⟩ := hz138
                    refine r_iconst hx hb dX2_threat_141 ?_
                    refine r_icmp_ne (tgt := 167) hx hb dX2_threat_142 (by decide) (by unfold rI; omega) (by unfold rI; decide) (fun h142 => ?_) (fun h142 => ?_)
                    · refine r_iconst hx hb dX2_threat_167 ?_
                      refine r_ior hx hb (z := fl) dX2_threat_168 (bit_or0 _) ?_
                      refine lv_istore (lv' := [(8, .int (iI (fl))), (9, .int (iI (x))), (7, .int (iI (k))), (6, .int (iI (z96))), (5, .int (iI (z89))), (4, .int (iI (n))), (0, .ref g0), (1, .int (iI (a))), (2, .int (iI (j))), (3, .int (iI (b)))]) hx hb dX2_threat_169 hl (by decide) rfl (fun ls hl => ?_)
                      refine lv_iinc (v := iI (x + 1)) (lv' := [(9, .int (iI (x + 1))), (8, .int (iI (fl))), (7, .int (iI (k))), (6, .int (iI (z96))), (5, .int (iI (z89))), (4, .int (iI (n))), (0, .ref g0), (1, .int (iI (a))), (2, .int (iI (j))), (3, .int (iI (b)))]) hx hb dX2_threat_171 hl (k := 1) rfl (iI_add _ _) (by decide) rfl (fun ls hl => ?_)
                      refine lv_goto (tgt := 120) hx hb dX2_threat_174 (by decide) ?_
                      exact ih_120 (4 * z96 + 4 - (x + 1) : Int).toNat (nlt (by omega) hd_120 (by omega)) (fl) (x + 1) (Int.toNat_of_nonneg (by omega)) (by omega) (by have q9 : 4 * z96 + (x - 4 * z96) = x := (by omega); have hd : ¬ cpA P z89 z96 k (x - 4 * z96) := (fun h => by unfold cpA at h; rw [q9, ← hz138] at h; omega); rcases hf with ⟨q1, i, q2, q3, q4⟩ | ⟨q1, q2⟩; (exact Or.inl ⟨q1, i, q2, by omega, q4⟩); exact Or.inr ⟨q1, fun i h1 h2 => if e : i = x - 4 * z96 then (by subst e; exact hd) else q2 i h1 (by omega)⟩) _ _ hP hD hS ls (lv_sub hl [0, 1, 2, 3, 4, 5, 6, 7, 8, 9] rfl)
                    · refine lv_iload hx hb dX2_threat_145 (lv_at hl 3 rfl) ?_
                      refine lv_aload_n hx hb dX2_threat_147 rfl (lv_at hl 6 rfl) ?_
                      refine lv_iload hx hb dX2_threat_148 (lv_at hl 0 rfl) ?_
                      refine lv_iload hx hb dX2_threat_150 (lv_at hl 2 rfl) ?_
                      refine r_callV (As := [.int (iI (x)), .int (iI (k))]) (rest := [.int (iI (z96)), .int (iI (fl))]) S (c_X2_target l D cI cL tw (g0) (g1) (g2) (g3) (tu) (ph) (mo) (gc) (0) (P) (C) (x) (k) (hB) (by omega) (by omega)) gX2_threat_X2_target rfl rfl rfl ⟨rfl, f_X2_target⟩ hR (Nat.le_of_ble_eq_true rfl) (Nat.le_of_ble_eq_true rfl) (hE.kept hS.2.1) hP [0, 1, 2, 3] rfl 0 rfl rfl rfl hl.1 rfl (Nat.le_of_ble_eq_true rfl) dX2_threat_152 ⟨Nat.zero_le _, Nat.zero_le _⟩ (fun z152 hz152 => ?_)
                      obtain ⟨hz152, rz152⟩ := hz152
                      refine r_callS (As := [.int (iI (z96)), .int (iI (z152))]) (rest := [.int (iI (fl))]) S (c_X2_squareOf l D cI cL tw (z96) (z152) (by omega) (by omega)) gX2_threat_X2_squareOf rfl rfl rfl f_X2_squareOf hR (Nat.le_of_ble_eq_true rfl) (Nat.le_of_ble_eq_true rfl) (hE.kept hS.2.1) rfl hl.1 rfl (Nat.le_of_ble_eq_true rfl) dX2_threat_155 ⟨Nat.zero_le _, Nat.zero_le _⟩ (fun z155 hz155 => ?_)
                      obtain ⟨hz155, rz155⟩ := hz155
                      refine lv_iload hx hb dX2_threat_158 (lv_at hl 4 rfl) ?_
                      refine r_icmp_ne (tgt := 167) hx hb dX2_threat_160 (by decide) (by unfold rI; omega) (by unfold rI; omega) (fun h160 => ?_) (fun h160 => ?_)
                      · refine r_iconst hx hb dX2_threat_167 ?_
                        refine r_ior hx hb (z := fl) dX2_threat_168 (bit_or0 _) ?_
                        refine lv_istore (lv' := [(8, .int (iI (fl))), (9, .int (iI (x))), (7, .int (iI (k))), (6, .int (iI (z96))), (5, .int (iI (z89))), (4, .int (iI (n))), (0, .ref g0), (1, .int (iI (a))), (2, .int (iI (j))), (3, .int (iI (b)))]) hx hb dX2_threat_169 hl (by decide) rfl (fun ls hl => ?_)
                        refine lv_iinc (v := iI (x + 1)) (lv' := [(9, .int (iI (x + 1))), (8, .int (iI (fl))), (7, .int (iI (k))), (6, .int (iI (z96))), (5, .int (iI (z89))), (4, .int (iI (n))), (0, .ref g0), (1, .int (iI (a))), (2, .int (iI (j))), (3, .int (iI (b)))]) hx hb dX2_threat_171 hl (k := 1) rfl (iI_add _ _) (by decide) rfl (fun ls hl => ?_)
                        refine lv_goto (tgt := 120) hx hb dX2_threat_174 (by decide) ?_
                        exact ih_120 (4 * z96 + 4 - (x + 1) : Int).toNat (nlt (by omega) hd_120 (by omega)) (fl) (x + 1) (Int.toNat_of_nonneg (by omega)) (by omega) (by have q9 : 4 * z96 + (x - 4 * z96) = x := (by omega); have hd : ¬ cpA P z89 z96 k (x - 4 * z96) := (fun h => by unfold cpA at h; rw [q9, ← hz138, ← hz152, ← hz155] at h; omega); rcases hf with ⟨q1, i, q2, q3, q4⟩ | ⟨q1, q2⟩; (exact Or.inl ⟨q1, i, q2, by omega, q4⟩); exact Or.inr ⟨q1, fun i h1 h2 => if e : i = x - 4 * z96 then (by subst e; exact hd) else q2 i h1 (by omega)⟩) _ _ hP hD hS ls (lv_sub hl [0, 1, 2, 3, 4, 5, 6, 7, 8, 9] rfl)
                      · refine r_iconst hx hb dX2_threat_163 ?_
                        refine lv_goto (tgt := 168) hx hb dX2_threat_164 (by decide) ?_
                        refine r_ior hx hb (z := 1) dX2_threat_168 (bit_or1 (by omega)) ?_
                        refine lv_istore (lv' := [(8, .int (iI (1))), (9, .int (iI (x))), (7, .int (iI (k))), (6, .int (iI (z96))), (5, .int (iI (z89))), (4, .int (iI (n))), (0, .ref g0), (1, .int (iI (a))), (2, .int (iI (j))), (3, .int (iI (b)))]) hx hb dX2_threat_169 hl (by decide) rfl (fun ls hl => ?_)
                        refine lv_iinc (v := iI (x + 1)) (lv' := [(9, .int (iI (x + 1))), (8, .int (iI (1))), (7, .int (iI (k))), (6, .int (iI (z96))), (5, .int (iI (z89))), (4, .int (iI (n))), (0, .ref g0), (1, .int (iI (a))), (2, .int (iI (j))), (3, .int (iI (b)))]) hx hb dX2_threat_171 hl (k := 1) rfl (iI_add _ _) (by decide) rfl (fun ls hl => ?_)
                        refine lv_goto (tgt := 120) hx hb dX2_threat_174 (by decide) ?_
                        exact ih_120 (4 * z96 + 4 - (x + 1) : Int).toNat (nlt (by omega) hd_120 (by omega)) (1) (x + 1) (Int.toNat_of_nonneg (by omega)) (by omega) (by have q9 : 4 * z96 + (x - 4 * z96) = x := (by omega); have hd : cpA P z89 z96 k (x - 4 * z96) := (by unfold cpA; rw [q9, ← hz138, ← hz152, ← hz155]; exact ⟨by omega, by omega⟩); exact Or.inl ⟨rfl, x - 4 * z96, by omega, by omega, hd⟩) _ _ hP hD hS ls (lv_sub hl [0, 1, 2, 3, 4, 5, 6, 7, 8, 9] rfl)
                exact lp_120 (4 * z96 + 4 - ((4) * (z96)) : Int).toNat (0) ((4) * (z96)) (Int.toNat_of_nonneg (by omega)) (by omega) (Or.inr ⟨rfl, fun i h1 h2 => by omega⟩) _ _ hP hD hS ls (lv_sub hl [0, 1, 2, 3, 4, 5, 6, 7, 8, 9] rfl)
            exact lp_104 (7 - (0) : Int).toNat (0) (0) (Int.toNat_of_nonneg (by omega)) (by omega) ((sZ_0 _).symm) _ _ hP hD hS ls (lv_sub hl [0, 1, 2, 3, 4, 5, 6, 7] rfl)
          · refine r_if_eq (tgt := 204) hx hb dX2_threat_75 (by decide) (by unfold rI; decide) (fun h75 => ?_) (fun h9 => absurd h9 (by omega))
            refine lv_iload hx hb dX2_threat_204 (lv_at hl 0 rfl) ?_
            exact hret (0) (0) _ _ _ _ dX2_threat_206 (by (try dsimp only); have e : thr P (4 * a + j) b = 0 := (thr_no (by rw [show 4 * a + j = (4 : Int) * a + j from rfl, ← ev68]; exact hz72)); omega) hP hD hS
      · refine r_if_eq (tgt := 45) hx hb dX2_threat_29 (by decide) (by unfold rI; decide) (fun h29 => ?_) (fun h9 => absurd h9 (by omega))
        refine r_iconst hx hb dX2_threat_45 ?_
        refine va_put (D := D) (ci := 2) (v := .int (iI (2))) (ty := .int) (C := RX2) (T := TX2) (N := 8) hx hb hts mu_X2_threat_X2 tyX2 tyX2_ok nmX2 hown hE.1 hP hD hS 0 rfl rfl 7 (by decide) (hts _ mw_X2_threat_0) (fun _ h9 => h9) rfl (by decide +kernel) rfl rfl (Nat.le_of_ble_eq_true rfl) dX2_threat_46 (fun H locs hP hD hS => ?_)
        have hP : va_P D vwCl [(g0, .inr (2, [.ref g1, .int (iI (tu)), .int (iI (ph)), .int (iI (mo)), .int (iI (gc)), .ref g2, .ref g3, .int (iI (2))])), (g1, .inl (cI, 16, .inl (aI P))), (g2, .inl (cI, 4, .inl (aI C))), (g3, .inl (cI, 7, .inl (aI wyI)))] H := hP
        have hD : va_D A [(g0, .inr (2, [.ref g1, .int (iI (tu)), .int (iI (ph)), .int (iI (mo)), .int (iI (gc)), .ref g2, .ref g3, .int (iI (2))])), (g1, .inl (cI, 16, .inl (aI P))), (g2, .inl (cI, 4, .inl (aI C))), (g3, .inl (cI, 7, .inl (aI wyI)))] := hD
        refine r_iconst hx hb dX2_threat_49 ?_
        refine lv_istore (lv' := [(4, .int (iI (0))), (0, .ref g0), (1, .int (iI (a))), (2, .int (iI (j))), (3, .int (iI (b)))]) hx hb dX2_threat_50 hl (by decide) rfl (fun ls hl => ?_)
        refine lv_aload_n hx hb dX2_threat_52 rfl (lv_at hl 1 rfl) ?_
        refine va_get (D := D) (ci := 2) (v := .int (iI (2))) (C := RX2) (T := TX2) (N := 8) hx hb hts mu_X2_threat_X2 hown hE.1 hP 0 rfl rfl 7 (by decide) (hts _ mw_X2_threat_0) (fun _ h9 => h9) rfl dX2_threat_53 ?_
        refine r_if_ne (tgt := 204) hx hb dX2_threat_56 (by decide) (by unfold rI; decide) (fun h56 => ?_) (fun h9 => absurd h9 (by omega))
        refine lv_iload hx hb dX2_threat_204 (lv_at hl 0 rfl) ?_
        exact hret (0) (2) _ _ _ _ dX2_threat_206 (by first | omega | (dsimp only; omega)) hP hD hS
    · refine r_if_ne (tgt := 23) hx hb dX2_threat_16 (by decide) (by unfold rI; decide) (fun h9 => absurd h9 (by omega)) (fun h16 => ?_)
      refine r_iconst hx hb dX2_threat_19 ?_
      refine lv_goto (tgt := 46) hx hb dX2_threat_20 (by decide) ?_
      refine va_put (D := D) (ci := 2) (v := .int (iI (1))) (ty := .int) (C := RX2) (T := TX2) (N := 8) hx hb hts mu_X2_threat_X2 tyX2 tyX2_ok nmX2 hown hE.1 hP hD hS 0 rfl rfl 7 (by decide) (hts _ mw_X2_threat_0) (fun _ h9 => h9) rfl (by decide +kernel) rfl rfl (Nat.le_of_ble_eq_true rfl) dX2_threat_46 (fun H locs hP hD hS => ?_)
      have hP : va_P D vwCl [(g0, .inr (2, [.ref g1, .int (iI (tu)), .int (iI (ph)), .int (iI (mo)), .int (iI (gc)), .ref g2, .ref g3, .int (iI (1))])), (g1, .inl (cI, 16, .inl (aI P))), (g2, .inl (cI, 4, .inl (aI C))), (g3, .inl (cI, 7, .inl (aI wyI)))] H := hP
      have hD : va_D A [(g0, .inr (2, [.ref g1, .int (iI (tu)), .int (iI (ph)), .int (iI (mo)), .int (iI (gc)), .ref g2, .ref g3, .int (iI (1))])), (g1, .inl (cI, 16, .inl (aI P))), (g2, .inl (cI, 4, .inl (aI C))), (g3, .inl (cI, 7, .inl (aI wyI)))] := hD
      refine r_iconst hx hb dX2_threat_49 ?_
      refine lv_istore (lv' := [(4, .int (iI (0))), (0, .ref g0), (1, .int (iI (a))), (2, .int (iI (j))), (3, .int (iI (b)))]) hx hb dX2_threat_50 hl (by decide) rfl (fun ls hl => ?_)
      refine lv_aload_n hx hb dX2_threat_52 rfl (lv_at hl 1 rfl) ?_
      refine va_get (D := D) (ci := 2) (v := .int (iI (1))) (C := RX2) (T := TX2) (N := 8) hx hb hts mu_X2_threat_X2 hown hE.1 hP 0 rfl rfl 7 (by decide) (hts _ mw_X2_threat_0) (fun _ h9 => h9) rfl dX2_threat_53 ?_
      refine r_if_ne (tgt := 204) hx hb dX2_threat_56 (by decide) (by unfold rI; decide) (fun h56 => ?_) (fun h9 => absurd h9 (by omega))
      refine lv_iload hx hb dX2_threat_204 (lv_at hl 0 rfl) ?_
      exact hret (0) (1) _ _ _ _ dX2_threat_206 (by first | omega | (dsimp only; omega)) hP hD hS
  · refine r_if_eq (tgt := 19) hx hb dX2_threat_7 (by decide) (by unfold rI; decide) (fun h7 => ?_) (fun h9 => absurd h9 (by omega))
    refine r_iconst hx hb dX2_threat_19 ?_
    refine lv_goto (tgt := 46) hx hb dX2_threat_20 (by decide) ?_
    refine va_put (D := D) (ci := 2) (v := .int (iI (1))) (ty := .int) (C := RX2) (T := TX2) (N := 8) hx hb hts mu_X2_threat_X2 tyX2 tyX2_ok nmX2 hown hE.1 hP hD hS 0 rfl rfl 7 (by decide) (hts _ mw_X2_threat_0) (fun _ h9 => h9) rfl (by decide +kernel) rfl rfl (Nat.le_of_ble_eq_true rfl) dX2_threat_46 (fun H locs hP hD hS => ?_)
    have hP : va_P D vwCl [(g0, .inr (2, [.ref g1, .int (iI (tu)), .int (iI (ph)), .int (iI (mo)), .int (iI (gc)), .ref g2, .ref g3, .int (iI (1))])), (g1, .inl (cI, 16, .inl (aI P))), (g2, .inl (cI, 4, .inl (aI C))), (g3, .inl (cI, 7, .inl (aI wyI)))] H := hP
    have hD : va_D A [(g0, .inr (2, [.ref g1, .int (iI (tu)), .int (iI (ph)), .int (iI (mo)), .int (iI (gc)), .ref g2, .ref g3, .int (iI (1))])), (g1, .inl (cI, 16, .inl (aI P))), (g2, .inl (cI, 4, .inl (aI C))), (g3, .inl (cI, 7, .inl (aI wyI)))] := hD
    refine r_iconst hx hb dX2_threat_49 ?_
    refine lv_istore (lv' := [(4, .int (iI (0))), (0, .ref g0), (1, .int (iI (a))), (2, .int (iI (j))), (3, .int (iI (b)))]) hx hb dX2_threat_50 hl (by decide) rfl (fun ls hl => ?_)
    refine lv_aload_n hx hb dX2_threat_52 rfl (lv_at hl 1 rfl) ?_
    refine va_get (D := D) (ci := 2) (v := .int (iI (1))) (C := RX2) (T := TX2) (N := 8) hx hb hts mu_X2_threat_X2 hown hE.1 hP 0 rfl rfl 7 (by decide) (hts _ mw_X2_threat_0) (fun _ h9 => h9) rfl dX2_threat_53 ?_
    refine r_if_ne (tgt := 204) hx hb dX2_threat_56 (by decide) (by unfold rI; decide) (fun h56 => ?_) (fun h9 => absurd h9 (by omega))
    refine lv_iload hx hb dX2_threat_204 (lv_at hl 0 rfl) ?_
    exact hret (0) (1) _ _ _ _ dX2_threat_206 (by first | omega | (dsimp only; omega)) hP hD hS

set_option maxRecDepth 20000 in
theorem mw_X2_captureChance_0 : (.fieldLink RX2 60 "PachisiYardModel" "phase" "I" : Cond) ∈ wsX2_captureChance := by decide +kernel
set_option maxRecDepth 20000 in
theorem mu_X2_captureChance_X2 : ∀ w ∈ wsX20, w ∈ wsX2_captureChance := by decide +kernel
set_option maxRecDepth 20000 in
theorem mw_X2_captureChance_2 : (.fieldLink RX2 19 "PachisiYardModel" "thrown" "I" : Cond) ∈ wsX2_captureChance := by decide +kernel
set_option maxRecDepth 20000 in
theorem mw_X2_captureChance_3 : (.fieldLink RX2 57 "PachisiYardModel" "graces" "I" : Cond) ∈ wsX2_captureChance := by decide +kernel
theorem f_X2_captureChance : yX2_captureChance.cls ≠ "java/lang/invoke/MethodHandle" ∧ yX2_captureChance.cls ≠ "java/lang/invoke/VarHandle" ∧ (parseMethodDescriptor yX2_captureChance.desc).map (fun d => d.parameters.length) = some 1 := by decide +kernel
set_option maxHeartbeats 4000000 in
set_option maxRecDepth 100000 in
theorem c_X2_captureChance (l : Launch) (D : va_G) (cI cL : ClassId) (tw : Nat) (g0 : Nat) (g1 : Nat) (g2 : Nat) (g3 : Nat) (tu : Int) (ph : Int) (mo : Int) (gc : Int) (th : Int) (P : Int → Int) (C : Int → Int) (n : Int) (hB : ∀ i, 0 ≤ P i ∧ P i ≤ 72) (htu : 0 ≤ tu ∧ tu ≤ 3) (hgc : 0 ≤ gc ∧ gc ≤ 2) (hph : 0 ≤ ph ∧ ph ≤ 2) (hmo : 0 ≤ mo ∧ mo ≤ 6) (h_n : -2147483648 ≤ n ∧ n < 2147483648) : RWi l yX2_captureChance wsX2_captureChance { frames := 9, cells := 0, slots := 0, locals := 226 } D cI cL tw [.ref g0, .int (iI (n))] [(g0, .inr (2, [.ref g1, .int (iI (tu)), .int (iI (ph)), .int (iI (mo)), .int (iI (gc)), .ref g2, .ref g3, .int (iI (th))])), (g1, .inl (cI, 16, .inl (aI P))), (g2, .inl (cI, 4, .inl (aI C))), (g3, .inl (cI, 7, .inl (aI wyI)))] (fun (z : Int) (u : Int) => (ph = 0 ∧ u = 0 ∧ (n = 1 ∧ z = ch tu 1 gc P ∨ n = 2 ∧ z = ch tu 2 gc P ∨ n = 3 ∧ z = ch tu 3 gc P)) ∨ (¬ (1 ≤ n ∧ n ≤ 3) ∧ u = 1 ∧ z = 0) ∨ (1 ≤ n ∧ n ≤ 3 ∧ ph ≠ 0 ∧ u = 2 ∧ z = 0)) (fun u : Int => [(g0, .inr (2, [.ref g1, .int (iI (tu)), .int (iI (ph)), .int (iI (mo)), .int (iI (gc)), .ref g2, .ref g3, .int (iI (u))])), (g1, .inl (cI, 16, .inl (aI P))), (g2, .inl (cI, 4, .inl (aI C))), (g3, .inl (cI, 7, .inl (aI wyI)))]) := by
  refine rwi_of (cc := cX2_captureChance) (maxL := 2) (rt := .int) (own := RX2) (by decide) rfl rfl (Or.inl rfl) (Nat.le_of_ble_eq_true rfl) ?_
  intro p e R s mt args below meth c H0 Q ls A S hR hE hP hD hS hA hl hret
  obtain ⟨hx, hb, hml, hown, hts⟩ := id S
  have hl : lv_has ls 2 [(0, .ref g0), (1, .int (iI (n)))] := hl
  refine lv_aload_n hx hb dX2_captureChance_0 rfl (lv_at hl 0 rfl) ?_
  refine lv_iload_n hx hb dX2_captureChance_1 rfl (lv_at hl 1 rfl) ?_
  refine r_iconst hx hb dX2_captureChance_2 ?_
  refine r_iconst hx hb dX2_captureChance_3 ?_
  refine r_callS (As := [.int (iI (n)), .int (iI (1)), .int (iI (3))]) (rest := [.ref g0]) S (c_X2_isIn l D cI cL tw (n) (1) (3) (by omega) (by omega) (by omega)) gX2_captureChance_X2_isIn rfl rfl rfl f_X2_isIn hR (Nat.le_of_ble_eq_true rfl) (Nat.le_of_ble_eq_true rfl) (hE.kept hS.2.1) rfl hl.1 rfl (Nat.le_of_ble_eq_true rfl) dX2_captureChance_4 ⟨Nat.zero_le _, Nat.zero_le _⟩ (fun z4 hz4 => ?_)
  rcases hz4 with ⟨rfl, hz4⟩ | ⟨rfl, hz4⟩
  · refine r_if_ne (tgt := 14) hx hb dX2_captureChance_7 (by decide) (by unfold rI; decide) (fun h7 => ?_) (fun h9 => absurd h9 (by omega))
    refine lv_aload_n hx hb dX2_captureChance_14 rfl (lv_at hl 0 rfl) ?_
    refine va_get (D := D) (ci := 2) (v := .int (iI (ph))) (C := RX2) (T := TX2) (N := 8) hx hb hts mu_X2_captureChance_X2 hown hE.1 hP 0 rfl rfl 2 (by decide) (hts _ mw_X2_captureChance_0) (fun _ h9 => h9) rfl dX2_captureChance_15 ?_
    refine r_if_eq (tgt := 25) hx hb dX2_captureChance_18 (by decide) (by unfold rI; omega) (fun h18 => ?_) (fun h18 => ?_)
    · refine r_iconst hx hb dX2_captureChance_25 ?_
      refine va_put (D := D) (ci := 2) (v := .int (iI (0))) (ty := .int) (C := RX2) (T := TX2) (N := 8) hx hb hts mu_X2_captureChance_X2 tyX2 tyX2_ok nmX2 hown hE.1 hP hD hS 0 rfl rfl 7 (by decide) (hts _ mw_X2_captureChance_2) (fun _ h9 => h9) rfl (by decide +kernel) rfl rfl (Nat.le_of_ble_eq_true rfl) dX2_captureChance_26 (fun H locs hP hD hS => ?_)
      have hP : va_P D vwCl [(g0, .inr (2, [.ref g1, .int (iI (tu)), .int (iI (ph)), .int (iI (mo)), .int (iI (gc)), .ref g2, .ref g3, .int (iI (0))])), (g1, .inl (cI, 16, .inl (aI P))), (g2, .inl (cI, 4, .inl (aI C))), (g3, .inl (cI, 7, .inl (aI wyI)))] H := hP
      have hD : va_D A [(g0, .inr (2, [.ref g1, .int (iI (tu)), .int (iI (ph)), .int (iI (mo)), .int (iI (gc)), .ref g2, .ref g3, .int (iI (0))])), (g1, .inl (cI, 16, .inl (aI P))), (g2, .inl (cI, 4, .inl (aI C))), (g3, .inl (cI, 7, .inl (aI wyI)))] := hD
      refine lv_aload_n hx hb dX2_captureChance_29 rfl (lv_at hl 0 rfl) ?_
      refine va_get (D := D) (ci := 2) (v := .int (iI (0))) (C := RX2) (T := TX2) (N := 8) hx hb hts mu_X2_captureChance_X2 hown hE.1 hP 0 rfl rfl 7 (by decide) (hts _ mw_X2_captureChance_2) (fun _ h9 => h9) rfl dX2_captureChance_30 ?_
      refine r_if_le (tgt := 38) hx hb dX2_captureChance_33 (by decide) (by unfold rI; decide) (fun h33 => ?_) (fun h9 => absurd h9 (by omega))
      refine lv_iload_n hx hb dX2_captureChance_38 rfl (lv_at hl 1 rfl) ?_
      refine r_iconst hx hb dX2_captureChance_39 ?_
      refine r_icmp_ne (tgt := 54) hx hb dX2_captureChance_40 (by decide) (by unfold rI; omega) (by unfold rI; decide) (fun h40 => ?_) (fun h40 => ?_)
      · refine lv_iload_n hx hb dX2_captureChance_54 rfl (lv_at hl 1 rfl) ?_
        refine r_iconst hx hb dX2_captureChance_55 ?_
        refine r_icmp_ne (tgt := 70) hx hb dX2_captureChance_56 (by decide) (by unfold rI; omega) (by unfold rI; decide) (fun h56 => ?_) (fun h56 => ?_)
        · refine lv_aload_n hx hb dX2_captureChance_70 rfl (lv_at hl 0 rfl) ?_
          refine lv_aload_n hx hb dX2_captureChance_71 rfl (lv_at hl 0 rfl) ?_
          refine va_get (D := D) (ci := 2) (v := .int (iI (gc))) (C := RX2) (T := TX2) (N := 8) hx hb hts mu_X2_captureChance_X2 hown hE.1 hP 0 rfl rfl 4 (by decide) (hts _ mw_X2_captureChance_3) (fun _ h9 => h9) rfl dX2_captureChance_72 ?_
          refine r_callVi (As := [.int (iI (gc))]) (rest := []) (wr := []) S (c_X2_chanceOfThree l D cI cL tw (g0) (g1) (g2) (g3) (tu) (ph) (mo) (gc) (0) (P) (C) (gc) (hB) (by omega) (by omega)) gX2_captureChance_X2_chanceOfThree rfl rfl rfl ⟨rfl, f_X2_chanceOfThree⟩ hR (Nat.le_of_ble_eq_true rfl) (Nat.le_of_ble_eq_true rfl) (hE.kept hS.2.1) hP hD hS hA [0, 1, 2, 3] [] rfl rfl (by decide) rfl (by decide) (by decide) 0 rfl rfl rfl hl.1 rfl (Nat.le_of_ble_eq_true rfl) dX2_captureChance_75 ⟨Nat.zero_le _, Nat.zero_le _⟩ (fun z75 u75 H locs hz75 hP hD hS => ?_)
          have hP : va_P D vwCl [(g0, .inr (2, [.ref g1, .int (iI (tu)), .int (iI (ph)), .int (iI (mo)), .int (iI (gc)), .ref g2, .ref g3, .int (iI (0))])), (g1, .inl (cI, 16, .inl (aI P))), (g2, .inl (cI, 4, .inl (aI C))), (g3, .inl (cI, 7, .inl (aI wyI)))] H := hP.sub [0, 1, 2, 3] rfl
          have hD : va_D A [(g0, .inr (2, [.ref g1, .int (iI (tu)), .int (iI (ph)), .int (iI (mo)), .int (iI (gc)), .ref g2, .ref g3, .int (iI (0))])), (g1, .inl (cI, 16, .inl (aI P))), (g2, .inl (cI, 4, .inl (aI C))), (g3, .inl (cI, 7, .inl (aI wyI)))] := hD.sub [0, 1, 2, 3] (by decide) rfl
          exact hret (z75) (0) _ _ _ _ dX2_captureChance_78 (by first | omega | (dsimp only; omega)) hP hD hS
        · refine lv_aload_n hx hb dX2_captureChance_59 rfl (lv_at hl 0 rfl) ?_
          refine lv_aload_n hx hb dX2_captureChance_60 rfl (lv_at hl 0 rfl) ?_
          refine va_get (D := D) (ci := 2) (v := .int (iI (gc))) (C := RX2) (T := TX2) (N := 8) hx hb hts mu_X2_captureChance_X2 hown hE.1 hP 0 rfl rfl 4 (by decide) (hts _ mw_X2_captureChance_3) (fun _ h9 => h9) rfl dX2_captureChance_61 ?_
          refine r_callVi (As := [.int (iI (gc))]) (rest := []) (wr := []) S (c_X2_chanceOfTwo l D cI cL tw (g0) (g1) (g2) (g3) (tu) (ph) (mo) (gc) (0) (P) (C) (gc) (hB) (by omega) (by omega)) gX2_captureChance_X2_chanceOfTwo rfl rfl rfl ⟨rfl, f_X2_chanceOfTwo⟩ hR (Nat.le_of_ble_eq_true rfl) (Nat.le_of_ble_eq_true rfl) (hE.kept hS.2.1) hP hD hS hA [0, 1, 2, 3] [] rfl rfl (by decide) rfl (by decide) (by decide) 0 rfl rfl rfl hl.1 rfl (Nat.le_of_ble_eq_true rfl) dX2_captureChance_64 ⟨Nat.zero_le _, Nat.zero_le _⟩ (fun z64 u64 H locs hz64 hP hD hS => ?_)
          have hP : va_P D vwCl [(g0, .inr (2, [.ref g1, .int (iI (tu)), .int (iI (ph)), .int (iI (mo)), .int (iI (gc)), .ref g2, .ref g3, .int (iI (0))])), (g1, .inl (cI, 16, .inl (aI P))), (g2, .inl (cI, 4, .inl (aI C))), (g3, .inl (cI, 7, .inl (aI wyI)))] H := hP.sub [0, 1, 2, 3] rfl
          have hD : va_D A [(g0, .inr (2, [.ref g1, .int (iI (tu)), .int (iI (ph)), .int (iI (mo)), .int (iI (gc)), .ref g2, .ref g3, .int (iI (0))])), (g1, .inl (cI, 16, .inl (aI P))), (g2, .inl (cI, 4, .inl (aI C))), (g3, .inl (cI, 7, .inl (aI wyI)))] := hD.sub [0, 1, 2, 3] (by decide) rfl
          refine lv_goto (tgt := 78) hx hb dX2_captureChance_67 (by decide) ?_
          exact hret (z64) (0) _ _ _ _ dX2_captureChance_78 (by first | omega | (dsimp only; omega)) hP hD hS
      · refine lv_aload_n hx hb dX2_captureChance_43 rfl (lv_at hl 0 rfl) ?_
        refine lv_aload_n hx hb dX2_captureChance_44 rfl (lv_at hl 0 rfl) ?_
        refine va_get (D := D) (ci := 2) (v := .int (iI (gc))) (C := RX2) (T := TX2) (N := 8) hx hb hts mu_X2_captureChance_X2 hown hE.1 hP 0 rfl rfl 4 (by decide) (hts _ mw_X2_captureChance_3) (fun _ h9 => h9) rfl dX2_captureChance_45 ?_
        refine r_callV (As := [.int (iI (gc))]) (rest := []) S (c_X2_chanceOfOne l D cI cL tw (g0) (g1) (g2) (g3) (tu) (ph) (mo) (gc) (0) (P) (C) (gc) (hB) (by omega) (by omega)) gX2_captureChance_X2_chanceOfOne rfl rfl rfl ⟨rfl, f_X2_chanceOfOne⟩ hR (Nat.le_of_ble_eq_true rfl) (Nat.le_of_ble_eq_true rfl) (hE.kept hS.2.1) hP [0, 1, 2, 3] rfl 0 rfl rfl rfl hl.1 rfl (Nat.le_of_ble_eq_true rfl) dX2_captureChance_48 ⟨Nat.zero_le _, Nat.zero_le _⟩ (fun z48 hz48 => ?_)
        refine lv_goto (tgt := 78) hx hb dX2_captureChance_51 (by decide) ?_
        exact hret (z48) (0) _ _ _ _ dX2_captureChance_78 (by first | omega | (dsimp only; omega)) hP hD hS
    · refine r_iconst hx hb dX2_captureChance_21 ?_
      refine lv_goto (tgt := 26) hx hb dX2_captureChance_22 (by decide) ?_
      refine va_put (D := D) (ci := 2) (v := .int (iI (2))) (ty := .int) (C := RX2) (T := TX2) (N := 8) hx hb hts mu_X2_captureChance_X2 tyX2 tyX2_ok nmX2 hown hE.1 hP hD hS 0 rfl rfl 7 (by decide) (hts _ mw_X2_captureChance_2) (fun _ h9 => h9) rfl (by decide +kernel) rfl rfl (Nat.le_of_ble_eq_true rfl) dX2_captureChance_26 (fun H locs hP hD hS => ?_)
      have hP : va_P D vwCl [(g0, .inr (2, [.ref g1, .int (iI (tu)), .int (iI (ph)), .int (iI (mo)), .int (iI (gc)), .ref g2, .ref g3, .int (iI (2))])), (g1, .inl (cI, 16, .inl (aI P))), (g2, .inl (cI, 4, .inl (aI C))), (g3, .inl (cI, 7, .inl (aI wyI)))] H := hP
      have hD : va_D A [(g0, .inr (2, [.ref g1, .int (iI (tu)), .int (iI (ph)), .int (iI (mo)), .int (iI (gc)), .ref g2, .ref g3, .int (iI (2))])), (g1, .inl (cI, 16, .inl (aI P))), (g2, .inl (cI, 4, .inl (aI C))), (g3, .inl (cI, 7, .inl (aI wyI)))] := hD
      refine lv_aload_n hx hb dX2_captureChance_29 rfl (lv_at hl 0 rfl) ?_
      refine va_get (D := D) (ci := 2) (v := .int (iI (2))) (C := RX2) (T := TX2) (N := 8) hx hb hts mu_X2_captureChance_X2 hown hE.1 hP 0 rfl rfl 7 (by decide) (hts _ mw_X2_captureChance_2) (fun _ h9 => h9) rfl dX2_captureChance_30 ?_
      refine r_if_le (tgt := 38) hx hb dX2_captureChance_33 (by decide) (by unfold rI; decide) (fun h9 => absurd h9 (by omega)) (fun h33 => ?_)
      refine r_iconst hx hb dX2_captureChance_36 ?_
      exact hret (0) (2) _ _ _ _ dX2_captureChance_37 (by first | omega | (dsimp only; omega)) hP hD hS
  · refine r_if_ne (tgt := 14) hx hb dX2_captureChance_7 (by decide) (by unfold rI; decide) (fun h9 => absurd h9 (by omega)) (fun h7 => ?_)
    refine r_iconst hx hb dX2_captureChance_10 ?_
    refine lv_goto (tgt := 26) hx hb dX2_captureChance_11 (by decide) ?_
    refine va_put (D := D) (ci := 2) (v := .int (iI (1))) (ty := .int) (C := RX2) (T := TX2) (N := 8) hx hb hts mu_X2_captureChance_X2 tyX2 tyX2_ok nmX2 hown hE.1 hP hD hS 0 rfl rfl 7 (by decide) (hts _ mw_X2_captureChance_2) (fun _ h9 => h9) rfl (by decide +kernel) rfl rfl (Nat.le_of_ble_eq_true rfl) dX2_captureChance_26 (fun H locs hP hD hS => ?_)
    have hP : va_P D vwCl [(g0, .inr (2, [.ref g1, .int (iI (tu)), .int (iI (ph)), .int (iI (mo)), .int (iI (gc)), .ref g2, .ref g3, .int (iI (1))])), (g1, .inl (cI, 16, .inl (aI P))), (g2, .inl (cI, 4, .inl (aI C))), (g3, .inl (cI, 7, .inl (aI wyI)))] H := hP
    have hD : va_D A [(g0, .inr (2, [.ref g1, .int (iI (tu)), .int (iI (ph)), .int (iI (mo)), .int (iI (gc)), .ref g2, .ref g3, .int (iI (1))])), (g1, .inl (cI, 16, .inl (aI P))), (g2, .inl (cI, 4, .inl (aI C))), (g3, .inl (cI, 7, .inl (aI wyI)))] := hD
    refine lv_aload_n hx hb dX2_captureChance_29 rfl (lv_at hl 0 rfl) ?_
    refine va_get (D := D) (ci := 2) (v := .int (iI (1))) (C := RX2) (T := TX2) (N := 8) hx hb hts mu_X2_captureChance_X2 hown hE.1 hP 0 rfl rfl 7 (by decide) (hts _ mw_X2_captureChance_2) (fun _ h9 => h9) rfl dX2_captureChance_30 ?_
    refine r_if_le (tgt := 38) hx hb dX2_captureChance_33 (by decide) (by unfold rI; decide) (fun h9 => absurd h9 (by omega)) (fun h33 => ?_)
    refine r_iconst hx hb dX2_captureChance_36 ?_
    exact hret (0) (1) _ _ _ _ dX2_captureChance_37 (by first | omega | (dsimp only; omega)) hP hD hS

set_option maxRecDepth 20000 in
theorem mw_X2_throwShells_0 : (.fieldLink RX2 60 "PachisiYardModel" "phase" "I" : Cond) ∈ wsX2_throwShells := by decide +kernel
set_option maxRecDepth 20000 in
theorem mu_X2_throwShells_X2 : ∀ w ∈ wsX20, w ∈ wsX2_throwShells := by decide +kernel
set_option maxRecDepth 20000 in
theorem mw_X2_throwShells_2 : (.fieldLink RX2 19 "PachisiYardModel" "thrown" "I" : Cond) ∈ wsX2_throwShells := by decide +kernel
set_option maxRecDepth 20000 in
theorem mw_X2_throwShells_3 : (.fieldLink RX2 57 "PachisiYardModel" "graces" "I" : Cond) ∈ wsX2_throwShells := by decide +kernel
set_option maxRecDepth 20000 in
theorem mw_X2_throwShells_4 : (.fieldLink RX2 54 "PachisiYardModel" "turn" "I" : Cond) ∈ wsX2_throwShells := by decide +kernel
set_option maxRecDepth 20000 in
theorem mw_X2_throwShells_5 : (.fieldLink RX2 73 "PachisiYardModel" "mouths" "I" : Cond) ∈ wsX2_throwShells := by decide +kernel
theorem f_X2_throwShells : yX2_throwShells.cls ≠ "java/lang/invoke/MethodHandle" ∧ yX2_throwShells.cls ≠ "java/lang/invoke/VarHandle" ∧ (parseMethodDescriptor yX2_throwShells.desc).map (fun d => d.parameters.length) = some 1 := by decide +kernel
set_option maxHeartbeats 4000000 in
set_option maxRecDepth 100000 in
theorem c_X2_throwShells (l : Launch) (D : va_G) (cI cL : ClassId) (tw : Nat) (g0 : Nat) (g1 : Nat) (g2 : Nat) (g3 : Nat) (tu : Int) (ph : Int) (mo : Int) (gc : Int) (th : Int) (P : Int → Int) (C : Int → Int) (m : Int) (hB : ∀ i, 0 ≤ P i ∧ P i ≤ 72) (htu : 0 ≤ tu ∧ tu ≤ 3) (hgc : 0 ≤ gc ∧ gc ≤ 2) (hph : 0 ≤ ph ∧ ph ≤ 2) (hmo : 0 ≤ mo ∧ mo ≤ 6) (h_m : -2147483648 ≤ m ∧ m < 2147483648) : RWi l yX2_throwShells wsX2_throwShells { frames := 4, cells := 0, slots := 0, locals := 99 } D cI cL tw [.ref g0, .int (iI (m))] [(g0, .inr (2, [.ref g1, .int (iI (tu)), .int (iI (ph)), .int (iI (mo)), .int (iI (gc)), .ref g2, .ref g3, .int (iI (th))])), (g1, .inl (cI, 16, .inl (aI P))), (g2, .inl (cI, 4, .inl (aI C))), (g3, .inl (cI, 7, .inl (aI wyI)))] (fun (z : Int) (u : Int × Int × Int × Int × Int) => (0 ≤ m ∧ m ≤ 6 ∧ ph = 0 ∧ u.1 = 0 ∧ tsR P tu gc mo m z u.2.1 u.2.2.1 u.2.2.2.1 u.2.2.2.2) ∨ (¬ (0 ≤ m ∧ m ≤ 6) ∧ u.1 = 1 ∧ z = 0 ∧ u.2.1 = tu ∧ u.2.2.1 = gc ∧ u.2.2.2.1 = ph ∧ u.2.2.2.2 = mo) ∨ (0 ≤ m ∧ m ≤ 6 ∧ ph ≠ 0 ∧ u.1 = 2 ∧ z = 0 ∧ u.2.1 = tu ∧ u.2.2.1 = gc ∧ u.2.2.2.1 = ph ∧ u.2.2.2.2 = mo)) (fun u : Int × Int × Int × Int × Int => [(g0, .inr (2, [.ref g1, .int (iI (u.2.1)), .int (iI (u.2.2.2.1)), .int (iI (u.2.2.2.2)), .int (iI (u.2.2.1)), .ref g2, .ref g3, .int (iI (u.1))])), (g1, .inl (cI, 16, .inl (aI P))), (g2, .inl (cI, 4, .inl (aI C))), (g3, .inl (cI, 7, .inl (aI wyI)))]) := by
  refine rwi_of (cc := cX2_throwShells) (maxL := 3) (rt := .int) (own := RX2) (by decide) rfl rfl (Or.inl rfl) (Nat.le_of_ble_eq_true rfl) ?_
  intro p e R s mt args below meth c H0 Q ls A S hR hE hP hD hS hA hl hret
  obtain ⟨hx, hb, hml, hown, hts⟩ := id S
  have hl : lv_has ls 3 [(0, .ref g0), (1, .int (iI (m)))] := hl
  refine lv_aload_n hx hb dX2_throwShells_0 rfl (lv_at hl 0 rfl) ?_
  refine lv_iload_n hx hb dX2_throwShells_1 rfl (lv_at hl 1 rfl) ?_
  refine r_iconst hx hb dX2_throwShells_2 ?_
  refine r_bipush hx hb dX2_throwShells_3 (by decide) ?_
  refine r_callS (As := [.int (iI (m)), .int (iI (0)), .int (iI (6))]) (rest := [.ref g0]) S (c_X2_isIn l D cI cL tw (m) (0) (6) (by omega) (by omega) (by omega)) gX2_throwShells_X2_isIn rfl rfl rfl f_X2_isIn hR (Nat.le_of_ble_eq_true rfl) (Nat.le_of_ble_eq_true rfl) (hE.kept hS.2.1) rfl hl.1 rfl (Nat.le_of_ble_eq_true rfl) dX2_throwShells_5 ⟨Nat.zero_le _, Nat.zero_le _⟩ (fun z5 hz5 => ?_)
  rcases hz5 with ⟨rfl, hz5⟩ | ⟨rfl, hz5⟩
  · refine r_if_ne (tgt := 15) hx hb dX2_throwShells_8 (by decide) (by unfold rI; decide) (fun h8 => ?_) (fun h9 => absurd h9 (by omega))
    refine lv_aload_n hx hb dX2_throwShells_15 rfl (lv_at hl 0 rfl) ?_
    refine va_get (D := D) (ci := 2) (v := .int (iI (ph))) (C := RX2) (T := TX2) (N := 8) hx hb hts mu_X2_throwShells_X2 hown hE.1 hP 0 rfl rfl 2 (by decide) (hts _ mw_X2_throwShells_0) (fun _ h9 => h9) rfl dX2_throwShells_16 ?_
    refine r_if_eq (tgt := 26) hx hb dX2_throwShells_19 (by decide) (by unfold rI; omega) (fun h19 => ?_) (fun h19 => ?_)
    · refine r_iconst hx hb dX2_throwShells_26 ?_
      refine va_put (D := D) (ci := 2) (v := .int (iI (0))) (ty := .int) (C := RX2) (T := TX2) (N := 8) hx hb hts mu_X2_throwShells_X2 tyX2 tyX2_ok nmX2 hown hE.1 hP hD hS 0 rfl rfl 7 (by decide) (hts _ mw_X2_throwShells_2) (fun _ h9 => h9) rfl (by decide +kernel) rfl rfl (Nat.le_of_ble_eq_true rfl) dX2_throwShells_27 (fun H locs hP hD hS => ?_)
      have hP : va_P D vwCl [(g0, .inr (2, [.ref g1, .int (iI (tu)), .int (iI (ph)), .int (iI (mo)), .int (iI (gc)), .ref g2, .ref g3, .int (iI (0))])), (g1, .inl (cI, 16, .inl (aI P))), (g2, .inl (cI, 4, .inl (aI C))), (g3, .inl (cI, 7, .inl (aI wyI)))] H := hP
      have hD : va_D A [(g0, .inr (2, [.ref g1, .int (iI (tu)), .int (iI (ph)), .int (iI (mo)), .int (iI (gc)), .ref g2, .ref g3, .int (iI (0))])), (g1, .inl (cI, 16, .inl (aI P))), (g2, .inl (cI, 4, .inl (aI C))), (g3, .inl (cI, 7, .inl (aI wyI)))] := hD
      refine lv_aload_n hx hb dX2_throwShells_30 rfl (lv_at hl 0 rfl) ?_
      refine va_get (D := D) (ci := 2) (v := .int (iI (0))) (C := RX2) (T := TX2) (N := 8) hx hb hts mu_X2_throwShells_X2 hown hE.1 hP 0 rfl rfl 7 (by decide) (hts _ mw_X2_throwShells_2) (fun _ h9 => h9) rfl dX2_throwShells_31 ?_
      refine r_if_le (tgt := 39) hx hb dX2_throwShells_34 (by decide) (by unfold rI; decide) (fun h34 => ?_) (fun h9 => absurd h9 (by omega))
      refine lv_iload_n hx hb dX2_throwShells_39 rfl (lv_at hl 1 rfl) ?_
      refine r_callS (As := [.int (iI (m))]) (rest := []) S (c_X2_isGrace l D cI cL tw (m) (by omega)) gX2_throwShells_X2_isGrace rfl rfl rfl f_X2_isGrace hR (Nat.le_of_ble_eq_true rfl) (Nat.le_of_ble_eq_true rfl) (hE.kept hS.2.1) rfl hl.1 rfl (Nat.le_of_ble_eq_true rfl) dX2_throwShells_40 ⟨Nat.zero_le _, Nat.zero_le _⟩ (fun z40 hz40 => ?_)
      rcases hz40 with ⟨rfl, hz40⟩ | ⟨rfl, hz40⟩
      · refine lv_istore_n (lv' := [(2, .int (iI (1))), (0, .ref g0), (1, .int (iI (m)))]) hx hb dX2_throwShells_43 rfl hl (by decide) rfl (fun ls hl => ?_)
        refine lv_iload_n hx hb dX2_throwShells_44 rfl (lv_at hl 0 rfl) ?_
        refine r_if_eq (tgt := 66) hx hb dX2_throwShells_45 (by decide) (by unfold rI; decide) (fun h9 => absurd h9 (by omega)) (fun h45 => ?_)
        refine lv_aload_n hx hb dX2_throwShells_48 rfl (lv_at hl 1 rfl) ?_
        refine va_get (D := D) (ci := 2) (v := .int (iI (gc))) (C := RX2) (T := TX2) (N := 8) hx hb hts mu_X2_throwShells_X2 hown hE.1 hP 0 rfl rfl 4 (by decide) (hts _ mw_X2_throwShells_3) (fun _ h9 => h9) rfl dX2_throwShells_49 ?_
        refine r_iconst hx hb dX2_throwShells_52 ?_
        refine r_icmp_ne (tgt := 66) hx hb dX2_throwShells_53 (by decide) (by unfold rI; omega) (by unfold rI; decide) (fun h53 => ?_) (fun h53 => ?_)
        · refine lv_aload_n hx hb dX2_throwShells_66 rfl (lv_at hl 1 rfl) ?_
          refine lv_iload_n hx hb dX2_throwShells_67 rfl (lv_at hl 0 rfl) ?_
          refine r_if_eq (tgt := 80) hx hb dX2_throwShells_68 (by decide) (by unfold rI; decide) (fun h9 => absurd h9 (by omega)) (fun h68 => ?_)
          refine lv_aload_n hx hb dX2_throwShells_71 rfl (lv_at hl 1 rfl) ?_
          refine va_get (D := D) (ci := 2) (v := .int (iI (gc))) (C := RX2) (T := TX2) (N := 8) hx hb hts mu_X2_throwShells_X2 hown hE.1 hP 0 rfl rfl 4 (by decide) (hts _ mw_X2_throwShells_3) (fun _ h9 => h9) rfl dX2_throwShells_72 ?_
          refine r_iconst hx hb dX2_throwShells_75 ?_
          refine r_iadd hx hb dX2_throwShells_76 ?_
          refine lv_goto (tgt := 81) hx hb dX2_throwShells_77 (by decide) ?_
          refine va_put (D := D) (ci := 2) (v := .int (iI ((gc) + (1)))) (ty := .int) (C := RX2) (T := TX2) (N := 8) hx hb hts mu_X2_throwShells_X2 tyX2 tyX2_ok nmX2 hown hE.1 hP hD hS 0 rfl rfl 4 (by decide) (hts _ mw_X2_throwShells_3) (fun _ h9 => h9) rfl (by decide +kernel) rfl rfl (Nat.le_of_ble_eq_true rfl) dX2_throwShells_81 (fun H locs hP hD hS => ?_)
          have hP : va_P D vwCl [(g0, .inr (2, [.ref g1, .int (iI (tu)), .int (iI (ph)), .int (iI (mo)), .int (iI ((gc) + (1))), .ref g2, .ref g3, .int (iI (0))])), (g1, .inl (cI, 16, .inl (aI P))), (g2, .inl (cI, 4, .inl (aI C))), (g3, .inl (cI, 7, .inl (aI wyI)))] H := hP
          have hD : va_D A [(g0, .inr (2, [.ref g1, .int (iI (tu)), .int (iI (ph)), .int (iI (mo)), .int (iI ((gc) + (1))), .ref g2, .ref g3, .int (iI (0))])), (g1, .inl (cI, 16, .inl (aI P))), (g2, .inl (cI, 4, .inl (aI C))), (g3, .inl (cI, 7, .inl (aI wyI)))] := hD
          refine lv_aload_n hx hb dX2_throwShells_84 rfl (lv_at hl 1 rfl) ?_
          refine lv_aload_n hx hb dX2_throwShells_85 rfl (lv_at hl 1 rfl) ?_
          refine lv_aload_n hx hb dX2_throwShells_86 rfl (lv_at hl 1 rfl) ?_
          refine va_get (D := D) (ci := 2) (v := .int (iI (tu))) (C := RX2) (T := TX2) (N := 8) hx hb hts mu_X2_throwShells_X2 hown hE.1 hP 0 rfl rfl 1 (by decide) (hts _ mw_X2_throwShells_4) (fun _ h9 => h9) rfl dX2_throwShells_87 ?_
          refine r_callV (As := [.int (iI (tu))]) (rest := [.ref g0]) S (c_X2_movesFor l D cI cL tw (g0) (g1) (g2) (g3) (tu) (ph) (mo) ((gc) + (1)) (0) (P) (C) (tu) (hB) (by omega)) gX2_throwShells_X2_movesFor rfl rfl rfl ⟨rfl, f_X2_movesFor⟩ hR (Nat.le_of_ble_eq_true rfl) (Nat.le_of_ble_eq_true rfl) (hE.kept hS.2.1) hP [0, 1, 2, 3] rfl 0 rfl rfl rfl hl.1 rfl (Nat.le_of_ble_eq_true rfl) dX2_throwShells_90 ⟨Nat.zero_le _, Nat.zero_le _⟩ (fun z90 hz90 => ?_)
          obtain ⟨hz90, rz90⟩ := hz90
          refine lv_iload_n hx hb dX2_throwShells_93 rfl (lv_at hl 2 rfl) ?_
          refine r_iconst hx hb dX2_throwShells_94 ?_
          refine r_callV (As := [.int (iI (z90)), .int (iI (m)), .int (iI (1))]) (rest := []) S (c_X2_movers l D cI cL tw (g0) (g1) (g2) (g3) (tu) (ph) (mo) ((gc) + (1)) (0) (P) (C) (z90) (m) (1) (hB) (by omega) (by omega) (by omega)) gX2_throwShells_X2_movers rfl rfl rfl ⟨rfl, f_X2_movers⟩ hR (Nat.le_of_ble_eq_true rfl) (Nat.le_of_ble_eq_true rfl) (hE.kept hS.2.1) hP [0, 1, 2, 3] rfl 0 rfl rfl rfl hl.1 rfl (Nat.le_of_ble_eq_true rfl) dX2_throwShells_95 ⟨Nat.zero_le _, Nat.zero_le _⟩ (fun z95 hz95 => ?_)
          obtain ⟨hz95, rz95⟩ := hz95
          refine r_if_ne (tgt := 115) hx hb dX2_throwShells_98 (by decide) (by unfold rI; omega) (fun h98 => ?_) (fun h98 => ?_)
          · refine lv_aload_n hx hb dX2_throwShells_115 rfl (lv_at hl 1 rfl) ?_
            refine lv_iload_n hx hb dX2_throwShells_116 rfl (lv_at hl 2 rfl) ?_
            refine va_put (D := D) (ci := 2) (v := .int (iI (m))) (ty := .int) (C := RX2) (T := TX2) (N := 8) hx hb hts mu_X2_throwShells_X2 tyX2 tyX2_ok nmX2 hown hE.1 hP hD hS 0 rfl rfl 3 (by decide) (hts _ mw_X2_throwShells_5) (fun _ h9 => h9) rfl (by decide +kernel) rfl rfl (Nat.le_of_ble_eq_true rfl) dX2_throwShells_117 (fun H locs hP hD hS => ?_)
            have hP : va_P D vwCl [(g0, .inr (2, [.ref g1, .int (iI (tu)), .int (iI (ph)), .int (iI (m)), .int (iI ((gc) + (1))), .ref g2, .ref g3, .int (iI (0))])), (g1, .inl (cI, 16, .inl (aI P))), (g2, .inl (cI, 4, .inl (aI C))), (g3, .inl (cI, 7, .inl (aI wyI)))] H := hP
            have hD : va_D A [(g0, .inr (2, [.ref g1, .int (iI (tu)), .int (iI (ph)), .int (iI (m)), .int (iI ((gc) + (1))), .ref g2, .ref g3, .int (iI (0))])), (g1, .inl (cI, 16, .inl (aI P))), (g2, .inl (cI, 4, .inl (aI C))), (g3, .inl (cI, 7, .inl (aI wyI)))] := hD
            refine lv_aload_n hx hb dX2_throwShells_120 rfl (lv_at hl 1 rfl) ?_
            refine r_iconst hx hb dX2_throwShells_121 ?_
            refine va_put (D := D) (ci := 2) (v := .int (iI (1))) (ty := .int) (C := RX2) (T := TX2) (N := 8) hx hb hts mu_X2_throwShells_X2 tyX2 tyX2_ok nmX2 hown hE.1 hP hD hS 0 rfl rfl 2 (by decide) (hts _ mw_X2_throwShells_0) (fun _ h9 => h9) rfl (by decide +kernel) rfl rfl (Nat.le_of_ble_eq_true rfl) dX2_throwShells_122 (fun H locs hP hD hS => ?_)
            have hP : va_P D vwCl [(g0, .inr (2, [.ref g1, .int (iI (tu)), .int (iI (1)), .int (iI (m)), .int (iI ((gc) + (1))), .ref g2, .ref g3, .int (iI (0))])), (g1, .inl (cI, 16, .inl (aI P))), (g2, .inl (cI, 4, .inl (aI C))), (g3, .inl (cI, 7, .inl (aI wyI)))] H := hP
            have hD : va_D A [(g0, .inr (2, [.ref g1, .int (iI (tu)), .int (iI (1)), .int (iI (m)), .int (iI ((gc) + (1))), .ref g2, .ref g3, .int (iI (0))])), (g1, .inl (cI, 16, .inl (aI P))), (g2, .inl (cI, 4, .inl (aI C))), (g3, .inl (cI, 7, .inl (aI wyI)))] := hD
            refine lv_iload_n hx hb dX2_throwShells_125 rfl (lv_at hl 2 rfl) ?_
            refine r_callS (As := [.int (iI (m))]) (rest := []) S (c_X2_worth l D cI cL tw (m) (by omega)) gX2_throwShells_X2_worth rfl rfl rfl f_X2_worth hR (Nat.le_of_ble_eq_true rfl) (Nat.le_of_ble_eq_true rfl) (hE.kept hS.2.1) rfl hl.1 rfl (Nat.le_of_ble_eq_true rfl) dX2_throwShells_126 ⟨Nat.zero_le _, Nat.zero_le _⟩ (fun z126 hz126 => ?_)
            obtain ⟨hz126, rz126⟩ := hz126
            exact hret (z126) (0, tu, (gc) + (1), 1, m) _ _ _ _ dX2_throwShells_129 (by (try dsimp only); refine Or.inl ⟨by omega, by omega, by omega, rfl, ?_⟩; unfold tsR; exact Or.inr (Or.inr ⟨by omega, by rw [← hz90, ← hz95]; omega, by omega, rfl, Or.inl ⟨by omega, rfl⟩, rfl, rfl⟩)) hP hD hS
          · refine lv_iload_n hx hb dX2_throwShells_101 rfl (lv_at hl 0 rfl) ?_
            refine r_if_ne (tgt := 109) hx hb dX2_throwShells_102 (by decide) (by unfold rI; decide) (fun h102 => ?_) (fun h9 => absurd h9 (by omega))
            refine lv_iload_n hx hb dX2_throwShells_109 rfl (lv_at hl 2 rfl) ?_
            refine r_callS (As := [.int (iI (m))]) (rest := []) S (c_X2_worth l D cI cL tw (m) (by omega)) gX2_throwShells_X2_worth rfl rfl rfl f_X2_worth hR (Nat.le_of_ble_eq_true rfl) (Nat.le_of_ble_eq_true rfl) (hE.kept hS.2.1) rfl hl.1 rfl (Nat.le_of_ble_eq_true rfl) dX2_throwShells_110 ⟨Nat.zero_le _, Nat.zero_le _⟩ (fun z110 hz110 => ?_)
            obtain ⟨hz110, rz110⟩ := hz110
            refine r_ineg hx hb dX2_throwShells_113 ?_
            exact hret (-(z110)) (0, tu, (gc) + (1), ph, mo) _ _ _ _ dX2_throwShells_114 (by (try dsimp only); refine Or.inl ⟨by omega, by omega, by omega, rfl, ?_⟩; unfold tsR; exact Or.inr (Or.inl ⟨by omega, by rw [← hz90, ← hz95]; omega, by omega, Or.inl ⟨by omega, rfl, rfl⟩, by omega, rfl⟩)) hP hD hS
        · refine lv_aload_n hx hb dX2_throwShells_56 rfl (lv_at hl 1 rfl) ?_
          refine r_callVv (As := []) (rest := []) (wr := []) S (c_X2_next l D cI cL tw (g0) (g1) (g2) (g3) (tu) (ph) (mo) (gc) (0) (P) (C) (hB) (by omega)) gX2_throwShells_X2_next rfl rfl rfl ⟨rfl, f_X2_next⟩ hR (Nat.le_of_ble_eq_true rfl) (Nat.le_of_ble_eq_true rfl) (hE.kept hS.2.1) hP hD hS hA [0, 1, 2, 3] [] rfl rfl (by decide) rfl (by decide) (by decide) 0 rfl rfl rfl hl.1 rfl (Nat.le_of_ble_eq_true rfl) dX2_throwShells_57 ⟨Nat.zero_le _, Nat.zero_le _⟩ (fun u57 H locs hz57 hP hD hS => ?_)
          have hP : va_P D vwCl [(g0, .inr (2, [.ref g1, .int (iI ((tu + 1) % 4)), .int (iI (ph)), .int (iI (mo)), .int (iI (0)), .ref g2, .ref g3, .int (iI (0))])), (g1, .inl (cI, 16, .inl (aI P))), (g2, .inl (cI, 4, .inl (aI C))), (g3, .inl (cI, 7, .inl (aI wyI)))] H := hP.sub [0, 1, 2, 3] rfl
          have hD : va_D A [(g0, .inr (2, [.ref g1, .int (iI ((tu + 1) % 4)), .int (iI (ph)), .int (iI (mo)), .int (iI (0)), .ref g2, .ref g3, .int (iI (0))])), (g1, .inl (cI, 16, .inl (aI P))), (g2, .inl (cI, 4, .inl (aI C))), (g3, .inl (cI, 7, .inl (aI wyI)))] := hD.sub [0, 1, 2, 3] (by decide) rfl
          refine lv_iload_n hx hb dX2_throwShells_60 rfl (lv_at hl 2 rfl) ?_
          refine r_callS (As := [.int (iI (m))]) (rest := []) S (c_X2_worth l D cI cL tw (m) (by omega)) gX2_throwShells_X2_worth rfl rfl rfl f_X2_worth hR (Nat.le_of_ble_eq_true rfl) (Nat.le_of_ble_eq_true rfl) (hE.kept hS.2.1) rfl hl.1 rfl (Nat.le_of_ble_eq_true rfl) dX2_throwShells_61 ⟨Nat.zero_le _, Nat.zero_le _⟩ (fun z61 hz61 => ?_)
          obtain ⟨hz61, rz61⟩ := hz61
          refine r_ineg hx hb dX2_throwShells_64 ?_
          exact hret (-(z61)) (0, (tu + 1) % 4, 0, ph, mo) _ _ _ _ dX2_throwShells_65 (by (try dsimp only); refine Or.inl ⟨by omega, by omega, by omega, rfl, ?_⟩; unfold tsR; exact Or.inl ⟨by omega, by omega, by omega, rfl, rfl, by omega, rfl⟩) hP hD hS
      · refine lv_istore_n (lv' := [(2, .int (iI (0))), (0, .ref g0), (1, .int (iI (m)))]) hx hb dX2_throwShells_43 rfl hl (by decide) rfl (fun ls hl => ?_)
        refine lv_iload_n hx hb dX2_throwShells_44 rfl (lv_at hl 0 rfl) ?_
        refine r_if_eq (tgt := 66) hx hb dX2_throwShells_45 (by decide) (by unfold rI; decide) (fun h45 => ?_) (fun h9 => absurd h9 (by omega))
        refine lv_aload_n hx hb dX2_throwShells_66 rfl (lv_at hl 1 rfl) ?_
        refine lv_iload_n hx hb dX2_throwShells_67 rfl (lv_at hl 0 rfl) ?_
        refine r_if_eq (tgt := 80) hx hb dX2_throwShells_68 (by decide) (by unfold rI; decide) (fun h68 => ?_) (fun h9 => absurd h9 (by omega))
        refine r_iconst hx hb dX2_throwShells_80 ?_
        refine va_put (D := D) (ci := 2) (v := .int (iI (0))) (ty := .int) (C := RX2) (T := TX2) (N := 8) hx hb hts mu_X2_throwShells_X2 tyX2 tyX2_ok nmX2 hown hE.1 hP hD hS 0 rfl rfl 4 (by decide) (hts _ mw_X2_throwShells_3) (fun _ h9 => h9) rfl (by decide +kernel) rfl rfl (Nat.le_of_ble_eq_true rfl) dX2_throwShells_81 (fun H locs hP hD hS => ?_)
        have hP : va_P D vwCl [(g0, .inr (2, [.ref g1, .int (iI (tu)), .int (iI (ph)), .int (iI (mo)), .int (iI (0)), .ref g2, .ref g3, .int (iI (0))])), (g1, .inl (cI, 16, .inl (aI P))), (g2, .inl (cI, 4, .inl (aI C))), (g3, .inl (cI, 7, .inl (aI wyI)))] H := hP
        have hD : va_D A [(g0, .inr (2, [.ref g1, .int (iI (tu)), .int (iI (ph)), .int (iI (mo)), .int (iI (0)), .ref g2, .ref g3, .int (iI (0))])), (g1, .inl (cI, 16, .inl (aI P))), (g2, .inl (cI, 4, .inl (aI C))), (g3, .inl (cI, 7, .inl (aI wyI)))] := hD
        refine lv_aload_n hx hb dX2_throwShells_84 rfl (lv_at hl 1 rfl) ?_
        refine lv_aload_n hx hb dX2_throwShells_85 rfl (lv_at hl 1 rfl) ?_
        refine lv_aload_n hx hb dX2_throwShells_86 rfl (lv_at hl 1 rfl) ?_
        refine va_get (D := D) (ci := 2) (v := .int (iI (tu))) (C := RX2) (T := TX2) (N := 8) hx hb hts mu_X2_throwShells_X2 hown hE.1 hP 0 rfl rfl 1 (by decide) (hts _ mw_X2_throwShells_4) (fun _ h9 => h9) rfl dX2_throwShells_87 ?_
        refine r_callV (As := [.int (iI (tu))]) (rest := [.ref g0]) S (c_X2_movesFor l D cI cL tw (g0) (g1) (g2) (g3) (tu) (ph) (mo) (0) (0) (P) (C) (tu) (hB) (by omega)) gX2_throwShells_X2_movesFor rfl rfl rfl ⟨rfl, f_X2_movesFor⟩ hR (Nat.le_of_ble_eq_true rfl) (Nat.le_of_ble_eq_true rfl) (hE.kept hS.2.1) hP [0, 1, 2, 3] rfl 0 rfl rfl rfl hl.1 rfl (Nat.le_of_ble_eq_true rfl) dX2_throwShells_90 ⟨Nat.zero_le _, Nat.zero_le _⟩ (fun z90 hz90 => ?_)
        obtain ⟨hz90, rz90⟩ := hz90
        refine lv_iload_n hx hb dX2_throwShells_93 rfl (lv_at hl 2 rfl) ?_
        refine r_iconst hx hb dX2_throwShells_94 ?_
        refine r_callV (As := [.int (iI (z90)), .int (iI (m)), .int (iI (1))]) (rest := []) S (c_X2_movers l D cI cL tw (g0) (g1) (g2) (g3) (tu) (ph) (mo) (0) (0) (P) (C) (z90) (m) (1) (hB) (by omega) (by omega) (by omega)) gX2_throwShells_X2_movers rfl rfl rfl ⟨rfl, f_X2_movers⟩ hR (Nat.le_of_ble_eq_true rfl) (Nat.le_of_ble_eq_true rfl) (hE.kept hS.2.1) hP [0, 1, 2, 3] rfl 0 rfl rfl rfl hl.1 rfl (Nat.le_of_ble_eq_true rfl) dX2_throwShells_95 ⟨Nat.zero_le _, Nat.zero_le _⟩ (fun z95 hz95 => ?_)
        obtain ⟨hz95, rz95⟩ := hz95
        refine r_if_ne (tgt := 115) hx hb dX2_throwShells_98 (by decide) (by unfold rI; omega) (fun h98 => ?_) (fun h98 => ?_)
        · refine lv_aload_n hx hb dX2_throwShells_115 rfl (lv_at hl 1 rfl) ?_
          refine lv_iload_n hx hb dX2_throwShells_116 rfl (lv_at hl 2 rfl) ?_
          refine va_put (D := D) (ci := 2) (v := .int (iI (m))) (ty := .int) (C := RX2) (T := TX2) (N := 8) hx hb hts mu_X2_throwShells_X2 tyX2 tyX2_ok nmX2 hown hE.1 hP hD hS 0 rfl rfl 3 (by decide) (hts _ mw_X2_throwShells_5) (fun _ h9 => h9) rfl (by decide +kernel) rfl rfl (Nat.le_of_ble_eq_true rfl) dX2_throwShells_117 (fun H locs hP hD hS => ?_)
          have hP : va_P D vwCl [(g0, .inr (2, [.ref g1, .int (iI (tu)), .int (iI (ph)), .int (iI (m)), .int (iI (0)), .ref g2, .ref g3, .int (iI (0))])), (g1, .inl (cI, 16, .inl (aI P))), (g2, .inl (cI, 4, .inl (aI C))), (g3, .inl (cI, 7, .inl (aI wyI)))] H := hP
          have hD : va_D A [(g0, .inr (2, [.ref g1, .int (iI (tu)), .int (iI (ph)), .int (iI (m)), .int (iI (0)), .ref g2, .ref g3, .int (iI (0))])), (g1, .inl (cI, 16, .inl (aI P))), (g2, .inl (cI, 4, .inl (aI C))), (g3, .inl (cI, 7, .inl (aI wyI)))] := hD
          refine lv_aload_n hx hb dX2_throwShells_120 rfl (lv_at hl 1 rfl) ?_
          refine r_iconst hx hb dX2_throwShells_121 ?_
          refine va_put (D := D) (ci := 2) (v := .int (iI (1))) (ty := .int) (C := RX2) (T := TX2) (N := 8) hx hb hts mu_X2_throwShells_X2 tyX2 tyX2_ok nmX2 hown hE.1 hP hD hS 0 rfl rfl 2 (by decide) (hts _ mw_X2_throwShells_0) (fun _ h9 => h9) rfl (by decide +kernel) rfl rfl (Nat.le_of_ble_eq_true rfl) dX2_throwShells_122 (fun H locs hP hD hS => ?_)
          have hP : va_P D vwCl [(g0, .inr (2, [.ref g1, .int (iI (tu)), .int (iI (1)), .int (iI (m)), .int (iI (0)), .ref g2, .ref g3, .int (iI (0))])), (g1, .inl (cI, 16, .inl (aI P))), (g2, .inl (cI, 4, .inl (aI C))), (g3, .inl (cI, 7, .inl (aI wyI)))] H := hP
          have hD : va_D A [(g0, .inr (2, [.ref g1, .int (iI (tu)), .int (iI (1)), .int (iI (m)), .int (iI (0)), .ref g2, .ref g3, .int (iI (0))])), (g1, .inl (cI, 16, .inl (aI P))), (g2, .inl (cI, 4, .inl (aI C))), (g3, .inl (cI, 7, .inl (aI wyI)))] := hD
          refine lv_iload_n hx hb dX2_throwShells_125 rfl (lv_at hl 2 rfl) ?_
          refine r_callS (As := [.int (iI (m))]) (rest := []) S (c_X2_worth l D cI cL tw (m) (by omega)) gX2_throwShells_X2_worth rfl rfl rfl f_X2_worth hR (Nat.le_of_ble_eq_true rfl) (Nat.le_of_ble_eq_true rfl) (hE.kept hS.2.1) rfl hl.1 rfl (Nat.le_of_ble_eq_true rfl) dX2_throwShells_126 ⟨Nat.zero_le _, Nat.zero_le _⟩ (fun z126 hz126 => ?_)
          obtain ⟨hz126, rz126⟩ := hz126
          exact hret (z126) (0, tu, 0, 1, m) _ _ _ _ dX2_throwShells_129 (by (try dsimp only); refine Or.inl ⟨by omega, by omega, by omega, rfl, ?_⟩; unfold tsR; exact Or.inr (Or.inr ⟨by omega, by rw [← hz90, ← hz95]; omega, by omega, rfl, Or.inr ⟨by omega, rfl⟩, rfl, rfl⟩)) hP hD hS
        · refine lv_iload_n hx hb dX2_throwShells_101 rfl (lv_at hl 0 rfl) ?_
          refine r_if_ne (tgt := 109) hx hb dX2_throwShells_102 (by decide) (by unfold rI; decide) (fun h9 => absurd h9 (by omega)) (fun h102 => ?_)
          refine lv_aload_n hx hb dX2_throwShells_105 rfl (lv_at hl 1 rfl) ?_
          refine r_callVv (As := []) (rest := []) (wr := []) S (c_X2_next l D cI cL tw (g0) (g1) (g2) (g3) (tu) (ph) (mo) (0) (0) (P) (C) (hB) (by omega)) gX2_throwShells_X2_next rfl rfl rfl ⟨rfl, f_X2_next⟩ hR (Nat.le_of_ble_eq_true rfl) (Nat.le_of_ble_eq_true rfl) (hE.kept hS.2.1) hP hD hS hA [0, 1, 2, 3] [] rfl rfl (by decide) rfl (by decide) (by decide) 0 rfl rfl rfl hl.1 rfl (Nat.le_of_ble_eq_true rfl) dX2_throwShells_106 ⟨Nat.zero_le _, Nat.zero_le _⟩ (fun u106 H locs hz106 hP hD hS => ?_)
          have hP : va_P D vwCl [(g0, .inr (2, [.ref g1, .int (iI ((tu + 1) % 4)), .int (iI (ph)), .int (iI (mo)), .int (iI (0)), .ref g2, .ref g3, .int (iI (0))])), (g1, .inl (cI, 16, .inl (aI P))), (g2, .inl (cI, 4, .inl (aI C))), (g3, .inl (cI, 7, .inl (aI wyI)))] H := hP.sub [0, 1, 2, 3] rfl
          have hD : va_D A [(g0, .inr (2, [.ref g1, .int (iI ((tu + 1) % 4)), .int (iI (ph)), .int (iI (mo)), .int (iI (0)), .ref g2, .ref g3, .int (iI (0))])), (g1, .inl (cI, 16, .inl (aI P))), (g2, .inl (cI, 4, .inl (aI C))), (g3, .inl (cI, 7, .inl (aI wyI)))] := hD.sub [0, 1, 2, 3] (by decide) rfl
          refine lv_iload_n hx hb dX2_throwShells_109 rfl (lv_at hl 2 rfl) ?_
          refine r_callS (As := [.int (iI (m))]) (rest := []) S (c_X2_worth l D cI cL tw (m) (by omega)) gX2_throwShells_X2_worth rfl rfl rfl f_X2_worth hR (Nat.le_of_ble_eq_true rfl) (Nat.le_of_ble_eq_true rfl) (hE.kept hS.2.1) rfl hl.1 rfl (Nat.le_of_ble_eq_true rfl) dX2_throwShells_110 ⟨Nat.zero_le _, Nat.zero_le _⟩ (fun z110 hz110 => ?_)
          obtain ⟨hz110, rz110⟩ := hz110
          refine r_ineg hx hb dX2_throwShells_113 ?_
          exact hret (-(z110)) (0, (tu + 1) % 4, 0, ph, mo) _ _ _ _ dX2_throwShells_114 (by (try dsimp only); refine Or.inl ⟨by omega, by omega, by omega, rfl, ?_⟩; unfold tsR; exact Or.inr (Or.inl ⟨by omega, by rw [← hz90, ← hz95]; omega, by omega, Or.inr ⟨by omega, rfl, rfl⟩, by omega, rfl⟩)) hP hD hS
    · refine r_iconst hx hb dX2_throwShells_22 ?_
      refine lv_goto (tgt := 27) hx hb dX2_throwShells_23 (by decide) ?_
      refine va_put (D := D) (ci := 2) (v := .int (iI (2))) (ty := .int) (C := RX2) (T := TX2) (N := 8) hx hb hts mu_X2_throwShells_X2 tyX2 tyX2_ok nmX2 hown hE.1 hP hD hS 0 rfl rfl 7 (by decide) (hts _ mw_X2_throwShells_2) (fun _ h9 => h9) rfl (by decide +kernel) rfl rfl (Nat.le_of_ble_eq_true rfl) dX2_throwShells_27 (fun H locs hP hD hS => ?_)
      have hP : va_P D vwCl [(g0, .inr (2, [.ref g1, .int (iI (tu)), .int (iI (ph)), .int (iI (mo)), .int (iI (gc)), .ref g2, .ref g3, .int (iI (2))])), (g1, .inl (cI, 16, .inl (aI P))), (g2, .inl (cI, 4, .inl (aI C))), (g3, .inl (cI, 7, .inl (aI wyI)))] H := hP
      have hD : va_D A [(g0, .inr (2, [.ref g1, .int (iI (tu)), .int (iI (ph)), .int (iI (mo)), .int (iI (gc)), .ref g2, .ref g3, .int (iI (2))])), (g1, .inl (cI, 16, .inl (aI P))), (g2, .inl (cI, 4, .inl (aI C))), (g3, .inl (cI, 7, .inl (aI wyI)))] := hD
      refine lv_aload_n hx hb dX2_throwShells_30 rfl (lv_at hl 0 rfl) ?_
      refine va_get (D := D) (ci := 2) (v := .int (iI (2))) (C := RX2) (T := TX2) (N := 8) hx hb hts mu_X2_throwShells_X2 hown hE.1 hP 0 rfl rfl 7 (by decide) (hts _ mw_X2_throwShells_2) (fun _ h9 => h9) rfl dX2_throwShells_31 ?_
      refine r_if_le (tgt := 39) hx hb dX2_throwShells_34 (by decide) (by unfold rI; decide) (fun h9 => absurd h9 (by omega)) (fun h34 => ?_)
      refine r_iconst hx hb dX2_throwShells_37 ?_
      exact hret (0) (2, tu, gc, ph, mo) _ _ _ _ dX2_throwShells_38 (by (try dsimp only); exact Or.inr (Or.inr ⟨by omega, by omega, by omega, rfl, rfl, rfl, rfl, rfl, rfl⟩)) hP hD hS
  · refine r_if_ne (tgt := 15) hx hb dX2_throwShells_8 (by decide) (by unfold rI; decide) (fun h9 => absurd h9 (by omega)) (fun h8 => ?_)
    refine r_iconst hx hb dX2_throwShells_11 ?_
    refine lv_goto (tgt := 27) hx hb dX2_throwShells_12 (by decide) ?_
    refine va_put (D := D) (ci := 2) (v := .int (iI (1))) (ty := .int) (C := RX2) (T := TX2) (N := 8) hx hb hts mu_X2_throwShells_X2 tyX2 tyX2_ok nmX2 hown hE.1 hP hD hS 0 rfl rfl 7 (by decide) (hts _ mw_X2_throwShells_2) (fun _ h9 => h9) rfl (by decide +kernel) rfl rfl (Nat.le_of_ble_eq_true rfl) dX2_throwShells_27 (fun H locs hP hD hS => ?_)
    have hP : va_P D vwCl [(g0, .inr (2, [.ref g1, .int (iI (tu)), .int (iI (ph)), .int (iI (mo)), .int (iI (gc)), .ref g2, .ref g3, .int (iI (1))])), (g1, .inl (cI, 16, .inl (aI P))), (g2, .inl (cI, 4, .inl (aI C))), (g3, .inl (cI, 7, .inl (aI wyI)))] H := hP
    have hD : va_D A [(g0, .inr (2, [.ref g1, .int (iI (tu)), .int (iI (ph)), .int (iI (mo)), .int (iI (gc)), .ref g2, .ref g3, .int (iI (1))])), (g1, .inl (cI, 16, .inl (aI P))), (g2, .inl (cI, 4, .inl (aI C))), (g3, .inl (cI, 7, .inl (aI wyI)))] := hD
    refine lv_aload_n hx hb dX2_throwShells_30 rfl (lv_at hl 0 rfl) ?_
    refine va_get (D := D) (ci := 2) (v := .int (iI (1))) (C := RX2) (T := TX2) (N := 8) hx hb hts mu_X2_throwShells_X2 hown hE.1 hP 0 rfl rfl 7 (by decide) (hts _ mw_X2_throwShells_2) (fun _ h9 => h9) rfl dX2_throwShells_31 ?_
    refine r_if_le (tgt := 39) hx hb dX2_throwShells_34 (by decide) (by unfold rI; decide) (fun h9 => absurd h9 (by omega)) (fun h34 => ?_)
    refine r_iconst hx hb dX2_throwShells_37 ?_
    exact hret (0) (1, tu, gc, ph, mo) _ _ _ _ dX2_throwShells_38 (by (try dsimp only); exact Or.inr (Or.inl ⟨by omega, rfl, rfl, rfl, rfl, rfl, rfl⟩)) hP hD hS

set_option maxRecDepth 20000 in
theorem mw_X2_move_0 : (.fieldLink RX2 60 "PachisiYardModel" "phase" "I" : Cond) ∈ wsX2_move := by decide +kernel
set_option maxRecDepth 20000 in
theorem mu_X2_move_X2 : ∀ w ∈ wsX20, w ∈ wsX2_move := by decide +kernel
set_option maxRecDepth 20000 in
theorem mw_X2_move_2 : (.fieldLink RX2 19 "PachisiYardModel" "thrown" "I" : Cond) ∈ wsX2_move := by decide +kernel
set_option maxRecDepth 20000 in
theorem mw_X2_move_3 : (.fieldLink RX2 54 "PachisiYardModel" "turn" "I" : Cond) ∈ wsX2_move := by decide +kernel
set_option maxRecDepth 20000 in
theorem mw_X2_move_4 : (.fieldLink RX2 73 "PachisiYardModel" "mouths" "I" : Cond) ∈ wsX2_move := by decide +kernel
set_option maxRecDepth 20000 in
theorem mw_X2_move_5 : (.fieldLink RX2 7 "PachisiYardModel" "at" "[I" : Cond) ∈ wsX2_move := by decide +kernel
set_option maxRecDepth 20000 in
theorem mw_X2_move_6 : (.fieldLink RX2 13 "PachisiYardModel" "captures" "[I" : Cond) ∈ wsX2_move := by decide +kernel
theorem f_X2_move : yX2_move.cls ≠ "java/lang/invoke/MethodHandle" ∧ yX2_move.cls ≠ "java/lang/invoke/VarHandle" ∧ (parseMethodDescriptor yX2_move.desc).map (fun d => d.parameters.length) = some 1 := by decide +kernel
set_option maxHeartbeats 4000000 in
set_option maxRecDepth 100000 in
theorem c_X2_move (l : Launch) (D : va_G) (cI cL : ClassId) (tw : Nat) (g0 : Nat) (g1 : Nat) (g2 : Nat) (g3 : Nat) (tu : Int) (ph : Int) (mo : Int) (gc : Int) (th : Int) (P : Int → Int) (C : Int → Int) (j : Int) (hB : ∀ i, 0 ≤ P i ∧ P i ≤ 72) (htu : 0 ≤ tu ∧ tu ≤ 3) (hgc : 0 ≤ gc ∧ gc ≤ 2) (hph : 0 ≤ ph ∧ ph ≤ 2) (hmo : 0 ≤ mo ∧ mo ≤ 6) (h_j : -2147483648 ≤ j ∧ j < 2147483648) : RWi l yX2_move wsX2_move { frames := 3, cells := 0, slots := 0, locals := 74 } D cI cL tw [.ref g0, .int (iI (j))] [(g0, .inr (2, [.ref g1, .int (iI (tu)), .int (iI (ph)), .int (iI (mo)), .int (iI (gc)), .ref g2, .ref g3, .int (iI (th))])), (g1, .inl (cI, 16, .inl (aI P))), (g2, .inl (cI, 4, .inl (aI C))), (g3, .inl (cI, 7, .inl (aI wyI)))] (fun (z : Int) (u : Int × Int × Int × Int × (Int → Int) × (Int → Int)) => (0 ≤ j ∧ j ≤ 3 ∧ ph = 1 ∧ u.1 = 0 ∧ mvR P C tu gc mo j z u.2.1 u.2.2.1 u.2.2.2.1 u.2.2.2.2.1 u.2.2.2.2.2) ∨ (¬ (0 ≤ j ∧ j ≤ 3) ∧ u.1 = 1 ∧ z = 0 ∧ u.2.1 = tu ∧ u.2.2.1 = gc ∧ u.2.2.2.1 = ph ∧ u.2.2.2.2.1 = P ∧ u.2.2.2.2.2 = C) ∨ (0 ≤ j ∧ j ≤ 3 ∧ (ph ≠ 1 ∨ can P (4 * mv P tu + j) mo = 0) ∧ u.1 = 2 ∧ z = 0 ∧ u.2.1 = tu ∧ u.2.2.1 = gc ∧ u.2.2.2.1 = ph ∧ u.2.2.2.2.1 = P ∧ u.2.2.2.2.2 = C)) (fun u : Int × Int × Int × Int × (Int → Int) × (Int → Int) => [(g0, .inr (2, [.ref g1, .int (iI (u.2.1)), .int (iI (u.2.2.2.1)), .int (iI (mo)), .int (iI (u.2.2.1)), .ref g2, .ref g3, .int (iI (u.1))])), (g1, .inl (cI, 16, .inl (aI (u.2.2.2.2.1)))), (g2, .inl (cI, 4, .inl (aI (u.2.2.2.2.2)))), (g3, .inl (cI, 7, .inl (aI wyI)))]) := by
  refine rwi_of (cc := cX2_move) (maxL := 5) (rt := .int) (own := RX2) (by decide) rfl rfl (Or.inl rfl) (Nat.le_of_ble_eq_true rfl) ?_
  intro p e R s mt args below meth c H0 Q ls A S hR hE hP hD hS hA hl hret
  obtain ⟨hx, hb, hml, hown, hts⟩ := id S
  have hl : lv_has ls 5 [(0, .ref g0), (1, .int (iI (j)))] := hl
  refine lv_aload_n hx hb dX2_move_0 rfl (lv_at hl 0 rfl) ?_
  refine lv_iload_n hx hb dX2_move_1 rfl (lv_at hl 1 rfl) ?_
  refine r_iconst hx hb dX2_move_2 ?_
  refine r_iconst hx hb dX2_move_3 ?_
  refine r_callS (As := [.int (iI (j)), .int (iI (0)), .int (iI (3))]) (rest := [.ref g0]) S (c_X2_isIn l D cI cL tw (j) (0) (3) (by omega) (by omega) (by omega)) gX2_move_X2_isIn rfl rfl rfl f_X2_isIn hR (Nat.le_of_ble_eq_true rfl) (Nat.le_of_ble_eq_true rfl) (hE.kept hS.2.1) rfl hl.1 rfl (Nat.le_of_ble_eq_true rfl) dX2_move_4 ⟨Nat.zero_le _, Nat.zero_le _⟩ (fun z4 hz4 => ?_)
  rcases hz4 with ⟨rfl, hz4⟩ | ⟨rfl, hz4⟩
  · refine r_if_ne (tgt := 14) hx hb dX2_move_7 (by decide) (by unfold rI; decide) (fun h7 => ?_) (fun h9 => absurd h9 (by omega))
    refine lv_aload_n hx hb dX2_move_14 rfl (lv_at hl 0 rfl) ?_
    refine va_get (D := D) (ci := 2) (v := .int (iI (ph))) (C := RX2) (T := TX2) (N := 8) hx hb hts mu_X2_move_X2 hown hE.1 hP 0 rfl rfl 2 (by decide) (hts _ mw_X2_move_0) (fun _ h9 => h9) rfl dX2_move_15 ?_
    refine r_iconst hx hb dX2_move_18 ?_
    refine r_icmp_eq (tgt := 26) hx hb dX2_move_19 (by decide) (by unfold rI; omega) (by unfold rI; decide) (fun h19 => ?_) (fun h19 => ?_)
    · refine r_iconst hx hb dX2_move_26 ?_
      refine va_put (D := D) (ci := 2) (v := .int (iI (0))) (ty := .int) (C := RX2) (T := TX2) (N := 8) hx hb hts mu_X2_move_X2 tyX2 tyX2_ok nmX2 hown hE.1 hP hD hS 0 rfl rfl 7 (by decide) (hts _ mw_X2_move_2) (fun _ h9 => h9) rfl (by decide +kernel) rfl rfl (Nat.le_of_ble_eq_true rfl) dX2_move_27 (fun H locs hP hD hS => ?_)
      have hP : va_P D vwCl [(g0, .inr (2, [.ref g1, .int (iI (tu)), .int (iI (ph)), .int (iI (mo)), .int (iI (gc)), .ref g2, .ref g3, .int (iI (0))])), (g1, .inl (cI, 16, .inl (aI P))), (g2, .inl (cI, 4, .inl (aI C))), (g3, .inl (cI, 7, .inl (aI wyI)))] H := hP
      have hD : va_D A [(g0, .inr (2, [.ref g1, .int (iI (tu)), .int (iI (ph)), .int (iI (mo)), .int (iI (gc)), .ref g2, .ref g3, .int (iI (0))])), (g1, .inl (cI, 16, .inl (aI P))), (g2, .inl (cI, 4, .inl (aI C))), (g3, .inl (cI, 7, .inl (aI wyI)))] := hD
      refine lv_aload_n hx hb dX2_move_30 rfl (lv_at hl 0 rfl) ?_
      refine va_get (D := D) (ci := 2) (v := .int (iI (0))) (C := RX2) (T := TX2) (N := 8) hx hb hts mu_X2_move_X2 hown hE.1 hP 0 rfl rfl 7 (by decide) (hts _ mw_X2_move_2) (fun _ h9 => h9) rfl dX2_move_31 ?_
      refine r_if_le (tgt := 39) hx hb dX2_move_34 (by decide) (by unfold rI; decide) (fun h34 => ?_) (fun h9 => absurd h9 (by omega))
      refine r_iconst hx hb dX2_move_39 ?_
      refine lv_aload_n hx hb dX2_move_40 rfl (lv_at hl 0 rfl) ?_
      refine lv_aload_n hx hb dX2_move_41 rfl (lv_at hl 0 rfl) ?_
      refine va_get (D := D) (ci := 2) (v := .int (iI (tu))) (C := RX2) (T := TX2) (N := 8) hx hb hts mu_X2_move_X2 hown hE.1 hP 0 rfl rfl 1 (by decide) (hts _ mw_X2_move_3) (fun _ h9 => h9) rfl dX2_move_42 ?_
      refine r_callV (As := [.int (iI (tu))]) (rest := [.int (iI (4))]) S (c_X2_movesFor l D cI cL tw (g0) (g1) (g2) (g3) (tu) (ph) (mo) (gc) (0) (P) (C) (tu) (hB) (by omega)) gX2_move_X2_movesFor rfl rfl rfl ⟨rfl, f_X2_movesFor⟩ hR (Nat.le_of_ble_eq_true rfl) (Nat.le_of_ble_eq_true rfl) (hE.kept hS.2.1) hP [0, 1, 2, 3] rfl 0 rfl rfl rfl hl.1 rfl (Nat.le_of_ble_eq_true rfl) dX2_move_45 ⟨Nat.zero_le _, Nat.zero_le _⟩ (fun z45 hz45 => ?_)
      obtain ⟨hz45, rz45⟩ := hz45
      refine r_imul hx hb dX2_move_48 ?_
      refine lv_iload_n hx hb dX2_move_49 rfl (lv_at hl 1 rfl) ?_
      refine r_iadd hx hb dX2_move_50 ?_
      refine r_top (4 * z45 + j) (by omega) ?_
      refine lv_istore_n (lv' := [(2, .int (iI (4 * z45 + j))), (0, .ref g0), (1, .int (iI (j)))]) hx hb dX2_move_51 rfl hl (by decide) rfl (fun ls hl => ?_)
      refine lv_aload_n hx hb dX2_move_52 rfl (lv_at hl 1 rfl) ?_
      refine lv_iload_n hx hb dX2_move_53 rfl (lv_at hl 0 rfl) ?_
      refine lv_aload_n hx hb dX2_move_54 rfl (lv_at hl 1 rfl) ?_
      refine va_get (D := D) (ci := 2) (v := .int (iI (mo))) (C := RX2) (T := TX2) (N := 8) hx hb hts mu_X2_move_X2 hown hE.1 hP 0 rfl rfl 3 (by decide) (hts _ mw_X2_move_4) (fun _ h9 => h9) rfl dX2_move_55 ?_
      refine r_callV (As := [.int (iI (4 * z45 + j)), .int (iI (mo))]) (rest := []) S (c_X2_can l D cI cL tw (g0) (g1) (g2) (g3) (tu) (ph) (mo) (gc) (0) (P) (C) (4 * z45 + j) (mo) (hB) (by omega) (by omega)) gX2_move_X2_can rfl rfl rfl ⟨rfl, f_X2_can⟩ hR (Nat.le_of_ble_eq_true rfl) (Nat.le_of_ble_eq_true rfl) (hE.kept hS.2.1) hP [0, 1, 2, 3] rfl 0 rfl rfl rfl hl.1 rfl (Nat.le_of_ble_eq_true rfl) dX2_move_58 ⟨Nat.zero_le _, Nat.zero_le _⟩ (fun z58 hz58 => ?_)
      obtain ⟨hz58, rz58⟩ := hz58
      refine lv_istore_n (lv' := [(3, .int (iI (z58))), (2, .int (iI (4 * z45 + j))), (0, .ref g0), (1, .int (iI (j)))]) hx hb dX2_move_61 rfl hl (by decide) rfl (fun ls hl => ?_)
      refine lv_aload_n hx hb dX2_move_62 rfl (lv_at hl 2 rfl) ?_
      refine lv_iload_n hx hb dX2_move_63 rfl (lv_at hl 0 rfl) ?_
      refine r_if_ne (tgt := 71) hx hb dX2_move_64 (by decide) (by unfold rI; omega) (fun h64 => ?_) (fun h64 => ?_)
      · refine r_iconst hx hb dX2_move_71 ?_
        refine va_put (D := D) (ci := 2) (v := .int (iI (0))) (ty := .int) (C := RX2) (T := TX2) (N := 8) hx hb hts mu_X2_move_X2 tyX2 tyX2_ok nmX2 hown hE.1 hP hD hS 0 rfl rfl 7 (by decide) (hts _ mw_X2_move_2) (fun _ h9 => h9) rfl (by decide +kernel) rfl rfl (Nat.le_of_ble_eq_true rfl) dX2_move_72 (fun H locs hP hD hS => ?_)
        have hP : va_P D vwCl [(g0, .inr (2, [.ref g1, .int (iI (tu)), .int (iI (ph)), .int (iI (mo)), .int (iI (gc)), .ref g2, .ref g3, .int (iI (0))])), (g1, .inl (cI, 16, .inl (aI P))), (g2, .inl (cI, 4, .inl (aI C))), (g3, .inl (cI, 7, .inl (aI wyI)))] H := hP
        have hD : va_D A [(g0, .inr (2, [.ref g1, .int (iI (tu)), .int (iI (ph)), .int (iI (mo)), .int (iI (gc)), .ref g2, .ref g3, .int (iI (0))])), (g1, .inl (cI, 16, .inl (aI P))), (g2, .inl (cI, 4, .inl (aI C))), (g3, .inl (cI, 7, .inl (aI wyI)))] := hD
        refine lv_aload_n hx hb dX2_move_75 rfl (lv_at hl 2 rfl) ?_
        refine va_get (D := D) (ci := 2) (v := .int (iI (0))) (C := RX2) (T := TX2) (N := 8) hx hb hts mu_X2_move_X2 hown hE.1 hP 0 rfl rfl 7 (by decide) (hts _ mw_X2_move_2) (fun _ h9 => h9) rfl dX2_move_76 ?_
        refine r_if_le (tgt := 84) hx hb dX2_move_79 (by decide) (by unfold rI; decide) (fun h79 => ?_) (fun h9 => absurd h9 (by omega))
        refine lv_aload_n hx hb dX2_move_84 rfl (lv_at hl 2 rfl) ?_
        refine lv_iload_n hx hb dX2_move_85 rfl (lv_at hl 1 rfl) ?_
        refine lv_aload_n hx hb dX2_move_86 rfl (lv_at hl 2 rfl) ?_
        refine va_get (D := D) (ci := 2) (v := .int (iI (mo))) (C := RX2) (T := TX2) (N := 8) hx hb hts mu_X2_move_X2 hown hE.1 hP 0 rfl rfl 3 (by decide) (hts _ mw_X2_move_4) (fun _ h9 => h9) rfl dX2_move_87 ?_
        refine r_callV (As := [.int (iI (4 * z45 + j)), .int (iI (mo))]) (rest := []) S (c_X2_target l D cI cL tw (g0) (g1) (g2) (g3) (tu) (ph) (mo) (gc) (0) (P) (C) (4 * z45 + j) (mo) (hB) (by omega) (by omega)) gX2_move_X2_target rfl rfl rfl ⟨rfl, f_X2_target⟩ hR (Nat.le_of_ble_eq_true rfl) (Nat.le_of_ble_eq_true rfl) (hE.kept hS.2.1) hP [0, 1, 2, 3] rfl 0 rfl rfl rfl hl.1 rfl (Nat.le_of_ble_eq_true rfl) dX2_move_90 ⟨Nat.zero_le _, Nat.zero_le _⟩ (fun z90 hz90 => ?_)
        obtain ⟨hz90, rz90⟩ := hz90
        refine lv_istore (lv' := [(4, .int (iI (z90))), (3, .int (iI (z58))), (2, .int (iI (4 * z45 + j))), (0, .ref g0), (1, .int (iI (j)))]) hx hb dX2_move_93 hl (by decide) rfl (fun ls hl => ?_)
        refine lv_iload_n hx hb dX2_move_95 rfl (lv_at hl 1 rfl) ?_
        refine r_iconst hx hb dX2_move_96 ?_
        refine r_icmp_ne (tgt := 132) hx hb dX2_move_97 (by decide) (by unfold rI; omega) (by unfold rI; decide) (fun h97 => ?_) (fun h97 => ?_)
        · refine lv_aload_n hx hb dX2_move_132 rfl (lv_at hl 3 rfl) ?_
          refine va_get (D := D) (ci := 2) (v := .ref g1) (C := RX2) (T := TX2) (N := 8) hx hb hts mu_X2_move_X2 hown hE.1 hP 0 rfl rfl 0 (by decide) (hts _ mw_X2_move_5) (fun _ h9 => h9) rfl dX2_move_133 ?_
          refine lv_iload_n hx hb dX2_move_136 rfl (lv_at hl 2 rfl) ?_
          refine lv_iload hx hb dX2_move_137 (lv_at hl 0 rfl) ?_
          refine r_iast hx hb hE.1 hP hD hS 1 (P := P) rfl (i := 4 * z45 + j) (v := z90) (by omega) (by omega) (by decide) (ws1 := [(g0, .inr (2, [.ref g1, .int (iI (tu)), .int (iI (ph)), .int (iI (mo)), .int (iI (gc)), .ref g2, .ref g3, .int (iI (0))])), (g1, .inl (cI, 16, .inl (aI (uI P (4 * z45 + j) (z90))))), (g2, .inl (cI, 4, .inl (aI C))), (g3, .inl (cI, 7, .inl (aI wyI)))]) rfl dX2_move_139 (fun H locs hP hD hS => ?_)
          refine lv_aload_n hx hb dX2_move_140 rfl (lv_at hl 3 rfl) ?_
          refine lv_aload_n hx hb dX2_move_141 rfl (lv_at hl 3 rfl) ?_
          refine lv_aload_n hx hb dX2_move_142 rfl (lv_at hl 3 rfl) ?_
          refine va_get (D := D) (ci := 2) (v := .int (iI (tu))) (C := RX2) (T := TX2) (N := 8) hx hb hts mu_X2_move_X2 hown hE.1 hP 0 rfl rfl 1 (by decide) (hts _ mw_X2_move_3) (fun _ h9 => h9) rfl dX2_move_143 ?_
          refine r_iconst hx hb dX2_move_146 ?_
          refine r_irem hx hb dX2_move_147 (by omega) (by omega) ?_
          refine r_callV (As := [.int (iI ((tu) % (2)))]) (rest := [.ref g0]) S (c_X2_isWon l D cI cL tw (g0) (g1) (g2) (g3) (tu) (ph) (mo) (gc) (0) ((uI P (4 * z45 + j) (z90))) (C) ((tu) % (2)) (uI_rng (by first | exact hB | exact syP_rng hB) (by omega)) (by omega)) gX2_move_X2_isWon rfl rfl rfl ⟨rfl, f_X2_isWon⟩ hR (Nat.le_of_ble_eq_true rfl) (Nat.le_of_ble_eq_true rfl) (hE.kept hS.2.1) hP [0, 1, 2, 3] rfl 0 rfl rfl rfl hl.1 rfl (Nat.le_of_ble_eq_true rfl) dX2_move_148 ⟨Nat.zero_le _, Nat.zero_le _⟩ (fun z148 hz148 => ?_)
          rcases hz148 with ⟨rfl, hz148⟩ | ⟨rfl, hz148⟩
          · refine r_if_eq (tgt := 158) hx hb dX2_move_151 (by decide) (by unfold rI; decide) (fun h9 => absurd h9 (by omega)) (fun h151 => ?_)
            refine r_iconst hx hb dX2_move_154 ?_
            refine lv_goto (tgt := 159) hx hb dX2_move_155 (by decide) ?_
            refine va_put (D := D) (ci := 2) (v := .int (iI (2))) (ty := .int) (C := RX2) (T := TX2) (N := 8) hx hb hts mu_X2_move_X2 tyX2 tyX2_ok nmX2 hown hE.1 hP hD hS 0 rfl rfl 2 (by decide) (hts _ mw_X2_move_0) (fun _ h9 => h9) rfl (by decide +kernel) rfl rfl (Nat.le_of_ble_eq_true rfl) dX2_move_159 (fun H locs hP hD hS => ?_)
            have hP : va_P D vwCl [(g0, .inr (2, [.ref g1, .int (iI (tu)), .int (iI (2)), .int (iI (mo)), .int (iI (gc)), .ref g2, .ref g3, .int (iI (0))])), (g1, .inl (cI, 16, .inl (aI (uI P (4 * z45 + j) (z90))))), (g2, .inl (cI, 4, .inl (aI C))), (g3, .inl (cI, 7, .inl (aI wyI)))] H := hP
            have hD : va_D A [(g0, .inr (2, [.ref g1, .int (iI (tu)), .int (iI (2)), .int (iI (mo)), .int (iI (gc)), .ref g2, .ref g3, .int (iI (0))])), (g1, .inl (cI, 16, .inl (aI (uI P (4 * z45 + j) (z90))))), (g2, .inl (cI, 4, .inl (aI C))), (g3, .inl (cI, 7, .inl (aI wyI)))] := hD
            refine lv_aload_n hx hb dX2_move_162 rfl (lv_at hl 3 rfl) ?_
            refine va_get (D := D) (ci := 2) (v := .int (iI (2))) (C := RX2) (T := TX2) (N := 8) hx hb hts mu_X2_move_X2 hown hE.1 hP 0 rfl rfl 2 (by decide) (hts _ mw_X2_move_0) (fun _ h9 => h9) rfl dX2_move_163 ?_
            refine r_if_ne (tgt := 188) hx hb dX2_move_166 (by decide) (by unfold rI; decide) (fun h166 => ?_) (fun h9 => absurd h9 (by omega))
            refine lv_iload_n hx hb dX2_move_188 rfl (lv_at hl 1 rfl) ?_
            refine r_iconst hx hb dX2_move_189 ?_
            refine r_icmp_ne (tgt := 201) hx hb dX2_move_190 (by decide) (by unfold rI; omega) (by unfold rI; decide) (fun h190 => ?_) (fun h190 => ?_)
            · refine lv_iload hx hb dX2_move_201 (lv_at hl 0 rfl) ?_
              exact hret (z90) (0, tu, gc, 2, (uI P (4 * z45 + j) (z90)), C) _ _ _ _ dX2_move_203 (by (try dsimp only); have em := mvP_n (by rw [← hz58]; omega) hz90; refine Or.inl ⟨by omega, by omega, by omega, rfl, ?_⟩; unfold mvR; rw [← hz45, em]; refine ⟨by rw [← hz58]; omega, rfl, by rw [if_neg (by rw [← hz58]; omega)], by rw [if_neg (by rw [← hz58]; omega)]; omega, ?_⟩; exact Or.inl ⟨(won_team (by omega)).mpr hz148, rfl, rfl, rfl⟩) hP hD hS
            · refine lv_iload hx hb dX2_move_193 (lv_at hl 0 rfl) ?_
              refine r_bipush hx hb dX2_move_195 (by decide) ?_
              refine r_iadd hx hb dX2_move_197 ?_
              refine lv_goto (tgt := 203) hx hb dX2_move_198 (by decide) ?_
              exact hret ((z90) + (100)) (0, tu, gc, 2, (uI P (4 * z45 + j) (z90)), C) _ _ _ _ dX2_move_203 (by (try dsimp only); have em := mvP_n (by rw [← hz58]; omega) hz90; refine Or.inl ⟨by omega, by omega, by omega, rfl, ?_⟩; unfold mvR; rw [← hz45, em]; refine ⟨by rw [← hz58]; omega, rfl, by rw [if_neg (by rw [← hz58]; omega)], by rw [if_neg (by rw [← hz58]; omega)]; omega, ?_⟩; exact Or.inl ⟨(won_team (by omega)).mpr hz148, rfl, rfl, rfl⟩) hP hD hS
          · refine r_if_eq (tgt := 158) hx hb dX2_move_151 (by decide) (by unfold rI; decide) (fun h151 => ?_) (fun h9 => absurd h9 (by omega))
            refine r_iconst hx hb dX2_move_158 ?_
            refine va_put (D := D) (ci := 2) (v := .int (iI (0))) (ty := .int) (C := RX2) (T := TX2) (N := 8) hx hb hts mu_X2_move_X2 tyX2 tyX2_ok nmX2 hown hE.1 hP hD hS 0 rfl rfl 2 (by decide) (hts _ mw_X2_move_0) (fun _ h9 => h9) rfl (by decide +kernel) rfl rfl (Nat.le_of_ble_eq_true rfl) dX2_move_159 (fun H locs hP hD hS => ?_)
            have hP : va_P D vwCl [(g0, .inr (2, [.ref g1, .int (iI (tu)), .int (iI (0)), .int (iI (mo)), .int (iI (gc)), .ref g2, .ref g3, .int (iI (0))])), (g1, .inl (cI, 16, .inl (aI (uI P (4 * z45 + j) (z90))))), (g2, .inl (cI, 4, .inl (aI C))), (g3, .inl (cI, 7, .inl (aI wyI)))] H := hP
            have hD : va_D A [(g0, .inr (2, [.ref g1, .int (iI (tu)), .int (iI (0)), .int (iI (mo)), .int (iI (gc)), .ref g2, .ref g3, .int (iI (0))])), (g1, .inl (cI, 16, .inl (aI (uI P (4 * z45 + j) (z90))))), (g2, .inl (cI, 4, .inl (aI C))), (g3, .inl (cI, 7, .inl (aI wyI)))] := hD
            refine lv_aload_n hx hb dX2_move_162 rfl (lv_at hl 3 rfl) ?_
            refine va_get (D := D) (ci := 2) (v := .int (iI (0))) (C := RX2) (T := TX2) (N := 8) hx hb hts mu_X2_move_X2 hown hE.1 hP 0 rfl rfl 2 (by decide) (hts _ mw_X2_move_0) (fun _ h9 => h9) rfl dX2_move_163 ?_
            refine r_if_ne (tgt := 188) hx hb dX2_move_166 (by decide) (by unfold rI; decide) (fun h9 => absurd h9 (by omega)) (fun h166 => ?_)
            refine lv_iload_n hx hb dX2_move_169 rfl (lv_at hl 1 rfl) ?_
            refine r_iconst hx hb dX2_move_170 ?_
            refine r_icmp_ge (tgt := 188) hx hb dX2_move_171 (by decide) (by unfold rI; omega) (by unfold rI; decide) (fun h171 => ?_) (fun h171 => ?_)
            · refine lv_iload_n hx hb dX2_move_188 rfl (lv_at hl 1 rfl) ?_
              refine r_iconst hx hb dX2_move_189 ?_
              refine r_icmp_ne (tgt := 201) hx hb dX2_move_190 (by decide) (by unfold rI; omega) (by unfold rI; decide) (fun h190 => ?_) (fun h190 => ?_)
              · refine lv_iload hx hb dX2_move_201 (lv_at hl 0 rfl) ?_
                exact hret (z90) (0, tu, gc, 0, (uI P (4 * z45 + j) (z90)), C) _ _ _ _ dX2_move_203 (by (try dsimp only); have em := mvP_n (by rw [← hz58]; omega) hz90; refine Or.inl ⟨by omega, by omega, by omega, rfl, ?_⟩; unfold mvR; rw [← hz45, em]; refine ⟨by rw [← hz58]; omega, rfl, by rw [if_neg (by rw [← hz58]; omega)], by rw [if_neg (by rw [← hz58]; omega)]; omega, ?_⟩; refine Or.inr ⟨fun q => hz148 ((won_team (by omega)).mp q), rfl, ?_⟩; exact Or.inl ⟨Or.inl (by rw [← hz58]; omega), rfl, rfl⟩) hP hD hS
              · refine lv_iload hx hb dX2_move_193 (lv_at hl 0 rfl) ?_
                refine r_bipush hx hb dX2_move_195 (by decide) ?_
                refine r_iadd hx hb dX2_move_197 ?_
                refine lv_goto (tgt := 203) hx hb dX2_move_198 (by decide) ?_
                exact hret ((z90) + (100)) (0, tu, gc, 0, (uI P (4 * z45 + j) (z90)), C) _ _ _ _ dX2_move_203 (by (try dsimp only); have em := mvP_n (by rw [← hz58]; omega) hz90; refine Or.inl ⟨by omega, by omega, by omega, rfl, ?_⟩; unfold mvR; rw [← hz45, em]; refine ⟨by rw [← hz58]; omega, rfl, by rw [if_neg (by rw [← hz58]; omega)], by rw [if_neg (by rw [← hz58]; omega)]; omega, ?_⟩; refine Or.inr ⟨fun q => hz148 ((won_team (by omega)).mp q), rfl, ?_⟩; exact Or.inl ⟨Or.inl (by rw [← hz58]; omega), rfl, rfl⟩) hP hD hS
            · refine lv_aload_n hx hb dX2_move_174 rfl (lv_at hl 3 rfl) ?_
              refine va_get (D := D) (ci := 2) (v := .int (iI (mo))) (C := RX2) (T := TX2) (N := 8) hx hb hts mu_X2_move_X2 hown hE.1 hP 0 rfl rfl 3 (by decide) (hts _ mw_X2_move_4) (fun _ h9 => h9) rfl dX2_move_175 ?_
              refine r_callS (As := [.int (iI (mo))]) (rest := []) S (c_X2_isGrace l D cI cL tw (mo) (by omega)) gX2_move_X2_isGrace rfl rfl rfl f_X2_isGrace hR (Nat.le_of_ble_eq_true rfl) (Nat.le_of_ble_eq_true rfl) (hE.kept hS.2.1) rfl hl.1 rfl (Nat.le_of_ble_eq_true rfl) dX2_move_178 ⟨Nat.zero_le _, Nat.zero_le _⟩ (fun z178 hz178 => ?_)
              rcases hz178 with ⟨rfl, hz178⟩ | ⟨rfl, hz178⟩
              · refine r_if_ne (tgt := 188) hx hb dX2_move_181 (by decide) (by unfold rI; decide) (fun h181 => ?_) (fun h9 => absurd h9 (by omega))
                refine lv_iload_n hx hb dX2_move_188 rfl (lv_at hl 1 rfl) ?_
                refine r_iconst hx hb dX2_move_189 ?_
                refine r_icmp_ne (tgt := 201) hx hb dX2_move_190 (by decide) (by unfold rI; omega) (by unfold rI; decide) (fun h190 => ?_) (fun h190 => ?_)
                · refine lv_iload hx hb dX2_move_201 (lv_at hl 0 rfl) ?_
                  exact hret (z90) (0, tu, gc, 0, (uI P (4 * z45 + j) (z90)), C) _ _ _ _ dX2_move_203 (by (try dsimp only); have em := mvP_n (by rw [← hz58]; omega) hz90; refine Or.inl ⟨by omega, by omega, by omega, rfl, ?_⟩; unfold mvR; rw [← hz45, em]; refine ⟨by rw [← hz58]; omega, rfl, by rw [if_neg (by rw [← hz58]; omega)], by rw [if_neg (by rw [← hz58]; omega)]; omega, ?_⟩; refine Or.inr ⟨fun q => hz148 ((won_team (by omega)).mp q), rfl, ?_⟩; exact Or.inl ⟨Or.inr hz178, rfl, rfl⟩) hP hD hS
                · refine lv_iload hx hb dX2_move_193 (lv_at hl 0 rfl) ?_
                  refine r_bipush hx hb dX2_move_195 (by decide) ?_
                  refine r_iadd hx hb dX2_move_197 ?_
                  refine lv_goto (tgt := 203) hx hb dX2_move_198 (by decide) ?_
                  exact hret ((z90) + (100)) (0, tu, gc, 0, (uI P (4 * z45 + j) (z90)), C) _ _ _ _ dX2_move_203 (by (try dsimp only); have em := mvP_n (by rw [← hz58]; omega) hz90; refine Or.inl ⟨by omega, by omega, by omega, rfl, ?_⟩; unfold mvR; rw [← hz45, em]; refine ⟨by rw [← hz58]; omega, rfl, by rw [if_neg (by rw [← hz58]; omega)], by rw [if_neg (by rw [← hz58]; omega)]; omega, ?_⟩; refine Or.inr ⟨fun q => hz148 ((won_team (by omega)).mp q), rfl, ?_⟩; exact Or.inl ⟨Or.inr hz178, rfl, rfl⟩) hP hD hS
              · refine r_if_ne (tgt := 188) hx hb dX2_move_181 (by decide) (by unfold rI; decide) (fun h9 => absurd h9 (by omega)) (fun h181 => ?_)
                refine lv_aload_n hx hb dX2_move_184 rfl (lv_at hl 3 rfl) ?_
                refine r_callVv (As := []) (rest := []) (wr := []) S (c_X2_next l D cI cL tw (g0) (g1) (g2) (g3) (tu) (0) (mo) (gc) (0) ((uI P (4 * z45 + j) (z90))) (C) (uI_rng (by first | exact hB | exact syP_rng hB) (by omega)) (by omega)) gX2_move_X2_next rfl rfl rfl ⟨rfl, f_X2_next⟩ hR (Nat.le_of_ble_eq_true rfl) (Nat.le_of_ble_eq_true rfl) (hE.kept hS.2.1) hP hD hS hA [0, 1, 2, 3] [] rfl rfl (by decide) rfl (by decide) (by decide) 0 rfl rfl rfl hl.1 rfl (Nat.le_of_ble_eq_true rfl) dX2_move_185 ⟨Nat.zero_le _, Nat.zero_le _⟩ (fun u185 H locs hz185 hP hD hS => ?_)
                have hP : va_P D vwCl [(g0, .inr (2, [.ref g1, .int (iI ((tu + 1) % 4)), .int (iI (0)), .int (iI (mo)), .int (iI (0)), .ref g2, .ref g3, .int (iI (0))])), (g1, .inl (cI, 16, .inl (aI (uI P (4 * z45 + j) (z90))))), (g2, .inl (cI, 4, .inl (aI C))), (g3, .inl (cI, 7, .inl (aI wyI)))] H := hP.sub [0, 1, 2, 3] rfl
                have hD : va_D A [(g0, .inr (2, [.ref g1, .int (iI ((tu + 1) % 4)), .int (iI (0)), .int (iI (mo)), .int (iI (0)), .ref g2, .ref g3, .int (iI (0))])), (g1, .inl (cI, 16, .inl (aI (uI P (4 * z45 + j) (z90))))), (g2, .inl (cI, 4, .inl (aI C))), (g3, .inl (cI, 7, .inl (aI wyI)))] := hD.sub [0, 1, 2, 3] (by decide) rfl
                refine lv_iload_n hx hb dX2_move_188 rfl (lv_at hl 1 rfl) ?_
                refine r_iconst hx hb dX2_move_189 ?_
                refine r_icmp_ne (tgt := 201) hx hb dX2_move_190 (by decide) (by unfold rI; omega) (by unfold rI; decide) (fun h190 => ?_) (fun h190 => ?_)
                · refine lv_iload hx hb dX2_move_201 (lv_at hl 0 rfl) ?_
                  exact hret (z90) (0, (tu + 1) % 4, 0, 0, (uI P (4 * z45 + j) (z90)), C) _ _ _ _ dX2_move_203 (by (try dsimp only); have em := mvP_n (by rw [← hz58]; omega) hz90; refine Or.inl ⟨by omega, by omega, by omega, rfl, ?_⟩; unfold mvR; rw [← hz45, em]; refine ⟨by rw [← hz58]; omega, rfl, by rw [if_neg (by rw [← hz58]; omega)], by rw [if_neg (by rw [← hz58]; omega)]; omega, ?_⟩; refine Or.inr ⟨fun q => hz148 ((won_team (by omega)).mp q), rfl, ?_⟩; exact Or.inr ⟨by rw [← hz58]; omega, hz178, rfl, rfl⟩) hP hD hS
                · refine lv_iload hx hb dX2_move_193 (lv_at hl 0 rfl) ?_
                  refine r_bipush hx hb dX2_move_195 (by decide) ?_
                  refine r_iadd hx hb dX2_move_197 ?_
                  refine lv_goto (tgt := 203) hx hb dX2_move_198 (by decide) ?_
                  exact hret ((z90) + (100)) (0, (tu + 1) % 4, 0, 0, (uI P (4 * z45 + j) (z90)), C) _ _ _ _ dX2_move_203 (by (try dsimp only); have em := mvP_n (by rw [← hz58]; omega) hz90; refine Or.inl ⟨by omega, by omega, by omega, rfl, ?_⟩; unfold mvR; rw [← hz45, em]; refine ⟨by rw [← hz58]; omega, rfl, by rw [if_neg (by rw [← hz58]; omega)], by rw [if_neg (by rw [← hz58]; omega)]; omega, ?_⟩; refine Or.inr ⟨fun q => hz148 ((won_team (by omega)).mp q), rfl, ?_⟩; exact Or.inr ⟨by rw [← hz58]; omega, hz178, rfl, rfl⟩) hP hD hS
        · refine lv_aload_n hx hb dX2_move_100 rfl (lv_at hl 3 rfl) ?_
          refine lv_iload_n hx hb dX2_move_101 rfl (lv_at hl 2 rfl) ?_
          refine r_iconst hx hb dX2_move_102 ?_
          refine r_idiv hx hb dX2_move_103 (by omega) (by omega) ?_
          refine r_top (z45) (by omega) ?_
          refine lv_iload hx hb dX2_move_104 (lv_at hl 0 rfl) ?_
          refine r_callS (As := [.int (iI (z45)), .int (iI (z90))]) (rest := [.ref g0]) S (c_X2_squareOf l D cI cL tw (z45) (z90) (by omega) (by omega)) gX2_move_X2_squareOf rfl rfl rfl f_X2_squareOf hR (Nat.le_of_ble_eq_true rfl) (Nat.le_of_ble_eq_true rfl) (hE.kept hS.2.1) rfl hl.1 rfl (Nat.le_of_ble_eq_true rfl) dX2_move_106 ⟨Nat.zero_le _, Nat.zero_le _⟩ (fun z106 hz106 => ?_)
          obtain ⟨hz106, rz106⟩ := hz106
          refine r_iconst hx hb dX2_move_109 ?_
          refine lv_iload_n hx hb dX2_move_110 rfl (lv_at hl 2 rfl) ?_
          refine r_iconst hx hb dX2_move_111 ?_
          refine r_idiv hx hb dX2_move_112 (by omega) (by omega) ?_
          refine r_top (z45) (by omega) ?_
          refine r_iconst hx hb dX2_move_113 ?_
          refine r_irem hx hb dX2_move_114 (by omega) (by omega) ?_
          refine r_isub hx hb dX2_move_115 ?_
          refine r_callVv (As := [.int (iI (z106)), .int (iI ((1) - ((z45) % (2))))]) (rest := []) (wr := []) S (c_X2_sends l D cI cL tw (g0) (g1) (g2) (g3) (tu) (ph) (mo) (gc) (0) (P) (C) (z106) ((1) - ((z45) % (2))) (hB) (by omega) (by omega)) gX2_move_X2_sends rfl rfl rfl ⟨rfl, f_X2_sends⟩ hR (Nat.le_of_ble_eq_true rfl) (Nat.le_of_ble_eq_true rfl) (hE.kept hS.2.1) hP hD hS hA [0, 1, 2, 3] [] rfl rfl (by decide) rfl (by decide) (by decide) 0 rfl rfl rfl hl.1 rfl (Nat.le_of_ble_eq_true rfl) dX2_move_116 ⟨Nat.zero_le _, Nat.zero_le _⟩ (fun u116 H locs hz116 hP hD hS => ?_)
          have hP : va_P D vwCl [(g0, .inr (2, [.ref g1, .int (iI (tu)), .int (iI (ph)), .int (iI (mo)), .int (iI (gc)), .ref g2, .ref g3, .int (iI (0))])), (g1, .inl (cI, 16, .inl (aI (syP P (z106) ((1) - ((z45) % (2))) 16)))), (g2, .inl (cI, 4, .inl (aI C))), (g3, .inl (cI, 7, .inl (aI wyI)))] H := hP.sub [0, 1, 2, 3] rfl
          have hD : va_D A [(g0, .inr (2, [.ref g1, .int (iI (tu)), .int (iI (ph)), .int (iI (mo)), .int (iI (gc)), .ref g2, .ref g3, .int (iI (0))])), (g1, .inl (cI, 16, .inl (aI (syP P (z106) ((1) - ((z45) % (2))) 16)))), (g2, .inl (cI, 4, .inl (aI C))), (g3, .inl (cI, 7, .inl (aI wyI)))] := hD.sub [0, 1, 2, 3] (by decide) rfl
          refine lv_aload_n hx hb dX2_move_119 rfl (lv_at hl 3 rfl) ?_
          refine va_get (D := D) (ci := 2) (v := .ref g2) (C := RX2) (T := TX2) (N := 8) hx hb hts mu_X2_move_X2 hown hE.1 hP 0 rfl rfl 5 (by decide) (hts _ mw_X2_move_6) (fun _ h9 => h9) rfl dX2_move_120 ?_
          refine lv_aload_n hx hb dX2_move_123 rfl (lv_at hl 3 rfl) ?_
          refine va_get (D := D) (ci := 2) (v := .int (iI (tu))) (C := RX2) (T := TX2) (N := 8) hx hb hts mu_X2_move_X2 hown hE.1 hP 0 rfl rfl 1 (by decide) (hts _ mw_X2_move_3) (fun _ h9 => h9) rfl dX2_move_124 ?_
          refine lv_dup2_11 hx hb dX2_move_127 rfl rfl ?_
          refine r_iald hx hb hE.1 hP 2 rfl (i := tu) (by omega) (by omega) (by decide) dX2_move_128 ?_
          refine r_iconst hx hb dX2_move_129 ?_
          refine r_iadd hx hb dX2_move_130 ?_
          refine r_iast hx hb hE.1 hP hD hS 2 (P := C) rfl (i := tu) (v := (C (tu)) + (1)) (by omega) (by omega) (by decide) (ws1 := [(g0, .inr (2, [.ref g1, .int (iI (tu)), .int (iI (ph)), .int (iI (mo)), .int (iI (gc)), .ref g2, .ref g3, .int (iI (0))])), (g1, .inl (cI, 16, .inl (aI (syP P (z106) ((1) - ((z45) % (2))) 16)))), (g2, .inl (cI, 4, .inl (aI (uI C (tu) ((C (tu)) + (1)))))), (g3, .inl (cI, 7, .inl (aI wyI)))]) rfl dX2_move_131 (fun H locs hP hD hS => ?_)
          refine lv_aload_n hx hb dX2_move_132 rfl (lv_at hl 3 rfl) ?_
          refine va_get (D := D) (ci := 2) (v := .ref g1) (C := RX2) (T := TX2) (N := 8) hx hb hts mu_X2_move_X2 hown hE.1 hP 0 rfl rfl 0 (by decide) (hts _ mw_X2_move_5) (fun _ h9 => h9) rfl dX2_move_133 ?_
          refine lv_iload_n hx hb dX2_move_136 rfl (lv_at hl 2 rfl) ?_
          refine lv_iload hx hb dX2_move_137 (lv_at hl 0 rfl) ?_
          refine r_iast hx hb hE.1 hP hD hS 1 (P := (syP P (z106) ((1) - ((z45) % (2))) 16)) rfl (i := 4 * z45 + j) (v := z90) (by omega) (by omega) (by decide) (ws1 := [(g0, .inr (2, [.ref g1, .int (iI (tu)), .int (iI (ph)), .int (iI (mo)), .int (iI (gc)), .ref g2, .ref g3, .int (iI (0))])), (g1, .inl (cI, 16, .inl (aI (uI (syP P (z106) ((1) - ((z45) % (2))) 16) (4 * z45 + j) (z90))))), (g2, .inl (cI, 4, .inl (aI (uI C (tu) ((C (tu)) + (1)))))), (g3, .inl (cI, 7, .inl (aI wyI)))]) rfl dX2_move_139 (fun H locs hP hD hS => ?_)
          refine lv_aload_n hx hb dX2_move_140 rfl (lv_at hl 3 rfl) ?_
          refine lv_aload_n hx hb dX2_move_141 rfl (lv_at hl 3 rfl) ?_
          refine lv_aload_n hx hb dX2_move_142 rfl (lv_at hl 3 rfl) ?_
          refine va_get (D := D) (ci := 2) (v := .int (iI (tu))) (C := RX2) (T := TX2) (N := 8) hx hb hts mu_X2_move_X2 hown hE.1 hP 0 rfl rfl 1 (by decide) (hts _ mw_X2_move_3) (fun _ h9 => h9) rfl dX2_move_143 ?_
          refine r_iconst hx hb dX2_move_146 ?_
          refine r_irem hx hb dX2_move_147 (by omega) (by omega) ?_
          refine r_callV (As := [.int (iI ((tu) % (2)))]) (rest := [.ref g0]) S (c_X2_isWon l D cI cL tw (g0) (g1) (g2) (g3) (tu) (ph) (mo) (gc) (0) ((uI (syP P (z106) ((1) - ((z45) % (2))) 16) (4 * z45 + j) (z90))) ((uI C (tu) ((C (tu)) + (1)))) ((tu) % (2)) (uI_rng (by first | exact hB | exact syP_rng hB) (by omega)) (by omega)) gX2_move_X2_isWon rfl rfl rfl ⟨rfl, f_X2_isWon⟩ hR (Nat.le_of_ble_eq_true rfl) (Nat.le_of_ble_eq_true rfl) (hE.kept hS.2.1) hP [0, 1, 2, 3] rfl 0 rfl rfl rfl hl.1 rfl (Nat.le_of_ble_eq_true rfl) dX2_move_148 ⟨Nat.zero_le _, Nat.zero_le _⟩ (fun z148 hz148 => ?_)
          rcases hz148 with ⟨rfl, hz148⟩ | ⟨rfl, hz148⟩
          · refine r_if_eq (tgt := 158) hx hb dX2_move_151 (by decide) (by unfold rI; decide) (fun h9 => absurd h9 (by omega)) (fun h151 => ?_)
            refine r_iconst hx hb dX2_move_154 ?_
            refine lv_goto (tgt := 159) hx hb dX2_move_155 (by decide) ?_
            refine va_put (D := D) (ci := 2) (v := .int (iI (2))) (ty := .int) (C := RX2) (T := TX2) (N := 8) hx hb hts mu_X2_move_X2 tyX2 tyX2_ok nmX2 hown hE.1 hP hD hS 0 rfl rfl 2 (by decide) (hts _ mw_X2_move_0) (fun _ h9 => h9) rfl (by decide +kernel) rfl rfl (Nat.le_of_ble_eq_true rfl) dX2_move_159 (fun H locs hP hD hS => ?_)
            have hP : va_P D vwCl [(g0, .inr (2, [.ref g1, .int (iI (tu)), .int (iI (2)), .int (iI (mo)), .int (iI (gc)), .ref g2, .ref g3, .int (iI (0))])), (g1, .inl (cI, 16, .inl (aI (uI (syP P (z106) ((1) - ((z45) % (2))) 16) (4 * z45 + j) (z90))))), (g2, .inl (cI, 4, .inl (aI (uI C (tu) ((C (tu)) + (1)))))), (g3, .inl (cI, 7, .inl (aI wyI)))] H := hP
            have hD : va_D A [(g0, .inr (2, [.ref g1, .int (iI (tu)), .int (iI (2)), .int (iI (mo)), .int (iI (gc)), .ref g2, .ref g3, .int (iI (0))])), (g1, .inl (cI, 16, .inl (aI (uI (syP P (z106) ((1) - ((z45) % (2))) 16) (4 * z45 + j) (z90))))), (g2, .inl (cI, 4, .inl (aI (uI C (tu) ((C (tu)) + (1)))))), (g3, .inl (cI, 7, .inl (aI wyI)))] := hD
            refine lv_aload_n hx hb dX2_move_162 rfl (lv_at hl 3 rfl) ?_
            refine va_get (D := D) (ci := 2) (v := .int (iI (2))) (C := RX2) (T := TX2) (N := 8) hx hb hts mu_X2_move_X2 hown hE.1 hP 0 rfl rfl 2 (by decide) (hts _ mw_X2_move_0) (fun _ h9 => h9) rfl dX2_move_163 ?_
            refine r_if_ne (tgt := 188) hx hb dX2_move_166 (by decide) (by unfold rI; decide) (fun h166 => ?_) (fun h9 => absurd h9 (by omega))
            refine lv_iload_n hx hb dX2_move_188 rfl (lv_at hl 1 rfl) ?_
            refine r_iconst hx hb dX2_move_189 ?_
            refine r_icmp_ne (tgt := 201) hx hb dX2_move_190 (by decide) (by unfold rI; omega) (by unfold rI; decide) (fun h190 => ?_) (fun h190 => ?_)
            · refine lv_iload hx hb dX2_move_201 (lv_at hl 0 rfl) ?_
              exact hret (z90) (0, tu, gc, 2, (uI (syP P (z106) ((1) - ((z45) % (2))) 16) (4 * z45 + j) (z90)), (uI C (tu) ((C (tu)) + (1)))) _ _ _ _ dX2_move_203 (by (try dsimp only); have em := mvP_c (by rw [← hz58]; omega) (by omega) hz90 hz106; refine Or.inl ⟨by omega, by omega, by omega, rfl, ?_⟩; unfold mvR; rw [← hz45, em]; refine ⟨by rw [← hz58]; omega, rfl, by rw [if_pos (by rw [← hz58]; omega)], by rw [if_pos (by rw [← hz58]; omega)]; omega, ?_⟩; exact Or.inl ⟨(won_team (by omega)).mpr hz148, rfl, rfl, rfl⟩) hP hD hS
            · refine lv_iload hx hb dX2_move_193 (lv_at hl 0 rfl) ?_
              refine r_bipush hx hb dX2_move_195 (by decide) ?_
              refine r_iadd hx hb dX2_move_197 ?_
              refine lv_goto (tgt := 203) hx hb dX2_move_198 (by decide) ?_
              exact hret ((z90) + (100)) (0, tu, gc, 2, (uI (syP P (z106) ((1) - ((z45) % (2))) 16) (4 * z45 + j) (z90)), (uI C (tu) ((C (tu)) + (1)))) _ _ _ _ dX2_move_203 (by (try dsimp only); have em := mvP_c (by rw [← hz58]; omega) (by omega) hz90 hz106; refine Or.inl ⟨by omega, by omega, by omega, rfl, ?_⟩; unfold mvR; rw [← hz45, em]; refine ⟨by rw [← hz58]; omega, rfl, by rw [if_pos (by rw [← hz58]; omega)], by rw [if_pos (by rw [← hz58]; omega)]; omega, ?_⟩; exact Or.inl ⟨(won_team (by omega)).mpr hz148, rfl, rfl, rfl⟩) hP hD hS
          · refine r_if_eq (tgt := 158) hx hb dX2_move_151 (by decide) (by unfold rI; decide) (fun h151 => ?_) (fun h9 => absurd h9 (by omega))
            refine r_iconst hx hb dX2_move_158 ?_
            refine va_put (D := D) (ci := 2) (v := .int (iI (0))) (ty := .int) (C := RX2) (T := TX2) (N := 8) hx hb hts mu_X2_move_X2 tyX2 tyX2_ok nmX2 hown hE.1 hP hD hS 0 rfl rfl 2 (by decide) (hts _ mw_X2_move_0) (fun _ h9 => h9) rfl (by decide +kernel) rfl rfl (Nat.le_of_ble_eq_true rfl) dX2_move_159 (fun H locs hP hD hS => ?_)
            have hP : va_P D vwCl [(g0, .inr (2, [.ref g1, .int (iI (tu)), .int (iI (0)), .int (iI (mo)), .int (iI (gc)), .ref g2, .ref g3, .int (iI (0))])), (g1, .inl (cI, 16, .inl (aI (uI (syP P (z106) ((1) - ((z45) % (2))) 16) (4 * z45 + j) (z90))))), (g2, .inl (cI, 4, .inl (aI (uI C (tu) ((C (tu)) + (1)))))), (g3, .inl (cI, 7, .inl (aI wyI)))] H := hP
            have hD : va_D A [(g0, .inr (2, [.ref g1, .int (iI (tu)), .int (iI (0)), .int (iI (mo)), .int (iI (gc)), .ref g2, .ref g3, .int (iI (0))])), (g1, .inl (cI, 16, .inl (aI (uI (syP P (z106) ((1) - ((z45) % (2))) 16) (4 * z45 + j) (z90))))), (g2, .inl (cI, 4, .inl (aI (uI C (tu) ((C (tu)) + (1)))))), (g3, .inl (cI, 7, .inl (aI wyI)))] := hD
            refine lv_aload_n hx hb dX2_move_162 rfl (lv_at hl 3 rfl) ?_
            refine va_get (D := D) (ci := 2) (v := .int (iI (0))) (C := RX2) (T := TX2) (N := 8) hx hb hts mu_X2_move_X2 hown hE.1 hP 0 rfl rfl 2 (by decide) (hts _ mw_X2_move_0) (fun _ h9 => h9) rfl dX2_move_163 ?_
            refine r_if_ne (tgt := 188) hx hb dX2_move_166 (by decide) (by unfold rI; decide) (fun h9 => absurd h9 (by omega)) (fun h166 => ?_)
            refine lv_iload_n hx hb dX2_move_169 rfl (lv_at hl 1 rfl) ?_
            refine r_iconst hx hb dX2_move_170 ?_
            refine r_icmp_ge (tgt := 188) hx hb dX2_move_171 (by decide) (by unfold rI; omega) (by unfold rI; decide) (fun h171 => ?_) (fun h171 => ?_)
            · refine lv_iload_n hx hb dX2_move_188 rfl (lv_at hl 1 rfl) ?_
              refine r_iconst hx hb dX2_move_189 ?_
              refine r_icmp_ne (tgt := 201) hx hb dX2_move_190 (by decide) (by unfold rI; omega) (by unfold rI; decide) (fun h190 => ?_) (fun h190 => ?_)
              · refine lv_iload hx hb dX2_move_201 (lv_at hl 0 rfl) ?_
                exact hret (z90) (0, tu, gc, 0, (uI (syP P (z106) ((1) - ((z45) % (2))) 16) (4 * z45 + j) (z90)), (uI C (tu) ((C (tu)) + (1)))) _ _ _ _ dX2_move_203 (by (try dsimp only); have em := mvP_c (by rw [← hz58]; omega) (by omega) hz90 hz106; refine Or.inl ⟨by omega, by omega, by omega, rfl, ?_⟩; unfold mvR; rw [← hz45, em]; refine ⟨by rw [← hz58]; omega, rfl, by rw [if_pos (by rw [← hz58]; omega)], by rw [if_pos (by rw [← hz58]; omega)]; omega, ?_⟩; refine Or.inr ⟨fun q => hz148 ((won_team (by omega)).mp q), rfl, ?_⟩; exact Or.inl ⟨Or.inl (by rw [← hz58]; omega), rfl, rfl⟩) hP hD hS
              · refine lv_iload hx hb dX2_move_193 (lv_at hl 0 rfl) ?_
                refine r_bipush hx hb dX2_move_195 (by decide) ?_
                refine r_iadd hx hb dX2_move_197 ?_
                refine lv_goto (tgt := 203) hx hb dX2_move_198 (by decide) ?_
                exact hret ((z90) + (100)) (0, tu, gc, 0, (uI (syP P (z106) ((1) - ((z45) % (2))) 16) (4 * z45 + j) (z90)), (uI C (tu) ((C (tu)) + (1)))) _ _ _ _ dX2_move_203 (by (try dsimp only); have em := mvP_c (by rw [← hz58]; omega) (by omega) hz90 hz106; refine Or.inl ⟨by omega, by omega, by omega, rfl, ?_⟩; unfold mvR; rw [← hz45, em]; refine ⟨by rw [← hz58]; omega, rfl, by rw [if_pos (by rw [← hz58]; omega)], by rw [if_pos (by rw [← hz58]; omega)]; omega, ?_⟩; refine Or.inr ⟨fun q => hz148 ((won_team (by omega)).mp q), rfl, ?_⟩; exact Or.inl ⟨Or.inl (by rw [← hz58]; omega), rfl, rfl⟩) hP hD hS
            · refine lv_aload_n hx hb dX2_move_174 rfl (lv_at hl 3 rfl) ?_
              refine va_get (D := D) (ci := 2) (v := .int (iI (mo))) (C := RX2) (T := TX2) (N := 8) hx hb hts mu_X2_move_X2 hown hE.1 hP 0 rfl rfl 3 (by decide) (hts _ mw_X2_move_4) (fun _ h9 => h9) rfl dX2_move_175 ?_
              refine r_callS (As := [.int (iI (mo))]) (rest := []) S (c_X2_isGrace l D cI cL tw (mo) (by omega)) gX2_move_X2_isGrace rfl rfl rfl f_X2_isGrace hR (Nat.le_of_ble_eq_true rfl) (Nat.le_of_ble_eq_true rfl) (hE.kept hS.2.1) rfl hl.1 rfl (Nat.le_of_ble_eq_true rfl) dX2_move_178 ⟨Nat.zero_le _, Nat.zero_le _⟩ (fun z178 hz178 => ?_)
              rcases hz178 with ⟨rfl, hz178⟩ | ⟨rfl, hz178⟩
              · refine r_if_ne (tgt := 188) hx hb dX2_move_181 (by decide) (by unfold rI; decide) (fun h181 => ?_) (fun h9 => absurd h9 (by omega))
                refine lv_iload_n hx hb dX2_move_188 rfl (lv_at hl 1 rfl) ?_
                refine r_iconst hx hb dX2_move_189 ?_
                refine r_icmp_ne (tgt := 201) hx hb dX2_move_190 (by decide) (by unfold rI; omega) (by unfold rI; decide) (fun h190 => ?_) (fun h190 => ?_)
                · refine lv_iload hx hb dX2_move_201 (lv_at hl 0 rfl) ?_
                  exact hret (z90) (0, tu, gc, 0, (uI (syP P (z106) ((1) - ((z45) % (2))) 16) (4 * z45 + j) (z90)), (uI C (tu) ((C (tu)) + (1)))) _ _ _ _ dX2_move_203 (by (try dsimp only); have em := mvP_c (by rw [← hz58]; omega) (by omega) hz90 hz106; refine Or.inl ⟨by omega, by omega, by omega, rfl, ?_⟩; unfold mvR; rw [← hz45, em]; refine ⟨by rw [← hz58]; omega, rfl, by rw [if_pos (by rw [← hz58]; omega)], by rw [if_pos (by rw [← hz58]; omega)]; omega, ?_⟩; refine Or.inr ⟨fun q => hz148 ((won_team (by omega)).mp q), rfl, ?_⟩; exact Or.inl ⟨Or.inr hz178, rfl, rfl⟩) hP hD hS
                · refine lv_iload hx hb dX2_move_193 (lv_at hl 0 rfl) ?_
                  refine r_bipush hx hb dX2_move_195 (by decide) ?_
                  refine r_iadd hx hb dX2_move_197 ?_
                  refine lv_goto (tgt := 203) hx hb dX2_move_198 (by decide) ?_
                  exact hret ((z90) + (100)) (0, tu, gc, 0, (uI (syP P (z106) ((1) - ((z45) % (2))) 16) (4 * z45 + j) (z90)), (uI C (tu) ((C (tu)) + (1)))) _ _ _ _ dX2_move_203 (by (try dsimp only); have em := mvP_c (by rw [← hz58]; omega) (by omega) hz90 hz106; refine Or.inl ⟨by omega, by omega, by omega, rfl, ?_⟩; unfold mvR; rw [← hz45, em]; refine ⟨by rw [← hz58]; omega, rfl, by rw [if_pos (by rw [← hz58]; omega)], by rw [if_pos (by rw [← hz58]; omega)]; omega, ?_⟩; refine Or.inr ⟨fun q => hz148 ((won_team (by omega)).mp q), rfl, ?_⟩; exact Or.inl ⟨Or.inr hz178, rfl, rfl⟩) hP hD hS
              · refine r_if_ne (tgt := 188) hx hb dX2_move_181 (by decide) (by unfold rI; decide) (fun h9 => absurd h9 (by omega)) (fun h181 => ?_)
                refine lv_aload_n hx hb dX2_move_184 rfl (lv_at hl 3 rfl) ?_
                refine r_callVv (As := []) (rest := []) (wr := []) S (c_X2_next l D cI cL tw (g0) (g1) (g2) (g3) (tu) (0) (mo) (gc) (0) ((uI (syP P (z106) ((1) - ((z45) % (2))) 16) (4 * z45 + j) (z90))) ((uI C (tu) ((C (tu)) + (1)))) (uI_rng (by first | exact hB | exact syP_rng hB) (by omega)) (by omega)) gX2_move_X2_next rfl rfl rfl ⟨rfl, f_X2_next⟩ hR (Nat.le_of_ble_eq_true rfl) (Nat.le_of_ble_eq_true rfl) (hE.kept hS.2.1) hP hD hS hA [0, 1, 2, 3] [] rfl rfl (by decide) rfl (by decide) (by decide) 0 rfl rfl rfl hl.1 rfl (Nat.le_of_ble_eq_true rfl) dX2_move_185 ⟨Nat.zero_le _, Nat.zero_le _⟩ (fun u185 H locs hz185 hP hD hS => ?_)
                have hP : va_P D vwCl [(g0, .inr (2, [.ref g1, .int (iI ((tu + 1) % 4)), .int (iI (0)), .int (iI (mo)), .int (iI (0)), .ref g2, .ref g3, .int (iI (0))])), (g1, .inl (cI, 16, .inl (aI (uI (syP P (z106) ((1) - ((z45) % (2))) 16) (4 * z45 + j) (z90))))), (g2, .inl (cI, 4, .inl (aI (uI C (tu) ((C (tu)) + (1)))))), (g3, .inl (cI, 7, .inl (aI wyI)))] H := hP.sub [0, 1, 2, 3] rfl
                have hD : va_D A [(g0, .inr (2, [.ref g1, .int (iI ((tu + 1) % 4)), .int (iI (0)), .int (iI (mo)), .int (iI (0)), .ref g2, .ref g3, .int (iI (0))])), (g1, .inl (cI, 16, .inl (aI (uI (syP P (z106) ((1) - ((z45) % (2))) 16) (4 * z45 + j) (z90))))), (g2, .inl (cI, 4, .inl (aI (uI C (tu) ((C (tu)) + (1)))))), (g3, .inl (cI, 7, .inl (aI wyI)))] := hD.sub [0, 1, 2, 3] (by decide) rfl
                refine lv_iload_n hx hb dX2_move_188 rfl (lv_at hl 1 rfl) ?_
                refine r_iconst hx hb dX2_move_189 ?_
                refine r_icmp_ne (tgt := 201) hx hb dX2_move_190 (by decide) (by unfold rI; omega) (by unfold rI; decide) (fun h190 => ?_) (fun h190 => ?_)
                · refine lv_iload hx hb dX2_move_201 (lv_at hl 0 rfl) ?_
                  exact hret (z90) (0, (tu + 1) % 4, 0, 0, (uI (syP P (z106) ((1) - ((z45) % (2))) 16) (4 * z45 + j) (z90)), (uI C (tu) ((C (tu)) + (1)))) _ _ _ _ dX2_move_203 (by (try dsimp only); have em := mvP_c (by rw [← hz58]; omega) (by omega) hz90 hz106; refine Or.inl ⟨by omega, by omega, by omega, rfl, ?_⟩; unfold mvR; rw [← hz45, em]; refine ⟨by rw [← hz58]; omega, rfl, by rw [if_pos (by rw [← hz58]; omega)], by rw [if_pos (by rw [← hz58]; omega)]; omega, ?_⟩; refine Or.inr ⟨fun q => hz148 ((won_team (by omega)).mp q), rfl, ?_⟩; exact Or.inr ⟨by rw [← hz58]; omega, hz178, rfl, rfl⟩) hP hD hS
                · refine lv_iload hx hb dX2_move_193 (lv_at hl 0 rfl) ?_
                  refine r_bipush hx hb dX2_move_195 (by decide) ?_
                  refine r_iadd hx hb dX2_move_197 ?_
                  refine lv_goto (tgt := 203) hx hb dX2_move_198 (by decide) ?_
                  exact hret ((z90) + (100)) (0, (tu + 1) % 4, 0, 0, (uI (syP P (z106) ((1) - ((z45) % (2))) 16) (4 * z45 + j) (z90)), (uI C (tu) ((C (tu)) + (1)))) _ _ _ _ dX2_move_203 (by (try dsimp only); have em := mvP_c (by rw [← hz58]; omega) (by omega) hz90 hz106; refine Or.inl ⟨by omega, by omega, by omega, rfl, ?_⟩; unfold mvR; rw [← hz45, em]; refine ⟨by rw [← hz58]; omega, rfl, by rw [if_pos (by rw [← hz58]; omega)], by rw [if_pos (by rw [← hz58]; omega)]; omega, ?_⟩; refine Or.inr ⟨fun q => hz148 ((won_team (by omega)).mp q), rfl, ?_⟩; exact Or.inr ⟨by rw [← hz58]; omega, hz178, rfl, rfl⟩) hP hD hS
      · refine r_iconst hx hb dX2_move_67 ?_
        refine lv_goto (tgt := 72) hx hb dX2_move_68 (by decide) ?_
        refine va_put (D := D) (ci := 2) (v := .int (iI (2))) (ty := .int) (C := RX2) (T := TX2) (N := 8) hx hb hts mu_X2_move_X2 tyX2 tyX2_ok nmX2 hown hE.1 hP hD hS 0 rfl rfl 7 (by decide) (hts _ mw_X2_move_2) (fun _ h9 => h9) rfl (by decide +kernel) rfl rfl (Nat.le_of_ble_eq_true rfl) dX2_move_72 (fun H locs hP hD hS => ?_)
        have hP : va_P D vwCl [(g0, .inr (2, [.ref g1, .int (iI (tu)), .int (iI (ph)), .int (iI (mo)), .int (iI (gc)), .ref g2, .ref g3, .int (iI (2))])), (g1, .inl (cI, 16, .inl (aI P))), (g2, .inl (cI, 4, .inl (aI C))), (g3, .inl (cI, 7, .inl (aI wyI)))] H := hP
        have hD : va_D A [(g0, .inr (2, [.ref g1, .int (iI (tu)), .int (iI (ph)), .int (iI (mo)), .int (iI (gc)), .ref g2, .ref g3, .int (iI (2))])), (g1, .inl (cI, 16, .inl (aI P))), (g2, .inl (cI, 4, .inl (aI C))), (g3, .inl (cI, 7, .inl (aI wyI)))] := hD
        refine lv_aload_n hx hb dX2_move_75 rfl (lv_at hl 2 rfl) ?_
        refine va_get (D := D) (ci := 2) (v := .int (iI (2))) (C := RX2) (T := TX2) (N := 8) hx hb hts mu_X2_move_X2 hown hE.1 hP 0 rfl rfl 7 (by decide) (hts _ mw_X2_move_2) (fun _ h9 => h9) rfl dX2_move_76 ?_
        refine r_if_le (tgt := 84) hx hb dX2_move_79 (by decide) (by unfold rI; decide) (fun h9 => absurd h9 (by omega)) (fun h79 => ?_)
        refine r_iconst hx hb dX2_move_82 ?_
        exact hret (0) (2, tu, gc, ph, P, C) _ _ _ _ dX2_move_83 (by (try dsimp only); refine Or.inr ?_; first | exact Or.inl ⟨by omega, rfl, rfl, rfl, rfl, rfl, rfl, rfl⟩ | exact Or.inr ⟨by omega, by omega, by first | (left; omega) | (right; rw [← hz45, ← hz58]; omega), rfl, rfl, rfl, rfl, rfl, rfl, rfl⟩) hP hD hS
    · refine r_iconst hx hb dX2_move_22 ?_
      refine lv_goto (tgt := 27) hx hb dX2_move_23 (by decide) ?_
      refine va_put (D := D) (ci := 2) (v := .int (iI (2))) (ty := .int) (C := RX2) (T := TX2) (N := 8) hx hb hts mu_X2_move_X2 tyX2 tyX2_ok nmX2 hown hE.1 hP hD hS 0 rfl rfl 7 (by decide) (hts _ mw_X2_move_2) (fun _ h9 => h9) rfl (by decide +kernel) rfl rfl (Nat.le_of_ble_eq_true rfl) dX2_move_27 (fun H locs hP hD hS => ?_)
      have hP : va_P D vwCl [(g0, .inr (2, [.ref g1, .int (iI (tu)), .int (iI (ph)), .int (iI (mo)), .int (iI (gc)), .ref g2, .ref g3, .int (iI (2))])), (g1, .inl (cI, 16, .inl (aI P))), (g2, .inl (cI, 4, .inl (aI C))), (g3, .inl (cI, 7, .inl (aI wyI)))] H := hP
      have hD : va_D A [(g0, .inr (2, [.ref g1, .int (iI (tu)), .int (iI (ph)), .int (iI (mo)), .int (iI (gc)), .ref g2, .ref g3, .int (iI (2))])), (g1, .inl (cI, 16, .inl (aI P))), (g2, .inl (cI, 4, .inl (aI C))), (g3, .inl (cI, 7, .inl (aI wyI)))] := hD
      refine lv_aload_n hx hb dX2_move_30 rfl (lv_at hl 0 rfl) ?_
      refine va_get (D := D) (ci := 2) (v := .int (iI (2))) (C := RX2) (T := TX2) (N := 8) hx hb hts mu_X2_move_X2 hown hE.1 hP 0 rfl rfl 7 (by decide) (hts _ mw_X2_move_2) (fun _ h9 => h9) rfl dX2_move_31 ?_
      refine r_if_le (tgt := 39) hx hb dX2_move_34 (by decide) (by unfold rI; decide) (fun h9 => absurd h9 (by omega)) (fun h34 => ?_)
      refine r_iconst hx hb dX2_move_37 ?_
      exact hret (0) (2, tu, gc, ph, P, C) _ _ _ _ dX2_move_38 (by (try dsimp only); refine Or.inr ?_; first | exact Or.inl ⟨by omega, rfl, rfl, rfl, rfl, rfl, rfl, rfl⟩ | exact Or.inr ⟨by omega, by omega, by first | (left; omega) | (right; rw [← hz45, ← hz58]; omega), rfl, rfl, rfl, rfl, rfl, rfl, rfl⟩) hP hD hS
  · refine r_if_ne (tgt := 14) hx hb dX2_move_7 (by decide) (by unfold rI; decide) (fun h9 => absurd h9 (by omega)) (fun h7 => ?_)
    refine r_iconst hx hb dX2_move_10 ?_
    refine lv_goto (tgt := 27) hx hb dX2_move_11 (by decide) ?_
    refine va_put (D := D) (ci := 2) (v := .int (iI (1))) (ty := .int) (C := RX2) (T := TX2) (N := 8) hx hb hts mu_X2_move_X2 tyX2 tyX2_ok nmX2 hown hE.1 hP hD hS 0 rfl rfl 7 (by decide) (hts _ mw_X2_move_2) (fun _ h9 => h9) rfl (by decide +kernel) rfl rfl (Nat.le_of_ble_eq_true rfl) dX2_move_27 (fun H locs hP hD hS => ?_)
    have hP : va_P D vwCl [(g0, .inr (2, [.ref g1, .int (iI (tu)), .int (iI (ph)), .int (iI (mo)), .int (iI (gc)), .ref g2, .ref g3, .int (iI (1))])), (g1, .inl (cI, 16, .inl (aI P))), (g2, .inl (cI, 4, .inl (aI C))), (g3, .inl (cI, 7, .inl (aI wyI)))] H := hP
    have hD : va_D A [(g0, .inr (2, [.ref g1, .int (iI (tu)), .int (iI (ph)), .int (iI (mo)), .int (iI (gc)), .ref g2, .ref g3, .int (iI (1))])), (g1, .inl (cI, 16, .inl (aI P))), (g2, .inl (cI, 4, .inl (aI C))), (g3, .inl (cI, 7, .inl (aI wyI)))] := hD
    refine lv_aload_n hx hb dX2_move_30 rfl (lv_at hl 0 rfl) ?_
    refine va_get (D := D) (ci := 2) (v := .int (iI (1))) (C := RX2) (T := TX2) (N := 8) hx hb hts mu_X2_move_X2 hown hE.1 hP 0 rfl rfl 7 (by decide) (hts _ mw_X2_move_2) (fun _ h9 => h9) rfl dX2_move_31 ?_
    refine r_if_le (tgt := 39) hx hb dX2_move_34 (by decide) (by unfold rI; decide) (fun h9 => absurd h9 (by omega)) (fun h34 => ?_)
    refine r_iconst hx hb dX2_move_37 ?_
    exact hret (0) (1, tu, gc, ph, P, C) _ _ _ _ dX2_move_38 (by (try dsimp only); refine Or.inr ?_; first | exact Or.inl ⟨by omega, rfl, rfl, rfl, rfl, rfl, rfl, rfl⟩ | exact Or.inr ⟨by omega, by omega, by first | (left; omega) | (right; rw [← hz45, ← hz58]; omega), rfl, rfl, rfl, rfl, rfl, rfl, rfl⟩) hP hD hS
