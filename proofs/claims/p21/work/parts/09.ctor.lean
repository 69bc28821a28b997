set_option maxRecDepth 20000 in
theorem mw_X0_init_0 : (.methodLink RX0 3 objectInit : Cond) ∈ wsX0_init := by decide +kernel
set_option maxRecDepth 20000 in
theorem mw_X0_init_1 : (.instanceMethod objectInit : Cond) ∈ wsX0_init := by decide +kernel
set_option maxRecDepth 20000 in
theorem mw_X0_init_2 : (.code objectInit ⟨#[0xb1]⟩ 1 none : Cond) ∈ wsX0_init := by decide +kernel
set_option maxRecDepth 20000 in
theorem mw_X0_init_3 : (.arrayClass .int : Cond) ∈ wsX0_init := by decide +kernel
set_option maxRecDepth 20000 in
theorem mw_X0_init_4 : (.fieldLink RX0 9 "PachisiYard$Board" "positions" "[I" : Cond) ∈ wsX0_init := by decide +kernel
set_option maxRecDepth 20000 in
theorem mu_X0_init_X0 : ∀ w ∈ wsX00, w ∈ wsX0_init := by decide +kernel
set_option maxRecDepth 20000 in
theorem mw_X0_init_6 : (.fieldLink RX0 15 "PachisiYard$Board" "counts" "[I" : Cond) ∈ wsX0_init := by decide +kernel
theorem f_X0_init : yX0_init.cls ≠ "java/lang/invoke/MethodHandle" ∧ yX0_init.cls ≠ "java/lang/invoke/VarHandle" ∧ (parseMethodDescriptor yX0_init.desc).map (fun d => d.parameters.length) = some 0 := by decide +kernel
set_option maxHeartbeats 4000000 in
set_option maxRecDepth 100000 in
theorem c_X0_init (l : Launch) (D : va_G) (cI cL : ClassId) (tw : Nat) (b : Nat) : RWc l yX0_init wsX0_init { frames := 1, cells := 2, slots := 152, locals := 40 } D cI cL tw [.ref b] [(b, .inr (0, [.null, .null]))] (fun u : Nat × Nat => [(b, .inr (0, [.ref u.1, .ref u.2])), (u.1, .inl (cI, 16, .inl (aI (fun _ => 0)))), (u.2, .inl (cI, 136, .inl (aI (cnt (fun _ => 0)))))]) 2 152 := by
  refine rwc_of (cc := cX0_init) (maxL := 1) (own := RX0) (by decide) rfl rfl rfl (Nat.le_of_ble_eq_true rfl) ?_
  intro p e R s mt args below meth c H0 Q ls A S hR hRc hin hE hP hD hS hA hl hret
  obtain ⟨hx, hb, hml, hown, hts⟩ := id S
  have hl : lv_has ls 1 [(0, .ref b)] := hl
  refine lv_aload_n hx hb dX0_init_0 rfl (lv_at hl 0 rfl) ?_
  refine r_objInit S hR (Nat.le_of_ble_eq_true rfl) (Nat.le_of_ble_eq_true rfl) (hts _ mw_X0_init_0) (hts _ mw_X0_init_1) (hts _ mw_X0_init_2) hl.1 (Nat.le_of_ble_eq_true rfl) dX0_init_1 ?_
  refine lv_aload_n hx hb dX0_init_4 rfl (lv_at hl 0 rfl) ?_
  refine r_bipush hx hb dX0_init_5 (by decide) ?_
  refine r_newaI hx hb (hts _ mw_X0_init_3) hE hP hD hS hA (N := 16) rfl (by decide) ⟨Nat.le_trans (Nat.le_of_ble_eq_true rfl) hRc.1, Nat.le_trans (Nat.le_of_ble_eq_true rfl) hRc.2⟩ dX0_init_7 (fun q7 H hP hD hS => ?_)
  have hP : va_P D vwCl [(b, .inr (0, [.null, .null])), (q7, .inl (cI, 16, .inl (aI (fun _ => 0))))] H := hP
  have hD : va_D A [(b, .inr (0, [.null, .null])), (q7, .inl (cI, 16, .inl (aI (fun _ => 0))))] := hD
  refine va_putF (D := D) (ci := 0) (v := .ref q7) (ty := .array .int) (C := RX0) (T := TX0) (N := 2) hx hb hts mu_X0_init_X0 tyX0 tyX0_ok nmX0 hown hE.1 hP hD hS 0 rfl rfl 0 (by decide) (hts _ mw_X0_init_4) (fun _ h9 => h9) rfl hin rfl (by decide +kernel) rfl rfl (Nat.le_of_ble_eq_true rfl) dX0_init_9 (fun H locs hP hD hS => ?_)
  have hP : va_P D vwCl [(b, .inr (0, [.ref q7, .null])), (q7, .inl (cI, 16, .inl (aI (fun _ => 0))))] H := hP
  have hD : va_D A [(b, .inr (0, [.ref q7, .null])), (q7, .inl (cI, 16, .inl (aI (fun _ => 0))))] := hD
  refine lv_aload_n hx hb dX0_init_12 rfl (lv_at hl 0 rfl) ?_
  refine r_sipush hx hb dX0_init_13 (by decide) ?_
  refine r_newaI hx hb (hts _ mw_X0_init_3) hE hP hD hS hA (N := 136) rfl (by decide) ⟨Nat.le_trans (Nat.le_of_ble_eq_true rfl) hRc.1, Nat.le_trans (Nat.le_of_ble_eq_true rfl) hRc.2⟩ dX0_init_16 (fun q16 H hP hD hS => ?_)
  have hP : va_P D vwCl [(b, .inr (0, [.ref q7, .null])), (q7, .inl (cI, 16, .inl (aI (fun _ => 0)))), (q16, .inl (cI, 136, .inl (aI (fun _ => 0))))] H := hP
  have hD : va_D A [(b, .inr (0, [.ref q7, .null])), (q7, .inl (cI, 16, .inl (aI (fun _ => 0)))), (q16, .inl (cI, 136, .inl (aI (fun _ => 0))))] := hD
  refine va_putF (D := D) (ci := 0) (v := .ref q16) (ty := .array .int) (C := RX0) (T := TX0) (N := 2) hx hb hts mu_X0_init_X0 tyX0 tyX0_ok nmX0 hown hE.1 hP hD hS 0 rfl rfl 1 (by decide) (hts _ mw_X0_init_6) (fun _ h9 => h9) rfl hin rfl (by decide +kernel) rfl rfl (Nat.le_of_ble_eq_true rfl) dX0_init_18 (fun H locs hP hD hS => ?_)
  have hP : va_P D vwCl [(b, .inr (0, [.ref q7, .ref q16])), (q7, .inl (cI, 16, .inl (aI (fun _ => 0)))), (q16, .inl (cI, 136, .inl (aI (fun _ => 0))))] H := hP
  have hD : va_D A [(b, .inr (0, [.ref q7, .ref q16])), (q7, .inl (cI, 16, .inl (aI (fun _ => 0)))), (q16, .inl (cI, 136, .inl (aI (fun _ => 0))))] := hD
  
  exact hret (q7, q16) _ _ _ _ _ _ dX0_init_21 (by rw [cnt_0]; exact hP.sub [0, 1, 2] rfl) (by rw [cnt_0]; exact hD.sub [0, 1, 2] (by decide) rfl) hS (Nat.le_of_ble_eq_true rfl) (Nat.le_of_ble_eq_true rfl)

set_option maxRecDepth 20000 in
theorem mw_X1_init_0 : (.methodLink RX1 1 objectInit : Cond) ∈ wsX1_init := by decide +kernel
set_option maxRecDepth 20000 in
theorem mw_X1_init_1 : (.instanceMethod objectInit : Cond) ∈ wsX1_init := by decide +kernel
set_option maxRecDepth 20000 in
theorem mw_X1_init_2 : (.code objectInit ⟨#[0xb1]⟩ 1 none : Cond) ∈ wsX1_init := by decide +kernel
set_option maxRecDepth 20000 in
theorem mu_X1_init_X0 : ∀ w ∈ wsX00, w ∈ wsX1_init := by decide +kernel
set_option maxRecDepth 20000 in
theorem mw_X1_init_4 : (.classLink RX1 7 RX0 : Cond) ∈ wsX1_init := by decide +kernel
set_option maxRecDepth 20000 in
theorem mw_X1_init_5 : (.instantiable RX0 2 : Cond) ∈ wsX1_init := by decide +kernel
set_option maxRecDepth 20000 in
theorem mw_X1_init_6 : (.initialized RX0 : Cond) ∈ wsX1_init := by decide +kernel
set_option maxRecDepth 20000 in
theorem mw_X1_init_7 : (.methodLink RX1 9 yX0_init : Cond) ∈ wsX1_init := by decide +kernel
set_option maxRecDepth 20000 in
theorem mw_X1_init_8 : (.instanceMethod yX0_init : Cond) ∈ wsX1_init := by decide +kernel
set_option maxRecDepth 20000 in
theorem mw_X1_init_9 : (.fieldLink RX1 10 "PachisiYard" "board" "LPachisiYard$Board;" : Cond) ∈ wsX1_init := by decide +kernel
set_option maxRecDepth 20000 in
theorem mu_X1_init_X1 : ∀ w ∈ wsX10, w ∈ wsX1_init := by decide +kernel
set_option maxRecDepth 20000 in
theorem mw_X1_init_11 : (.arrayClass .int : Cond) ∈ wsX1_init := by decide +kernel
set_option maxRecDepth 20000 in
theorem mw_X1_init_12 : (.fieldLink RX1 16 "PachisiYard" "captureCounts" "[I" : Cond) ∈ wsX1_init := by decide +kernel
set_option maxRecDepth 20000 in
theorem mw_X1_init_13 : (.fieldLink RX1 20 "PachisiYard" "turn" "I" : Cond) ∈ wsX1_init := by decide +kernel
set_option maxRecDepth 20000 in
theorem mw_X1_init_14 : (.fieldLink RX1 24 "PachisiYard" "gracesInRow" "I" : Cond) ∈ wsX1_init := by decide +kernel
set_option maxRecDepth 20000 in
theorem mw_X1_init_15 : (.fieldLink RX1 27 "PachisiYard" "stage" "I" : Cond) ∈ wsX1_init := by decide +kernel
set_option maxRecDepth 20000 in
theorem mw_X1_init_16 : (.fieldLink RX1 30 "PachisiYard" "mouthsThrown" "I" : Cond) ∈ wsX1_init := by decide +kernel
theorem f_X1_init : yX1_init.cls ≠ "java/lang/invoke/MethodHandle" ∧ yX1_init.cls ≠ "java/lang/invoke/VarHandle" ∧ (parseMethodDescriptor yX1_init.desc).map (fun d => d.parameters.length) = some 0 := by decide +kernel
set_option maxHeartbeats 4000000 in
set_option maxRecDepth 100000 in
theorem c_X1_init (l : Launch) (D : va_G) (cI cL : ClassId) (tw : Nat) (y0 : Nat) : RWc l yX1_init wsX1_init { frames := 2, cells := 4, slots := 158, locals := 60 } D cI cL tw [.ref y0] [(y0, .inr (1, [.null, .null, .int (iI (0)), .int (iI (0)), .int (iI (0)), .int (iI (0))]))] (fun u : Nat × Nat × Nat × Nat => [(y0, .inr (1, [.ref u.1, .ref u.2.1, .int (iI (0)), .int (iI (0)), .int (iI (0)), .int (iI (0))])), (u.2.1, .inl (cI, 4, .inl (aI (fun _ => 0)))), (u.1, .inr (0, [.ref u.2.2.1, .ref u.2.2.2])), (u.2.2.1, .inl (cI, 16, .inl (aI (fun _ => 0)))), (u.2.2.2, .inl (cI, 136, .inl (aI (cnt (fun _ => 0)))))]) 4 158 := by
  refine rwc_of (cc := cX1_init) (maxL := 1) (own := RX1) (by decide) rfl rfl rfl (Nat.le_of_ble_eq_true rfl) ?_
  intro p e R s mt args below meth c H0 Q ls A S hR hRc hin hE hP hD hS hA hl hret
  obtain ⟨hx, hb, hml, hown, hts⟩ := id S
  have hl : lv_has ls 1 [(0, .ref y0)] := hl
  refine lv_aload_n hx hb dX1_init_0 rfl (lv_at hl 0 rfl) ?_
  refine r_objInit S hR (Nat.le_of_ble_eq_true rfl) (Nat.le_of_ble_eq_true rfl) (hts _ mw_X1_init_0) (hts _ mw_X1_init_1) (hts _ mw_X1_init_2) hl.1 (Nat.le_of_ble_eq_true rfl) dX1_init_1 ?_
  refine lv_aload_n hx hb dX1_init_4 rfl (lv_at hl 0 rfl) ?_
  refine va_new (D := D) (ci := 0) (fs := [.null, .null]) (C := RX0) (T := TX0) (N := 2) hx hb hts mu_X1_init_X0 tyX0 tyX0_ok hown (hts _ mw_X1_init_4) (hts _ mw_X1_init_5) (hts _ mw_X1_init_6) hE.1 hP hD hS hA rfl (fun j hj => by rcases (show j = 0 ∨ j = 1 by omega) with rfl | rfl <;> rfl) (Nat.le_trans (Nat.le_of_ble_eq_true rfl) hRc.1) (Nat.le_trans (Nat.le_of_ble_eq_true rfl) hRc.2) dX1_init_5 (fun q5 H hP hD hS => ?_)
  have hP : va_P D vwCl [(y0, .inr (1, [.null, .null, .int (iI (0)), .int (iI (0)), .int (iI (0)), .int (iI (0))])), (q5, .inr (0, [.null, .null]))] H := hP
  have hD : va_D A [(y0, .inr (1, [.null, .null, .int (iI (0)), .int (iI (0)), .int (iI (0)), .int (iI (0))])), (q5, .inr (0, [.null, .null]))] := hD
  refine lv_dup hx hb dX1_init_8 rfl ?_
  refine r_callC (As := []) (rest := [.ref q5, .ref y0]) (wr := [(y0, .inr (1, [.null, .null, .int (iI (0)), .int (iI (0)), .int (iI (0)), .int (iI (0))]))]) S (c_X0_init l D cI cL tw q5) gX1_init_X0_init rfl rfl rfl (hts _ mw_X1_init_6) (hts _ mw_X1_init_7) (hts _ mw_X1_init_8) rfl f_X0_init hR (Nat.le_of_ble_eq_true rfl) (Nat.le_of_ble_eq_true rfl) (hE.kept hS.2.1) hP hD hS hA [1] [0] rfl rfl (by decide) rfl (by decide) (by decide) rfl hl.1 rfl (Nat.le_of_ble_eq_true rfl) dX1_init_9 ⟨Nat.le_trans (Nat.le_of_ble_eq_true rfl) hRc.1, Nat.le_trans (Nat.le_of_ble_eq_true rfl) hRc.2⟩ (fun u9 H locs hP hD hS => ?_)
  obtain ⟨u9a, u9b⟩ := u9
  have hP : va_P D vwCl [(y0, .inr (1, [.null, .null, .int (iI (0)), .int (iI (0)), .int (iI (0)), .int (iI (0))])), (q5, .inr (0, [.ref u9a, .ref u9b])), (u9a, .inl (cI, 16, .inl (aI (fun _ => 0)))), (u9b, .inl (cI, 136, .inl (aI (cnt (fun _ => 0)))))] H := hP
  have hD : va_D A [(y0, .inr (1, [.null, .null, .int (iI (0)), .int (iI (0)), .int (iI (0)), .int (iI (0))])), (q5, .inr (0, [.ref u9a, .ref u9b])), (u9a, .inl (cI, 16, .inl (aI (fun _ => 0)))), (u9b, .inl (cI, 136, .inl (aI (cnt (fun _ => 0)))))] := hD
  refine va_putF (D := D) (ci := 1) (v := .ref q5) (ty := .object "PachisiYard$Board") (C := RX1) (T := TX1) (N := 6) hx hb hts mu_X1_init_X1 tyX1 tyX1_ok nmX1 hown hE.1 hP hD hS 0 rfl rfl 0 (by decide) (hts _ mw_X1_init_9) (fun _ h9 => h9) rfl hin rfl (by decide +kernel) rfl rfl (Nat.le_of_ble_eq_true rfl) dX1_init_12 (fun H locs hP hD hS => ?_)
  have hP : va_P D vwCl [(y0, .inr (1, [.ref q5, .null, .int (iI (0)), .int (iI (0)), .int (iI (0)), .int (iI (0))])), (q5, .inr (0, [.ref u9a, .ref u9b])), (u9a, .inl (cI, 16, .inl (aI (fun _ => 0)))), (u9b, .inl (cI, 136, .inl (aI (cnt (fun _ => 0)))))] H := hP
  have hD : va_D A [(y0, .inr (1, [.ref q5, .null, .int (iI (0)), .int (iI (0)), .int (iI (0)), .int (iI (0))])), (q5, .inr (0, [.ref u9a, .ref u9b])), (u9a, .inl (cI, 16, .inl (aI (fun _ => 0)))), (u9b, .inl (cI, 136, .inl (aI (cnt (fun _ => 0)))))] := hD
  refine lv_aload_n hx hb dX1_init_15 rfl (lv_at hl 0 rfl) ?_
  refine r_iconst hx hb dX1_init_16 ?_
  refine r_newaI hx hb (hts _ mw_X1_init_11) hE hP hD hS hA (N := 4) rfl (by decide) ⟨Nat.le_trans (Nat.le_of_ble_eq_true rfl) hRc.1, Nat.le_trans (Nat.le_of_ble_eq_true rfl) hRc.2⟩ dX1_init_17 (fun q17 H hP hD hS => ?_)
  have hP : va_P D vwCl [(y0, .inr (1, [.ref q5, .null, .int (iI (0)), .int (iI (0)), .int (iI (0)), .int (iI (0))])), (q5, .inr (0, [.ref u9a, .ref u9b])), (u9a, .inl (cI, 16, .inl (aI (fun _ => 0)))), (u9b, .inl (cI, 136, .inl (aI (cnt (fun _ => 0))))), (q17, .inl (cI, 4, .inl (aI (fun _ => 0))))] H := hP
  have hD : va_D A [(y0, .inr (1, [.ref q5, .null, .int (iI (0)), .int (iI (0)), .int (iI (0)), .int (iI (0))])), (q5, .inr (0, [.ref u9a, .ref u9b])), (u9a, .inl (cI, 16, .inl (aI (fun _ => 0)))), (u9b, .inl (cI, 136, .inl (aI (cnt (fun _ => 0))))), (q17, .inl (cI, 4, .inl (aI (fun _ => 0))))] := hD
  refine va_putF (D := D) (ci := 1) (v := .ref q17) (ty := .array .int) (C := RX1) (T := TX1) (N := 6) hx hb hts mu_X1_init_X1 tyX1 tyX1_ok nmX1 hown hE.1 hP hD hS 0 rfl rfl 1 (by decide) (hts _ mw_X1_init_12) (fun _ h9 => h9) rfl hin rfl (by decide +kernel) rfl rfl (Nat.le_of_ble_eq_true rfl) dX1_init_19 (fun H locs hP hD hS => ?_)
  have hP : va_P D vwCl [(y0, .inr (1, [.ref q5, .ref q17, .int (iI (0)), .int (iI (0)), .int (iI (0)), .int (iI (0))])), (q5, .inr (0, [.ref u9a, .ref u9b])), (u9a, .inl (cI, 16, .inl (aI (fun _ => 0)))), (u9b, .inl (cI, 136, .inl (aI (cnt (fun _ => 0))))), (q17, .inl (cI, 4, .inl (aI (fun _ => 0))))] H := hP
  have hD : va_D A [(y0, .inr (1, [.ref q5, .ref q17, .int (iI (0)), .int (iI (0)), .int (iI (0)), .int (iI (0))])), (q5, .inr (0, [.ref u9a, .ref u9b])), (u9a, .inl (cI, 16, .inl (aI (fun _ => 0)))), (u9b, .inl (cI, 136, .inl (aI (cnt (fun _ => 0))))), (q17, .inl (cI, 4, .inl (aI (fun _ => 0))))] := hD
  refine lv_aload_n hx hb dX1_init_22 rfl (lv_at hl 0 rfl) ?_
  refine r_iconst hx hb dX1_init_23 ?_
  refine va_put (D := D) (ci := 1) (v := .int (iI (0))) (ty := .int) (C := RX1) (T := TX1) (N := 6) hx hb hts mu_X1_init_X1 tyX1 tyX1_ok nmX1 hown hE.1 hP hD hS 0 rfl rfl 2 (by decide) (hts _ mw_X1_init_13) (fun _ h9 => h9) rfl (by decide +kernel) rfl rfl (Nat.le_of_ble_eq_true rfl) dX1_init_24 (fun H locs hP hD hS => ?_)
  have hP : va_P D vwCl [(y0, .inr (1, [.ref q5, .ref q17, .int (iI (0)), .int (iI (0)), .int (iI (0)), .int (iI (0))])), (q5, .inr (0, [.ref u9a, .ref u9b])), (u9a, .inl (cI, 16, .inl (aI (fun _ => 0)))), (u9b, .inl (cI, 136, .inl (aI (cnt (fun _ => 0))))), (q17, .inl (cI, 4, .inl (aI (fun _ => 0))))] H := hP
  have hD : va_D A [(y0, .inr (1, [.ref q5, .ref q17, .int (iI (0)), .int (iI (0)), .int (iI (0)), .int (iI (0))])), (q5, .inr (0, [.ref u9a, .ref u9b])), (u9a, .inl (cI, 16, .inl (aI (fun _ => 0)))), (u9b, .inl (cI, 136, .inl (aI (cnt (fun _ => 0))))), (q17, .inl (cI, 4, .inl (aI (fun _ => 0))))] := hD
  refine lv_aload_n hx hb dX1_init_27 rfl (lv_at hl 0 rfl) ?_
  refine r_iconst hx hb dX1_init_28 ?_
  refine va_put (D := D) (ci := 1) (v := .int (iI (0))) (ty := .int) (C := RX1) (T := TX1) (N := 6) hx hb hts mu_X1_init_X1 tyX1 tyX1_ok nmX1 hown hE.1 hP hD hS 0 rfl rfl 3 (by decide) (hts _ mw_X1_init_14) (fun _ h9 => h9) rfl (by decide +kernel) rfl rfl (Nat.le_of_ble_eq_true rfl) dX1_init_29 (fun H locs hP hD hS => ?_)
  have hP : va_P D vwCl [(y0, .inr (1, [.ref q5, .ref q17, .int (iI (0)), .int (iI (0)), .int (iI (0)), .int (iI (0))])), (q5, .inr (0, [.ref u9a, .ref u9b])), (u9a, .inl (cI, 16, .inl (aI (fun _ => 0)))), (u9b, .inl (cI, 136, .inl (aI (cnt (fun _ => 0))))), (q17, .inl (cI, 4, .inl (aI (fun _ => 0))))] H := hP
  have hD : va_D A [(y0, .inr (1, [.ref q5, .ref q17, .int (iI (0)), .int (iI (0)), .int (iI (0)), .int (iI (0))])), (q5, .inr (0, [.ref u9a, .ref u9b])), (u9a, .inl (cI, 16, .inl (aI (fun _ => 0)))), (u9b, .inl (cI, 136, .inl (aI (cnt (fun _ => 0))))), (q17, .inl (cI, 4, .inl (aI (fun _ => 0))))] := hD
  refine lv_aload_n hx hb dX1_init_32 rfl (lv_at hl 0 rfl) ?_
  refine r_iconst hx hb dX1_init_33 ?_
  refine va_put (D := D) (ci := 1) (v := .int (iI (0))) (ty := .int) (C := RX1) (T := TX1) (N := 6) hx hb hts mu_X1_init_X1 tyX1 tyX1_ok nmX1 hown hE.1 hP hD hS 0 rfl rfl 4 (by decide) (hts _ mw_X1_init_15) (fun _ h9 => h9) rfl (by decide +kernel) rfl rfl (Nat.le_of_ble_eq_true rfl) dX1_init_34 (fun H locs hP hD hS => ?_)
  have hP : va_P D vwCl [(y0, .inr (1, [.ref q5, .ref q17, .int (iI (0)), .int (iI (0)), .int (iI (0)), .int (iI (0))])), (q5, .inr (0, [.ref u9a, .ref u9b])), (u9a, .inl (cI, 16, .inl (aI (fun _ => 0)))), (u9b, .inl (cI, 136, .inl (aI (cnt (fun _ => 0))))), (q17, .inl (cI, 4, .inl (aI (fun _ => 0))))] H := hP
  have hD : va_D A [(y0, .inr (1, [.ref q5, .ref q17, .int (iI (0)), .int (iI (0)), .int (iI (0)), .int (iI (0))])), (q5, .inr (0, [.ref u9a, .ref u9b])), (u9a, .inl (cI, 16, .inl (aI (fun _ => 0)))), (u9b, .inl (cI, 136, .inl (aI (cnt (fun _ => 0))))), (q17, .inl (cI, 4, .inl (aI (fun _ => 0))))] := hD
  refine lv_aload_n hx hb dX1_init_37 rfl (lv_at hl 0 rfl) ?_
  refine r_iconst hx hb dX1_init_38 ?_
  refine va_put (D := D) (ci := 1) (v := .int (iI (0))) (ty := .int) (C := RX1) (T := TX1) (N := 6) hx hb hts mu_X1_init_X1 tyX1 tyX1_ok nmX1 hown hE.1 hP hD hS 0 rfl rfl 5 (by decide) (hts _ mw_X1_init_16) (fun _ h9 => h9) rfl (by decide +kernel) rfl rfl (Nat.le_of_ble_eq_true rfl) dX1_init_39 (fun H locs hP hD hS => ?_)
  have hP : va_P D vwCl [(y0, .inr (1, [.ref q5, .ref q17, .int (iI (0)), .int (iI (0)), .int (iI (0)), .int (iI (0))])), (q5, .inr (0, [.ref u9a, .ref u9b])), (u9a, .inl (cI, 16, .inl (aI (fun _ => 0)))), (u9b, .inl (cI, 136, .inl (aI (cnt (fun _ => 0))))), (q17, .inl (cI, 4, .inl (aI (fun _ => 0))))] H := hP
  have hD : va_D A [(y0, .inr (1, [.ref q5, .ref q17, .int (iI (0)), .int (iI (0)), .int (iI (0)), .int (iI (0))])), (q5, .inr (0, [.ref u9a, .ref u9b])), (u9a, .inl (cI, 16, .inl (aI (fun _ => 0)))), (u9b, .inl (cI, 136, .inl (aI (cnt (fun _ => 0))))), (q17, .inl (cI, 4, .inl (aI (fun _ => 0))))] := hD
  exact hret (q5, q17, u9a, u9b) _ _ _ _ _ _ dX1_init_42 (hP.sub [0, 4, 1, 2, 3] rfl) (hD.sub [0, 4, 1, 2, 3] (by decide) rfl) hS (Nat.le_of_ble_eq_true rfl) (Nat.le_of_ble_eq_true rfl)

