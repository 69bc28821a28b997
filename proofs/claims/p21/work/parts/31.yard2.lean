theorem xb_IllegalArgumentException : ∀ w ∈ (vx_atS RX1 37 "java/lang/IllegalArgumentException" xnm).filter (fun w => !goodWord w), w ∈ nestL := by decide +kernel
theorem xg_IllegalArgumentException : ∀ w ∈ Cond.classLink RX1 33 "java/lang/IllegalArgumentException" :: Cond.initialized "java/lang/IllegalArgumentException" :: vx_atS RX1 37 "java/lang/IllegalArgumentException" xnm, vx_ot w = true := by decide +kernel
theorem xb_IllegalStateException : ∀ w ∈ (vx_atS RX1 80 "java/lang/IllegalStateException" xnm).filter (fun w => !goodWord w), w ∈ nestL := by decide +kernel
theorem xg_IllegalStateException : ∀ w ∈ Cond.classLink RX1 76 "java/lang/IllegalStateException" :: Cond.initialized "java/lang/IllegalStateException" :: vx_atS RX1 80 "java/lang/IllegalStateException" xnm, vx_ot w = true := by decide +kernel
theorem xb_IndexOutOfBoundsException : ∀ w ∈ (vx_atS RX1 155 "java/lang/IndexOutOfBoundsException" xnm).filter (fun w => !goodWord w), w ∈ nestL := by decide +kernel
theorem xg_IndexOutOfBoundsException : ∀ w ∈ Cond.classLink RX1 151 "java/lang/IndexOutOfBoundsException" :: Cond.initialized "java/lang/IndexOutOfBoundsException" :: vx_atS RX1 155 "java/lang/IndexOutOfBoundsException" xnm, vx_ot w = true := by decide +kernel
set_option maxRecDepth 20000 in
theorem mw_X1_requirePlayer_0 : (.classLink RX1 151 "java/lang/IndexOutOfBoundsException" : Cond) ∈ wsX1_requirePlayer := by decide +kernel
set_option maxRecDepth 20000 in
theorem mw_X1_requirePlayer_1 : (.initialized "java/lang/IndexOutOfBoundsException" : Cond) ∈ wsX1_requirePlayer := by decide +kernel
theorem f_X1_requirePlayer : yX1_requirePlayer.cls ≠ "java/lang/invoke/MethodHandle" ∧ yX1_requirePlayer.cls ≠ "java/lang/invoke/VarHandle" ∧ (parseMethodDescriptor yX1_requirePlayer.desc).map (fun d => d.parameters.length) = some 1 := by decide +kernel
set_option maxHeartbeats 4000000 in
set_option maxRecDepth 100000 in
theorem c_X1_requirePlayer (l : Launch) (hst : l.stackTraces = false) (D : va_G) (cI cL : ClassId) (tw : Nat) (v : Int) (hv : -2147483648 ≤ v ∧ v < 2147483648) : XRv l yX1_requirePlayer wsX1_requirePlayer { frames := 6, cells := 1, slots := 6, locals := 100 } D cI cL tw [.int (iI (v))] [] (0 ≤ v ∧ v ≤ 3) (fun E : String => E = "java/lang/IndexOutOfBoundsException" ∧ ¬ (0 ≤ v ∧ v ≤ 3)) 1 6 := by
  refine xrv_of (cc := cX1_requirePlayer) (maxL := 1) hst (by decide) rfl rfl (Nat.le_of_ble_eq_true rfl) (Nat.le_of_ble_eq_true rfl) (Nat.le_of_ble_eq_true rfl) ?_
  intro p e R s mt args below meth c H0 Q ls A S hR hRc hE hP hA hN hl hret hxo hth
  have hS := hN.mono hA
  obtain ⟨hx, hb, hml, hown, hts⟩ := id S
  have hl : lv_has ls 1 [(0, .int (iI (v)))] := hl
  refine lv_iload_n hx hb dX1_requirePlayer_0 rfl (lv_at hl 0 rfl) ?_
  refine r_if_lt (tgt := 9) hx hb dX1_requirePlayer_1 (by decide) (by unfold rI; omega) (fun h1 => ?_) (fun h1 => ?_)
  · exact hth "java/lang/IndexOutOfBoundsException" "the players are 0 to 3" 151 153 155 9 _ _ _ _ _ _ (Nat.le_of_ble_eq_true rfl) (Nat.le_of_ble_eq_true rfl) (by decide) mw_X1_requirePlayer_0 mw_X1_requirePlayer_1 (by decide +kernel) (fun w h => List.mem_cons_of_mem _ (List.mem_append_right _ h)) xb_IndexOutOfBoundsException xg_IndexOutOfBoundsException dX1_requirePlayer_9 dX1_requirePlayer_12 dX1_requirePlayer_13 dX1_requirePlayer_15 dX1_requirePlayer_18 (by exact ⟨rfl, by omega⟩) hN hl.1 (Nat.le_of_ble_eq_true rfl) (Nat.le_of_ble_eq_true rfl) (Nat.le_of_ble_eq_true rfl)
  · refine lv_iload_n hx hb dX1_requirePlayer_4 rfl (lv_at hl 0 rfl) ?_
    refine r_iconst hx hb dX1_requirePlayer_5 ?_
    refine r_icmp_lt (tgt := 19) hx hb dX1_requirePlayer_6 (by decide) (by unfold rI; omega) (by unfold rI; decide) (fun h6 => ?_) (fun h6 => ?_)
    · exact hret  _ _ _ _ _ _ dX1_requirePlayer_19 (by omega) hN (Nat.le_of_ble_eq_true rfl) (Nat.le_of_ble_eq_true rfl)
    · exact hth "java/lang/IndexOutOfBoundsException" "the players are 0 to 3" 151 153 155 9 _ _ _ _ _ _ (Nat.le_of_ble_eq_true rfl) (Nat.le_of_ble_eq_true rfl) (by decide) mw_X1_requirePlayer_0 mw_X1_requirePlayer_1 (by decide +kernel) (fun w h => List.mem_cons_of_mem _ (List.mem_append_right _ h)) xb_IndexOutOfBoundsException xg_IndexOutOfBoundsException dX1_requirePlayer_9 dX1_requirePlayer_12 dX1_requirePlayer_13 dX1_requirePlayer_15 dX1_requirePlayer_18 (by exact ⟨rfl, by omega⟩) hN hl.1 (Nat.le_of_ble_eq_true rfl) (Nat.le_of_ble_eq_true rfl) (Nat.le_of_ble_eq_true rfl)

set_option maxRecDepth 20000 in
theorem mw_X1_requirePiece_0 : (.classLink RX1 151 "java/lang/IndexOutOfBoundsException" : Cond) ∈ wsX1_requirePiece := by decide +kernel
set_option maxRecDepth 20000 in
theorem mw_X1_requirePiece_1 : (.initialized "java/lang/IndexOutOfBoundsException" : Cond) ∈ wsX1_requirePiece := by decide +kernel
theorem f_X1_requirePiece : yX1_requirePiece.cls ≠ "java/lang/invoke/MethodHandle" ∧ yX1_requirePiece.cls ≠ "java/lang/invoke/VarHandle" ∧ (parseMethodDescriptor yX1_requirePiece.desc).map (fun d => d.parameters.length) = some 1 := by decide +kernel
set_option maxHeartbeats 4000000 in
set_option maxRecDepth 100000 in
theorem c_X1_requirePiece (l : Launch) (hst : l.stackTraces = false) (D : va_G) (cI cL : ClassId) (tw : Nat) (v : Int) (hv : -2147483648 ≤ v ∧ v < 2147483648) : XRv l yX1_requirePiece wsX1_requirePiece { frames := 6, cells := 1, slots := 6, locals := 100 } D cI cL tw [.int (iI (v))] [] (0 ≤ v ∧ v ≤ 3) (fun E : String => E = "java/lang/IndexOutOfBoundsException" ∧ ¬ (0 ≤ v ∧ v ≤ 3)) 1 6 := by
  refine xrv_of (cc := cX1_requirePiece) (maxL := 1) hst (by decide) rfl rfl (Nat.le_of_ble_eq_true rfl) (Nat.le_of_ble_eq_true rfl) (Nat.le_of_ble_eq_true rfl) ?_
  intro p e R s mt args below meth c H0 Q ls A S hR hRc hE hP hA hN hl hret hxo hth
  have hS := hN.mono hA
  obtain ⟨hx, hb, hml, hown, hts⟩ := id S
  have hl : lv_has ls 1 [(0, .int (iI (v)))] := hl
  refine lv_iload_n hx hb dX1_requirePiece_0 rfl (lv_at hl 0 rfl) ?_
  refine r_if_lt (tgt := 9) hx hb dX1_requirePiece_1 (by decide) (by unfold rI; omega) (fun h1 => ?_) (fun h1 => ?_)
  · exact hth "java/lang/IndexOutOfBoundsException" "the pieces are 0 to 3" 151 156 155 9 _ _ _ _ _ _ (Nat.le_of_ble_eq_true rfl) (Nat.le_of_ble_eq_true rfl) (by decide) mw_X1_requirePiece_0 mw_X1_requirePiece_1 (by decide +kernel) (fun w h => List.mem_cons_of_mem _ (List.mem_append_right _ h)) xb_IndexOutOfBoundsException xg_IndexOutOfBoundsException dX1_requirePiece_9 dX1_requirePiece_12 dX1_requirePiece_13 dX1_requirePiece_15 dX1_requirePiece_18 (by exact ⟨rfl, by omega⟩) hN hl.1 (Nat.le_of_ble_eq_true rfl) (Nat.le_of_ble_eq_true rfl) (Nat.le_of_ble_eq_true rfl)
  · refine lv_iload_n hx hb dX1_requirePiece_4 rfl (lv_at hl 0 rfl) ?_
    refine r_iconst hx hb dX1_requirePiece_5 ?_
    refine r_icmp_lt (tgt := 19) hx hb dX1_requirePiece_6 (by decide) (by unfold rI; omega) (by unfold rI; decide) (fun h6 => ?_) (fun h6 => ?_)
    · exact hret  _ _ _ _ _ _ dX1_requirePiece_19 (by omega) hN (Nat.le_of_ble_eq_true rfl) (Nat.le_of_ble_eq_true rfl)
    · exact hth "java/lang/IndexOutOfBoundsException" "the pieces are 0 to 3" 151 156 155 9 _ _ _ _ _ _ (Nat.le_of_ble_eq_true rfl) (Nat.le_of_ble_eq_true rfl) (by decide) mw_X1_requirePiece_0 mw_X1_requirePiece_1 (by decide +kernel) (fun w h => List.mem_cons_of_mem _ (List.mem_append_right _ h)) xb_IndexOutOfBoundsException xg_IndexOutOfBoundsException dX1_requirePiece_9 dX1_requirePiece_12 dX1_requirePiece_13 dX1_requirePiece_15 dX1_requirePiece_18 (by exact ⟨rfl, by omega⟩) hN hl.1 (Nat.le_of_ble_eq_true rfl) (Nat.le_of_ble_eq_true rfl) (Nat.le_of_ble_eq_true rfl)

set_option maxRecDepth 20000 in
theorem mw_X1_requireSquare_0 : (.classLink RX1 151 "java/lang/IndexOutOfBoundsException" : Cond) ∈ wsX1_requireSquare := by decide +kernel
set_option maxRecDepth 20000 in
theorem mw_X1_requireSquare_1 : (.initialized "java/lang/IndexOutOfBoundsException" : Cond) ∈ wsX1_requireSquare := by decide +kernel
theorem f_X1_requireSquare : yX1_requireSquare.cls ≠ "java/lang/invoke/MethodHandle" ∧ yX1_requireSquare.cls ≠ "java/lang/invoke/VarHandle" ∧ (parseMethodDescriptor yX1_requireSquare.desc).map (fun d => d.parameters.length) = some 1 := by decide +kernel
set_option maxHeartbeats 4000000 in
set_option maxRecDepth 100000 in
theorem c_X1_requireSquare (l : Launch) (hst : l.stackTraces = false) (D : va_G) (cI cL : ClassId) (tw : Nat) (v : Int) (hv : -2147483648 ≤ v ∧ v < 2147483648) : XRv l yX1_requireSquare wsX1_requireSquare { frames := 6, cells := 1, slots := 6, locals := 100 } D cI cL tw [.int (iI (v))] [] (0 ≤ v ∧ v ≤ 67) (fun E : String => E = "java/lang/IndexOutOfBoundsException" ∧ ¬ (0 ≤ v ∧ v ≤ 67)) 1 6 := by
  refine xrv_of (cc := cX1_requireSquare) (maxL := 1) hst (by decide) rfl rfl (Nat.le_of_ble_eq_true rfl) (Nat.le_of_ble_eq_true rfl) (Nat.le_of_ble_eq_true rfl) ?_
  intro p e R s mt args below meth c H0 Q ls A S hR hRc hE hP hA hN hl hret hxo hth
  have hS := hN.mono hA
  obtain ⟨hx, hb, hml, hown, hts⟩ := id S
  have hl : lv_has ls 1 [(0, .int (iI (v)))] := hl
  refine lv_iload_n hx hb dX1_requireSquare_0 rfl (lv_at hl 0 rfl) ?_
  refine r_if_lt (tgt := 10) hx hb dX1_requireSquare_1 (by decide) (by unfold rI; omega) (fun h1 => ?_) (fun h1 => ?_)
  · exact hth "java/lang/IndexOutOfBoundsException" "the squares are 0 to 67" 151 158 155 10 _ _ _ _ _ _ (Nat.le_of_ble_eq_true rfl) (Nat.le_of_ble_eq_true rfl) (by decide) mw_X1_requireSquare_0 mw_X1_requireSquare_1 (by decide +kernel) (fun w h => List.mem_cons_of_mem _ (List.mem_append_right _ h)) xb_IndexOutOfBoundsException xg_IndexOutOfBoundsException dX1_requireSquare_10 dX1_requireSquare_13 dX1_requireSquare_14 dX1_requireSquare_16 dX1_requireSquare_19 (by exact ⟨rfl, by omega⟩) hN hl.1 (Nat.le_of_ble_eq_true rfl) (Nat.le_of_ble_eq_true rfl) (Nat.le_of_ble_eq_true rfl)
  · refine lv_iload_n hx hb dX1_requireSquare_4 rfl (lv_at hl 0 rfl) ?_
    refine r_bipush hx hb dX1_requireSquare_5 (by decide) ?_
    refine r_icmp_lt (tgt := 20) hx hb dX1_requireSquare_7 (by decide) (by unfold rI; omega) (by unfold rI; decide) (fun h7 => ?_) (fun h7 => ?_)
    · exact hret  _ _ _ _ _ _ dX1_requireSquare_20 (by omega) hN (Nat.le_of_ble_eq_true rfl) (Nat.le_of_ble_eq_true rfl)
    · exact hth "java/lang/IndexOutOfBoundsException" "the squares are 0 to 67" 151 158 155 10 _ _ _ _ _ _ (Nat.le_of_ble_eq_true rfl) (Nat.le_of_ble_eq_true rfl) (by decide) mw_X1_requireSquare_0 mw_X1_requireSquare_1 (by decide +kernel) (fun w h => List.mem_cons_of_mem _ (List.mem_append_right _ h)) xb_IndexOutOfBoundsException xg_IndexOutOfBoundsException dX1_requireSquare_10 dX1_requireSquare_13 dX1_requireSquare_14 dX1_requireSquare_16 dX1_requireSquare_19 (by exact ⟨rfl, by omega⟩) hN hl.1 (Nat.le_of_ble_eq_true rfl) (Nat.le_of_ble_eq_true rfl) (Nat.le_of_ble_eq_true rfl)

set_option maxRecDepth 20000 in
theorem mw_X1_requireTeam_0 : (.classLink RX1 33 "java/lang/IllegalArgumentException" : Cond) ∈ wsX1_requireTeam := by decide +kernel
set_option maxRecDepth 20000 in
theorem mw_X1_requireTeam_1 : (.initialized "java/lang/IllegalArgumentException" : Cond) ∈ wsX1_requireTeam := by decide +kernel
theorem f_X1_requireTeam : yX1_requireTeam.cls ≠ "java/lang/invoke/MethodHandle" ∧ yX1_requireTeam.cls ≠ "java/lang/invoke/VarHandle" ∧ (parseMethodDescriptor yX1_requireTeam.desc).map (fun d => d.parameters.length) = some 1 := by decide +kernel
set_option maxHeartbeats 4000000 in
set_option maxRecDepth 100000 in
theorem c_X1_requireTeam (l : Launch) (hst : l.stackTraces = false) (D : va_G) (cI cL : ClassId) (tw : Nat) (v : Int) (hv : -2147483648 ≤ v ∧ v < 2147483648) : XRv l yX1_requireTeam wsX1_requireTeam { frames := 6, cells := 1, slots := 6, locals := 100 } D cI cL tw [.int (iI (v))] [] (0 ≤ v ∧ v ≤ 1) (fun E : String => E = "java/lang/IllegalArgumentException" ∧ ¬ (0 ≤ v ∧ v ≤ 1)) 1 6 := by
  refine xrv_of (cc := cX1_requireTeam) (maxL := 1) hst (by decide) rfl rfl (Nat.le_of_ble_eq_true rfl) (Nat.le_of_ble_eq_true rfl) (Nat.le_of_ble_eq_true rfl) ?_
  intro p e R s mt args below meth c H0 Q ls A S hR hRc hE hP hA hN hl hret hxo hth
  have hS := hN.mono hA
  obtain ⟨hx, hb, hml, hown, hts⟩ := id S
  have hl : lv_has ls 1 [(0, .int (iI (v)))] := hl
  refine lv_iload_n hx hb dX1_requireTeam_0 rfl (lv_at hl 0 rfl) ?_
  refine r_if_lt (tgt := 9) hx hb dX1_requireTeam_1 (by decide) (by unfold rI; omega) (fun h1 => ?_) (fun h1 => ?_)
  · exact hth "java/lang/IllegalArgumentException" "the teams are 0 and 1" 33 160 37 9 _ _ _ _ _ _ (Nat.le_of_ble_eq_true rfl) (Nat.le_of_ble_eq_true rfl) (by decide) mw_X1_requireTeam_0 mw_X1_requireTeam_1 (by decide +kernel) (fun w h => List.mem_cons_of_mem _ (List.mem_append_right _ h)) xb_IllegalArgumentException xg_IllegalArgumentException dX1_requireTeam_9 dX1_requireTeam_12 dX1_requireTeam_13 dX1_requireTeam_15 dX1_requireTeam_18 (by exact ⟨rfl, by omega⟩) hN hl.1 (Nat.le_of_ble_eq_true rfl) (Nat.le_of_ble_eq_true rfl) (Nat.le_of_ble_eq_true rfl)
  · refine lv_iload_n hx hb dX1_requireTeam_4 rfl (lv_at hl 0 rfl) ?_
    refine r_iconst hx hb dX1_requireTeam_5 ?_
    refine r_icmp_lt (tgt := 19) hx hb dX1_requireTeam_6 (by decide) (by unfold rI; omega) (by unfold rI; decide) (fun h6 => ?_) (fun h6 => ?_)
    · exact hret  _ _ _ _ _ _ dX1_requireTeam_19 (by omega) hN (Nat.le_of_ble_eq_true rfl) (Nat.le_of_ble_eq_true rfl)
    · exact hth "java/lang/IllegalArgumentException" "the teams are 0 and 1" 33 160 37 9 _ _ _ _ _ _ (Nat.le_of_ble_eq_true rfl) (Nat.le_of_ble_eq_true rfl) (by decide) mw_X1_requireTeam_0 mw_X1_requireTeam_1 (by decide +kernel) (fun w h => List.mem_cons_of_mem _ (List.mem_append_right _ h)) xb_IllegalArgumentException xg_IllegalArgumentException dX1_requireTeam_9 dX1_requireTeam_12 dX1_requireTeam_13 dX1_requireTeam_15 dX1_requireTeam_18 (by exact ⟨rfl, by omega⟩) hN hl.1 (Nat.le_of_ble_eq_true rfl) (Nat.le_of_ble_eq_true rfl) (Nat.le_of_ble_eq_true rfl)

set_option maxRecDepth 20000 in
theorem mw_X1_requireThrowDue_0 : (.fieldLink RX1 27 "PachisiYard" "stage" "I" : Cond) ∈ wsX1_requireThrowDue := by decide +kernel
set_option maxRecDepth 20000 in
theorem mu_X1_requireThrowDue_X1 : ∀ w ∈ wsX10, w ∈ wsX1_requireThrowDue := by decide +kernel
set_option maxRecDepth 20000 in
theorem mw_X1_requireThrowDue_2 : (.classLink RX1 76 "java/lang/IllegalStateException" : Cond) ∈ wsX1_requireThrowDue := by decide +kernel
set_option maxRecDepth 20000 in
theorem mw_X1_requireThrowDue_3 : (.initialized "java/lang/IllegalStateException" : Cond) ∈ wsX1_requireThrowDue := by decide +kernel
theorem f_X1_requireThrowDue : yX1_requireThrowDue.cls ≠ "java/lang/invoke/MethodHandle" ∧ yX1_requireThrowDue.cls ≠ "java/lang/invoke/VarHandle" ∧ (parseMethodDescriptor yX1_requireThrowDue.desc).map (fun d => d.parameters.length) = some 0 := by decide +kernel
set_option maxHeartbeats 4000000 in
set_option maxRecDepth 100000 in
theorem c_X1_requireThrowDue (l : Launch) (hst : l.stackTraces = false) (D : va_G) (cI cL : ClassId) (tw : Nat) (y0 : Nat) (y2 : Nat) (b : Nat) (pq : Nat) (cq : Nat) (tu : Int) (ph : Int) (mo : Int) (gc : Int) (P : Int → Int) (C : Int → Int) (hB : ∀ i, 0 ≤ P i ∧ P i ≤ 72) (hph : 0 ≤ ph ∧ ph ≤ 2) : XRv l yX1_requireThrowDue wsX1_requireThrowDue { frames := 6, cells := 1, slots := 6, locals := 100 } D cI cL tw [.ref y0] [(y0, .inr (1, [.ref b, .ref y2, .int (iI (tu)), .int (iI (gc)), .int (iI (ph)), .int (iI (mo))])), (y2, .inl (cI, 4, .inl (aI C))), (b, .inr (0, [.ref pq, .ref cq])), (pq, .inl (cI, 16, .inl (aI P))), (cq, .inl (cI, 136, .inl (aI (cnt P))))] (ph = 0) (fun E : String => E = "java/lang/IllegalStateException" ∧ ph ≠ 0) 1 6 := by
  refine xrv_of (cc := cX1_requireThrowDue) (maxL := 1) hst (by decide) rfl rfl (Nat.le_of_ble_eq_true rfl) (Nat.le_of_ble_eq_true rfl) (Nat.le_of_ble_eq_true rfl) ?_
  intro p e R s mt args below meth c H0 Q ls A S hR hRc hE hP hA hN hl hret hxo hth
  have hS := hN.mono hA
  obtain ⟨hx, hb, hml, hown, hts⟩ := id S
  have hl : lv_has ls 1 [(0, .ref y0)] := hl
  refine lv_aload_n hx hb dX1_requireThrowDue_0 rfl (lv_at hl 0 rfl) ?_
  refine va_get (D := D) (ci := 1) (v := .int (iI (ph))) (C := RX1) (T := TX1) (N := 6) hx hb hts mu_X1_requireThrowDue_X1 hown hE.1 hP 0 rfl rfl 4 (by decide) (hts _ mw_X1_requireThrowDue_0) (fun _ h9 => h9) rfl dX1_requireThrowDue_1 ?_
  refine r_if_eq (tgt := 17) hx hb dX1_requireThrowDue_4 (by decide) (by unfold rI; omega) (fun h4 => ?_) (fun h4 => ?_)
  · exact hret  _ _ _ _ _ _ dX1_requireThrowDue_17 (by omega) hN (Nat.le_of_ble_eq_true rfl) (Nat.le_of_ble_eq_true rfl)
  · exact hth "java/lang/IllegalStateException" "no throw is to be made" 76 162 80 7 _ _ _ _ _ _ (Nat.le_of_ble_eq_true rfl) (Nat.le_of_ble_eq_true rfl) (by decide) mw_X1_requireThrowDue_2 mw_X1_requireThrowDue_3 (by decide +kernel) (fun w h => List.mem_cons_of_mem _ (List.mem_append_right _ h)) xb_IllegalStateException xg_IllegalStateException dX1_requireThrowDue_7 dX1_requireThrowDue_10 dX1_requireThrowDue_11 dX1_requireThrowDue_13 dX1_requireThrowDue_16 (by exact ⟨rfl, by omega⟩) hN hl.1 (Nat.le_of_ble_eq_true rfl) (Nat.le_of_ble_eq_true rfl) (Nat.le_of_ble_eq_true rfl)

set_option maxRecDepth 20000 in
theorem mw_X1_requireMoveDue_0 : (.fieldLink RX1 27 "PachisiYard" "stage" "I" : Cond) ∈ wsX1_requireMoveDue := by decide +kernel
set_option maxRecDepth 20000 in
theorem mu_X1_requireMoveDue_X1 : ∀ w ∈ wsX10, w ∈ wsX1_requireMoveDue := by decide +kernel
set_option maxRecDepth 20000 in
theorem mw_X1_requireMoveDue_2 : (.classLink RX1 76 "java/lang/IllegalStateException" : Cond) ∈ wsX1_requireMoveDue := by decide +kernel
set_option maxRecDepth 20000 in
theorem mw_X1_requireMoveDue_3 : (.initialized "java/lang/IllegalStateException" : Cond) ∈ wsX1_requireMoveDue := by decide +kernel
theorem f_X1_requireMoveDue : yX1_requireMoveDue.cls ≠ "java/lang/invoke/MethodHandle" ∧ yX1_requireMoveDue.cls ≠ "java/lang/invoke/VarHandle" ∧ (parseMethodDescriptor yX1_requireMoveDue.desc).map (fun d => d.parameters.length) = some 0 := by decide +kernel
set_option maxHeartbeats 4000000 in
set_option maxRecDepth 100000 in
theorem c_X1_requireMoveDue (l : Launch) (hst : l.stackTraces = false) (D : va_G) (cI cL : ClassId) (tw : Nat) (y0 : Nat) (y2 : Nat) (b : Nat) (pq : Nat) (cq : Nat) (tu : Int) (ph : Int) (mo : Int) (gc : Int) (P : Int → Int) (C : Int → Int) (hB : ∀ i, 0 ≤ P i ∧ P i ≤ 72) (hph : 0 ≤ ph ∧ ph ≤ 2) : XRv l yX1_requireMoveDue wsX1_requireMoveDue { frames := 6, cells := 1, slots := 6, locals := 100 } D cI cL tw [.ref y0] [(y0, .inr (1, [.ref b, .ref y2, .int (iI (tu)), .int (iI (gc)), .int (iI (ph)), .int (iI (mo))])), (y2, .inl (cI, 4, .inl (aI C))), (b, .inr (0, [.ref pq, .ref cq])), (pq, .inl (cI, 16, .inl (aI P))), (cq, .inl (cI, 136, .inl (aI (cnt P))))] (ph = 1) (fun E : String => E = "java/lang/IllegalStateException" ∧ ph ≠ 1) 1 6 := by
  refine xrv_of (cc := cX1_requireMoveDue) (maxL := 1) hst (by decide) rfl rfl (Nat.le_of_ble_eq_true rfl) (Nat.le_of_ble_eq_true rfl) (Nat.le_of_ble_eq_true rfl) ?_
  intro p e R s mt args below meth c H0 Q ls A S hR hRc hE hP hA hN hl hret hxo hth
  have hS := hN.mono hA
  obtain ⟨hx, hb, hml, hown, hts⟩ := id S
  have hl : lv_has ls 1 [(0, .ref y0)] := hl
  refine lv_aload_n hx hb dX1_requireMoveDue_0 rfl (lv_at hl 0 rfl) ?_
  refine va_get (D := D) (ci := 1) (v := .int (iI (ph))) (C := RX1) (T := TX1) (N := 6) hx hb hts mu_X1_requireMoveDue_X1 hown hE.1 hP 0 rfl rfl 4 (by decide) (hts _ mw_X1_requireMoveDue_0) (fun _ h9 => h9) rfl dX1_requireMoveDue_1 ?_
  refine r_iconst hx hb dX1_requireMoveDue_4 ?_
  refine r_icmp_eq (tgt := 18) hx hb dX1_requireMoveDue_5 (by decide) (by unfold rI; omega) (by unfold rI; decide) (fun h5 => ?_) (fun h5 => ?_)
  · exact hret  _ _ _ _ _ _ dX1_requireMoveDue_18 (by omega) hN (Nat.le_of_ble_eq_true rfl) (Nat.le_of_ble_eq_true rfl)
  · exact hth "java/lang/IllegalStateException" "there is no throw to move by" 76 164 80 8 _ _ _ _ _ _ (Nat.le_of_ble_eq_true rfl) (Nat.le_of_ble_eq_true rfl) (by decide) mw_X1_requireMoveDue_2 mw_X1_requireMoveDue_3 (by decide +kernel) (fun w h => List.mem_cons_of_mem _ (List.mem_append_right _ h)) xb_IllegalStateException xg_IllegalStateException dX1_requireMoveDue_8 dX1_requireMoveDue_11 dX1_requireMoveDue_12 dX1_requireMoveDue_14 dX1_requireMoveDue_17 (by exact ⟨rfl, by omega⟩) hN hl.1 (Nat.le_of_ble_eq_true rfl) (Nat.le_of_ble_eq_true rfl) (Nat.le_of_ble_eq_true rfl)

set_option maxRecDepth 20000 in
theorem mw_X1_movable_0 : (.fieldLink RX1 10 "PachisiYard" "board" "LPachisiYard$Board;" : Cond) ∈ wsX1_movable := by decide +kernel
set_option maxRecDepth 20000 in
theorem mu_X1_movable_X1 : ∀ w ∈ wsX10, w ∈ wsX1_movable := by decide +kernel
set_option maxRecDepth 20000 in
theorem mw_X1_movable_2 : (.fieldLink RX1 20 "PachisiYard" "turn" "I" : Cond) ∈ wsX1_movable := by decide +kernel
set_option maxRecDepth 20000 in
theorem mw_X1_movable_3 : (.fieldLink RX1 30 "PachisiYard" "mouthsThrown" "I" : Cond) ∈ wsX1_movable := by decide +kernel
theorem f_X1_movable : yX1_movable.cls ≠ "java/lang/invoke/MethodHandle" ∧ yX1_movable.cls ≠ "java/lang/invoke/VarHandle" ∧ (parseMethodDescriptor yX1_movable.desc).map (fun d => d.parameters.length) = some 0 := by decide +kernel
set_option maxHeartbeats 4000000 in
set_option maxRecDepth 100000 in
theorem c_X1_movable (l : Launch) (hst : l.stackTraces = false) (D : va_G) (cI cL : ClassId) (tw : Nat) (y0 : Nat) (y2 : Nat) (b : Nat) (pq : Nat) (cq : Nat) (tu : Int) (ph : Int) (mo : Int) (gc : Int) (P : Int → Int) (C : Int → Int) (hB : ∀ i, 0 ≤ P i ∧ P i ≤ 72) (htu : 0 ≤ tu ∧ tu ≤ 3) (hgc : 0 ≤ gc ∧ gc ≤ 2) (hph : 0 ≤ ph ∧ ph ≤ 2) (hmo : 0 ≤ mo ∧ mo ≤ 6) : XRi l yX1_movable wsX1_movable { frames := 7, cells := 1, slots := 6, locals := 120 } D cI cL tw [.ref y0] [(y0, .inr (1, [.ref b, .ref y2, .int (iI (tu)), .int (iI (gc)), .int (iI (ph)), .int (iI (mo))])), (y2, .inl (cI, 4, .inl (aI C))), (b, .inr (0, [.ref pq, .ref cq])), (pq, .inl (cI, 16, .inl (aI P))), (cq, .inl (cI, 136, .inl (aI (cnt P))))] (fun z : Int => ph = 1 ∧ z = ms P (mv P tu) mo) (fun E : String => E = "java/lang/IllegalStateException" ∧ ph ≠ 1) 1 6 := by
  refine xri_of (cc := cX1_movable) (maxL := 1) (rt := .int) hst (by decide) rfl rfl (Or.inl rfl) (Nat.le_of_ble_eq_true rfl) (Nat.le_of_ble_eq_true rfl) (Nat.le_of_ble_eq_true rfl) ?_
  intro p e R s mt args below meth c H0 Q ls A S hR hRc hE hP hA hN hl hret hxo hth
  have hS := hN.mono hA
  obtain ⟨hx, hb, hml, hown, hts⟩ := id S
  have hl : lv_has ls 1 [(0, .ref y0)] := hl
  refine lv_aload_n hx hb dX1_movable_0 rfl (lv_at hl 0 rfl) ?_
  refine r_xcVv (As := []) (rest := []) S (c_X1_requireMoveDue l hst D cI cL tw (y0) (y2) (b) (pq) (cq) (tu) (ph) (mo) (gc) (P) (C) (hB) (by omega)) gX1_movable_X1_requireMoveDue rfl rfl rfl ⟨rfl, f_X1_requireMoveDue⟩ hR (Nat.le_of_ble_eq_true rfl) (Nat.le_of_ble_eq_true rfl) (hE.kept hS.2.1) hP hN [0, 1, 2, 3, 4] rfl 0 rfl rfl rfl hl.1 rfl (Nat.le_of_ble_eq_true rfl) dX1_movable_1 ⟨Nat.le_trans (Nat.le_of_ble_eq_true rfl) hRc.1, Nat.le_trans (Nat.le_of_ble_eq_true rfl) hRc.2⟩ (fun E9 ce9 q9 H9 locs9 hx9 h91 h92 h93 hP9 hN9 => hxo E9 ce9 q9 _ _ _ _ _ _ _ (by rcases hx9 with ⟨h1, h2⟩; exact ⟨h1, by omega⟩) h91 h92 h93 hN9 (Nat.le_of_ble_eq_true rfl) (Nat.le_of_ble_eq_true rfl)) (fun H locs hz1 hP hN => ?_)
  have hS := hN.mono hA
  refine lv_aload_n hx hb dX1_movable_4 rfl (lv_at hl 0 rfl) ?_
  refine va_get (D := D) (ci := 1) (v := .ref b) (C := RX1) (T := TX1) (N := 6) hx hb hts mu_X1_movable_X1 hown hE.1 hP 0 rfl rfl 0 (by decide) (hts _ mw_X1_movable_0) (fun _ h9 => h9) rfl dX1_movable_5 ?_
  refine lv_aload_n hx hb dX1_movable_8 rfl (lv_at hl 0 rfl) ?_
  refine va_get (D := D) (ci := 1) (v := .ref b) (C := RX1) (T := TX1) (N := 6) hx hb hts mu_X1_movable_X1 hown hE.1 hP 0 rfl rfl 0 (by decide) (hts _ mw_X1_movable_0) (fun _ h9 => h9) rfl dX1_movable_9 ?_
  refine lv_aload_n hx hb dX1_movable_12 rfl (lv_at hl 0 rfl) ?_
  refine va_get (D := D) (ci := 1) (v := .int (iI (tu))) (C := RX1) (T := TX1) (N := 6) hx hb hts mu_X1_movable_X1 hown hE.1 hP 0 rfl rfl 2 (by decide) (hts _ mw_X1_movable_2) (fun _ h9 => h9) rfl dX1_movable_13 ?_
  refine r_callV (As := [.int (iI (tu))]) (rest := [.ref b]) S (c_X0_moverFor l D cI cL tw (b) (pq) (cq) (P) (tu) (hB) (by omega)) gX1_movable_X0_moverFor rfl rfl rfl ⟨rfl, f_X0_moverFor⟩ hR (Nat.le_of_ble_eq_true rfl) (Nat.le_of_ble_eq_true rfl) (hE.kept hS.2.1) hP [2, 3, 4] rfl 0 rfl rfl rfl hl.1 rfl (Nat.le_of_ble_eq_true rfl) dX1_movable_16 ⟨Nat.le_trans (Nat.le_of_ble_eq_true rfl) hRc.1, Nat.le_trans (Nat.le_of_ble_eq_true rfl) hRc.2⟩ (fun z16 hz16 => ?_)
  obtain ⟨hz16, rz16⟩ := hz16
  refine lv_aload_n hx hb dX1_movable_19 rfl (lv_at hl 0 rfl) ?_
  refine va_get (D := D) (ci := 1) (v := .int (iI (mo))) (C := RX1) (T := TX1) (N := 6) hx hb hts mu_X1_movable_X1 hown hE.1 hP 0 rfl rfl 5 (by decide) (hts _ mw_X1_movable_3) (fun _ h9 => h9) rfl dX1_movable_20 ?_
  refine r_callV (As := [.int (iI (z16)), .int (iI (mo))]) (rest := []) S (c_X0_movableSet l D cI cL tw (b) (pq) (cq) (P) (z16) (mo) (hB) (by omega) (by omega)) gX1_movable_X0_movableSet rfl rfl rfl ⟨rfl, f_X0_movableSet⟩ hR (Nat.le_of_ble_eq_true rfl) (Nat.le_of_ble_eq_true rfl) (hE.kept hS.2.1) hP [2, 3, 4] rfl 0 rfl rfl rfl hl.1 rfl (Nat.le_of_ble_eq_true rfl) dX1_movable_23 ⟨Nat.le_trans (Nat.le_of_ble_eq_true rfl) hRc.1, Nat.le_trans (Nat.le_of_ble_eq_true rfl) hRc.2⟩ (fun z23 hz23 => ?_)
  obtain ⟨hz23, rz23⟩ := hz23
  exact hret (z23) _ _ _ _ _ _ dX1_movable_26 (by rw [← hz16]; exact ⟨hz1, hz23⟩) hN (Nat.le_of_ble_eq_true rfl) (Nat.le_of_ble_eq_true rfl)

set_option maxRecDepth 20000 in
theorem mw_X1_position_0 : (.fieldLink RX1 10 "PachisiYard" "board" "LPachisiYard$Board;" : Cond) ∈ wsX1_position := by decide +kernel
set_option maxRecDepth 20000 in
theorem mu_X1_position_X1 : ∀ w ∈ wsX10, w ∈ wsX1_position := by decide +kernel
theorem f_X1_position : yX1_position.cls ≠ "java/lang/invoke/MethodHandle" ∧ yX1_position.cls ≠ "java/lang/invoke/VarHandle" ∧ (parseMethodDescriptor yX1_position.desc).map (fun d => d.parameters.length) = some 2 := by decide +kernel
set_option maxHeartbeats 4000000 in
set_option maxRecDepth 100000 in
theorem c_X1_position (l : Launch) (hst : l.stackTraces = false) (D : va_G) (cI cL : ClassId) (tw : Nat) (y0 : Nat) (y2 : Nat) (b : Nat) (pq : Nat) (cq : Nat) (tu : Int) (ph : Int) (mo : Int) (gc : Int) (P : Int → Int) (C : Int → Int) (a : Int) (j : Int) (hB : ∀ i, 0 ≤ P i ∧ P i ≤ 72) (htu : 0 ≤ tu ∧ tu ≤ 3) (hgc : 0 ≤ gc ∧ gc ≤ 2) (hph : 0 ≤ ph ∧ ph ≤ 2) (hmo : 0 ≤ mo ∧ mo ≤ 6) (h_a : -2147483648 ≤ a ∧ a < 2147483648) (h_j : -2147483648 ≤ j ∧ j < 2147483648) : XRi l yX1_position wsX1_position { frames := 7, cells := 2, slots := 12, locals := 120 } D cI cL tw [.ref y0, .int (iI (a)), .int (iI (j))] [(y0, .inr (1, [.ref b, .ref y2, .int (iI (tu)), .int (iI (gc)), .int (iI (ph)), .int (iI (mo))])), (y2, .inl (cI, 4, .inl (aI C))), (b, .inr (0, [.ref pq, .ref cq])), (pq, .inl (cI, 16, .inl (aI P))), (cq, .inl (cI, 136, .inl (aI (cnt P))))] (fun z : Int => 0 ≤ a ∧ a ≤ 3 ∧ 0 ≤ j ∧ j ≤ 3 ∧ z = P (4 * a + j)) (fun E : String => E = "java/lang/IndexOutOfBoundsException" ∧ ¬ (0 ≤ a ∧ a ≤ 3 ∧ 0 ≤ j ∧ j ≤ 3)) 2 12 := by
  refine xri_of (cc := cX1_position) (maxL := 3) (rt := .int) hst (by decide) rfl rfl (Or.inl rfl) (Nat.le_of_ble_eq_true rfl) (Nat.le_of_ble_eq_true rfl) (Nat.le_of_ble_eq_true rfl) ?_
  intro p e R s mt args below meth c H0 Q ls A S hR hRc hE hP hA hN hl hret hxo hth
  have hS := hN.mono hA
  obtain ⟨hx, hb, hml, hown, hts⟩ := id S
  have hl : lv_has ls 3 [(0, .ref y0), (1, .int (iI (a))), (2, .int (iI (j)))] := hl
  refine lv_iload_n hx hb dX1_position_0 rfl (lv_at hl 1 rfl) ?_
  refine r_xcS (As := [.int (iI (a))]) (rest := []) S (c_X1_requirePlayer l hst D cI cL tw (a) (by omega)) gX1_position_X1_requirePlayer rfl rfl rfl f_X1_requirePlayer hR (Nat.le_of_ble_eq_true rfl) (Nat.le_of_ble_eq_true rfl) (hE.kept hS.2.1) hP hN rfl hl.1 rfl (Nat.le_of_ble_eq_true rfl) dX1_position_1 ⟨Nat.le_trans (Nat.le_of_ble_eq_true rfl) hRc.1, Nat.le_trans (Nat.le_of_ble_eq_true rfl) hRc.2⟩ (fun E9 ce9 q9 H9 locs9 hx9 h91 h92 h93 hP9 hN9 => hxo E9 ce9 q9 _ _ _ _ _ _ _ (by rcases hx9 with ⟨h1, h2⟩; exact ⟨h1, by omega⟩) h91 h92 h93 hN9 (Nat.le_of_ble_eq_true rfl) (Nat.le_of_ble_eq_true rfl)) (fun H locs hz1 hP hN => ?_)
  have hS := hN.mono hA
  refine lv_iload_n hx hb dX1_position_4 rfl (lv_at hl 2 rfl) ?_
  refine r_xcS (As := [.int (iI (j))]) (rest := []) S (c_X1_requirePiece l hst D cI cL tw (j) (by omega)) gX1_position_X1_requirePiece rfl rfl rfl f_X1_requirePiece hR (Nat.le_of_ble_eq_true rfl) (Nat.le_of_ble_eq_true rfl) (hE.kept hS.2.1) hP hN rfl hl.1 rfl (Nat.le_of_ble_eq_true rfl) dX1_position_5 ⟨Nat.le_trans (Nat.le_of_ble_eq_true rfl) hRc.1, Nat.le_trans (Nat.le_of_ble_eq_true rfl) hRc.2⟩ (fun E9 ce9 q9 H9 locs9 hx9 h91 h92 h93 hP9 hN9 => hxo E9 ce9 q9 _ _ _ _ _ _ _ (by rcases hx9 with ⟨h1, h2⟩; exact ⟨h1, by omega⟩) h91 h92 h93 hN9 (Nat.le_of_ble_eq_true rfl) (Nat.le_of_ble_eq_true rfl)) (fun H locs hz5 hP hN => ?_)
  have hS := hN.mono hA
  refine lv_aload_n hx hb dX1_position_8 rfl (lv_at hl 0 rfl) ?_
  refine va_get (D := D) (ci := 1) (v := .ref b) (C := RX1) (T := TX1) (N := 6) hx hb hts mu_X1_position_X1 hown hE.1 hP 0 rfl rfl 0 (by decide) (hts _ mw_X1_position_0) (fun _ h9 => h9) rfl dX1_position_9 ?_
  refine lv_iload_n hx hb dX1_position_12 rfl (lv_at hl 1 rfl) ?_
  refine lv_iload_n hx hb dX1_position_13 rfl (lv_at hl 2 rfl) ?_
  refine r_callV (As := [.int (iI (a)), .int (iI (j))]) (rest := []) S (c_X0_positionOf l D cI cL tw (b) (pq) (cq) (P) (a) (j) (hB) (by omega) (by omega)) gX1_position_X0_positionOf rfl rfl rfl ⟨rfl, f_X0_positionOf⟩ hR (Nat.le_of_ble_eq_true rfl) (Nat.le_of_ble_eq_true rfl) (hE.kept hS.2.1) hP [2, 3, 4] rfl 0 rfl rfl rfl hl.1 rfl (Nat.le_of_ble_eq_true rfl) dX1_position_14 ⟨Nat.le_trans (Nat.le_of_ble_eq_true rfl) hRc.1, Nat.le_trans (Nat.le_of_ble_eq_true rfl) hRc.2⟩ (fun z14 hz14 => ?_)
  obtain ⟨hz14, rz14⟩ := hz14
  exact hret (z14) _ _ _ _ _ _ dX1_position_17 (by omega) hN (Nat.le_of_ble_eq_true rfl) (Nat.le_of_ble_eq_true rfl)

set_option maxRecDepth 20000 in
theorem mw_X1_square_0 : (.fieldLink RX1 10 "PachisiYard" "board" "LPachisiYard$Board;" : Cond) ∈ wsX1_square := by decide +kernel
set_option maxRecDepth 20000 in
theorem mu_X1_square_X1 : ∀ w ∈ wsX10, w ∈ wsX1_square := by decide +kernel
theorem f_X1_square : yX1_square.cls ≠ "java/lang/invoke/MethodHandle" ∧ yX1_square.cls ≠ "java/lang/invoke/VarHandle" ∧ (parseMethodDescriptor yX1_square.desc).map (fun d => d.parameters.length) = some 2 := by decide +kernel
set_option maxHeartbeats 4000000 in
set_option maxRecDepth 100000 in
theorem c_X1_square (l : Launch) (hst : l.stackTraces = false) (D : va_G) (cI cL : ClassId) (tw : Nat) (y0 : Nat) (y2 : Nat) (b : Nat) (pq : Nat) (cq : Nat) (tu : Int) (ph : Int) (mo : Int) (gc : Int) (P : Int → Int) (C : Int → Int) (a : Int) (j : Int) (hB : ∀ i, 0 ≤ P i ∧ P i ≤ 72) (htu : 0 ≤ tu ∧ tu ≤ 3) (hgc : 0 ≤ gc ∧ gc ≤ 2) (hph : 0 ≤ ph ∧ ph ≤ 2) (hmo : 0 ≤ mo ∧ mo ≤ 6) (h_a : -2147483648 ≤ a ∧ a < 2147483648) (h_j : -2147483648 ≤ j ∧ j < 2147483648) : XRi l yX1_square wsX1_square { frames := 7, cells := 2, slots := 12, locals := 120 } D cI cL tw [.ref y0, .int (iI (a)), .int (iI (j))] [(y0, .inr (1, [.ref b, .ref y2, .int (iI (tu)), .int (iI (gc)), .int (iI (ph)), .int (iI (mo))])), (y2, .inl (cI, 4, .inl (aI C))), (b, .inr (0, [.ref pq, .ref cq])), (pq, .inl (cI, 16, .inl (aI P))), (cq, .inl (cI, 136, .inl (aI (cnt P))))] (fun z : Int => 0 ≤ a ∧ a ≤ 3 ∧ 0 ≤ j ∧ j ≤ 3 ∧ z = sA a (P (4 * a + j))) (fun E : String => E = "java/lang/IndexOutOfBoundsException" ∧ ¬ (0 ≤ a ∧ a ≤ 3 ∧ 0 ≤ j ∧ j ≤ 3)) 2 12 := by
  refine xri_of (cc := cX1_square) (maxL := 3) (rt := .int) hst (by decide) rfl rfl (Or.inl rfl) (Nat.le_of_ble_eq_true rfl) (Nat.le_of_ble_eq_true rfl) (Nat.le_of_ble_eq_true rfl) ?_
  intro p e R s mt args below meth c H0 Q ls A S hR hRc hE hP hA hN hl hret hxo hth
  have hS := hN.mono hA
  obtain ⟨hx, hb, hml, hown, hts⟩ := id S
  have hl : lv_has ls 3 [(0, .ref y0), (1, .int (iI (a))), (2, .int (iI (j)))] := hl
  refine lv_iload_n hx hb dX1_square_0 rfl (lv_at hl 1 rfl) ?_
  refine r_xcS (As := [.int (iI (a))]) (rest := []) S (c_X1_requirePlayer l hst D cI cL tw (a) (by omega)) gX1_square_X1_requirePlayer rfl rfl rfl f_X1_requirePlayer hR (Nat.le_of_ble_eq_true rfl) (Nat.le_of_ble_eq_true rfl) (hE.kept hS.2.1) hP hN rfl hl.1 rfl (Nat.le_of_ble_eq_true rfl) dX1_square_1 ⟨Nat.le_trans (Nat.le_of_ble_eq_true rfl) hRc.1, Nat.le_trans (Nat.le_of_ble_eq_true rfl) hRc.2⟩ (fun E9 ce9 q9 H9 locs9 hx9 h91 h92 h93 hP9 hN9 => hxo E9 ce9 q9 _ _ _ _ _ _ _ (by rcases hx9 with ⟨h1, h2⟩; exact ⟨h1, by omega⟩) h91 h92 h93 hN9 (Nat.le_of_ble_eq_true rfl) (Nat.le_of_ble_eq_true rfl)) (fun H locs hz1 hP hN => ?_)
  have hS := hN.mono hA
  refine lv_iload_n hx hb dX1_square_4 rfl (lv_at hl 2 rfl) ?_
  refine r_xcS (As := [.int (iI (j))]) (rest := []) S (c_X1_requirePiece l hst D cI cL tw (j) (by omega)) gX1_square_X1_requirePiece rfl rfl rfl f_X1_requirePiece hR (Nat.le_of_ble_eq_true rfl) (Nat.le_of_ble_eq_true rfl) (hE.kept hS.2.1) hP hN rfl hl.1 rfl (Nat.le_of_ble_eq_true rfl) dX1_square_5 ⟨Nat.le_trans (Nat.le_of_ble_eq_true rfl) hRc.1, Nat.le_trans (Nat.le_of_ble_eq_true rfl) hRc.2⟩ (fun E9 ce9 q9 H9 locs9 hx9 h91 h92 h93 hP9 hN9 => hxo E9 ce9 q9 _ _ _ _ _ _ _ (by rcases hx9 with ⟨h1, h2⟩; exact ⟨h1, by omega⟩) h91 h92 h93 hN9 (Nat.le_of_ble_eq_true rfl) (Nat.le_of_ble_eq_true rfl)) (fun H locs hz5 hP hN => ?_)
  have hS := hN.mono hA
  refine lv_aload_n hx hb dX1_square_8 rfl (lv_at hl 0 rfl) ?_
  refine va_get (D := D) (ci := 1) (v := .ref b) (C := RX1) (T := TX1) (N := 6) hx hb hts mu_X1_square_X1 hown hE.1 hP 0 rfl rfl 0 (by decide) (hts _ mw_X1_square_0) (fun _ h9 => h9) rfl dX1_square_9 ?_
  refine lv_iload_n hx hb dX1_square_12 rfl (lv_at hl 1 rfl) ?_
  refine lv_aload_n hx hb dX1_square_13 rfl (lv_at hl 0 rfl) ?_
  refine va_get (D := D) (ci := 1) (v := .ref b) (C := RX1) (T := TX1) (N := 6) hx hb hts mu_X1_square_X1 hown hE.1 hP 0 rfl rfl 0 (by decide) (hts _ mw_X1_square_0) (fun _ h9 => h9) rfl dX1_square_14 ?_
  refine lv_iload_n hx hb dX1_square_17 rfl (lv_at hl 1 rfl) ?_
  refine lv_iload_n hx hb dX1_square_18 rfl (lv_at hl 2 rfl) ?_
  refine r_callV (As := [.int (iI (a)), .int (iI (j))]) (rest := [.int (iI (a)), .ref b]) S (c_X0_positionOf l D cI cL tw (b) (pq) (cq) (P) (a) (j) (hB) (by omega) (by omega)) gX1_square_X0_positionOf rfl rfl rfl ⟨rfl, f_X0_positionOf⟩ hR (Nat.le_of_ble_eq_true rfl) (Nat.le_of_ble_eq_true rfl) (hE.kept hS.2.1) hP [2, 3, 4] rfl 0 rfl rfl rfl hl.1 rfl (Nat.le_of_ble_eq_true rfl) dX1_square_19 ⟨Nat.le_trans (Nat.le_of_ble_eq_true rfl) hRc.1, Nat.le_trans (Nat.le_of_ble_eq_true rfl) hRc.2⟩ (fun z19 hz19 => ?_)
  obtain ⟨hz19, rz19⟩ := hz19
  refine r_callV (As := [.int (iI (a)), .int (iI (z19))]) (rest := []) S (c_X0_squareAt l D cI cL tw (b) (pq) (cq) (a) (z19) (by omega) (by omega)) gX1_square_X0_squareAt rfl rfl rfl ⟨rfl, f_X0_squareAt⟩ hR (Nat.le_of_ble_eq_true rfl) (Nat.le_of_ble_eq_true rfl) (hE.kept hS.2.1) hP [2] rfl 0 rfl rfl rfl hl.1 rfl (Nat.le_of_ble_eq_true rfl) dX1_square_22 ⟨Nat.le_trans (Nat.le_of_ble_eq_true rfl) hRc.1, Nat.le_trans (Nat.le_of_ble_eq_true rfl) hRc.2⟩ (fun z22 hz22 => ?_)
  obtain ⟨hz22, rz22⟩ := hz22
  exact hret (z22) _ _ _ _ _ _ dX1_square_25 (by rw [← hz19]; omega) hN (Nat.le_of_ble_eq_true rfl) (Nat.le_of_ble_eq_true rfl)

set_option maxRecDepth 20000 in
theorem mw_X1_standing_0 : (.fieldLink RX1 10 "PachisiYard" "board" "LPachisiYard$Board;" : Cond) ∈ wsX1_standing := by decide +kernel
set_option maxRecDepth 20000 in
theorem mu_X1_standing_X1 : ∀ w ∈ wsX10, w ∈ wsX1_standing := by decide +kernel
theorem f_X1_standing : yX1_standing.cls ≠ "java/lang/invoke/MethodHandle" ∧ yX1_standing.cls ≠ "java/lang/invoke/VarHandle" ∧ (parseMethodDescriptor yX1_standing.desc).map (fun d => d.parameters.length) = some 2 := by decide +kernel
set_option maxHeartbeats 4000000 in
set_option maxRecDepth 100000 in
theorem c_X1_standing (l : Launch) (hst : l.stackTraces = false) (D : va_G) (cI cL : ClassId) (tw : Nat) (y0 : Nat) (y2 : Nat) (b : Nat) (pq : Nat) (cq : Nat) (tu : Int) (ph : Int) (mo : Int) (gc : Int) (P : Int → Int) (C : Int → Int) (q : Int) (t : Int) (hB : ∀ i, 0 ≤ P i ∧ P i ≤ 72) (htu : 0 ≤ tu ∧ tu ≤ 3) (hgc : 0 ≤ gc ∧ gc ≤ 2) (hph : 0 ≤ ph ∧ ph ≤ 2) (hmo : 0 ≤ mo ∧ mo ≤ 6) (h_q : -2147483648 ≤ q ∧ q < 2147483648) (h_t : -2147483648 ≤ t ∧ t < 2147483648) : XRi l yX1_standing wsX1_standing { frames := 7, cells := 2, slots := 12, locals := 120 } D cI cL tw [.ref y0, .int (iI (q)), .int (iI (t))] [(y0, .inr (1, [.ref b, .ref y2, .int (iI (tu)), .int (iI (gc)), .int (iI (ph)), .int (iI (mo))])), (y2, .inl (cI, 4, .inl (aI C))), (b, .inr (0, [.ref pq, .ref cq])), (pq, .inl (cI, 16, .inl (aI P))), (cq, .inl (cI, 136, .inl (aI (cnt P))))] (fun z : Int => 0 ≤ q ∧ q ≤ 67 ∧ 0 ≤ t ∧ t ≤ 1 ∧ z = stand P q t) (fun E : String => (E = "java/lang/IndexOutOfBoundsException" ∧ ¬ (0 ≤ q ∧ q ≤ 67)) ∨ (E = "java/lang/IllegalArgumentException" ∧ 0 ≤ q ∧ q ≤ 67 ∧ ¬ (0 ≤ t ∧ t ≤ 1))) 2 12 := by
  refine xri_of (cc := cX1_standing) (maxL := 3) (rt := .int) hst (by decide) rfl rfl (Or.inl rfl) (Nat.le_of_ble_eq_true rfl) (Nat.le_of_ble_eq_true rfl) (Nat.le_of_ble_eq_true rfl) ?_
  intro p e R s mt args below meth c H0 Q ls A S hR hRc hE hP hA hN hl hret hxo hth
  have hS := hN.mono hA
  obtain ⟨hx, hb, hml, hown, hts⟩ := id S
  have hl : lv_has ls 3 [(0, .ref y0), (1, .int (iI (q))), (2, .int (iI (t)))] := hl
  refine lv_iload_n hx hb dX1_standing_0 rfl (lv_at hl 1 rfl) ?_
  refine r_xcS (As := [.int (iI (q))]) (rest := []) S (c_X1_requireSquare l hst D cI cL tw (q) (by omega)) gX1_standing_X1_requireSquare rfl rfl rfl f_X1_requireSquare hR (Nat.le_of_ble_eq_true rfl) (Nat.le_of_ble_eq_true rfl) (hE.kept hS.2.1) hP hN rfl hl.1 rfl (Nat.le_of_ble_eq_true rfl) dX1_standing_1 ⟨Nat.le_trans (Nat.le_of_ble_eq_true rfl) hRc.1, Nat.le_trans (Nat.le_of_ble_eq_true rfl) hRc.2⟩ (fun E9 ce9 q9 H9 locs9 hx9 h91 h92 h93 hP9 hN9 => hxo E9 ce9 q9 _ _ _ _ _ _ _ (by rcases hx9 with ⟨h1, h2⟩; exact Or.inl ⟨h1, by omega⟩) h91 h92 h93 hN9 (Nat.le_of_ble_eq_true rfl) (Nat.le_of_ble_eq_true rfl)) (fun H locs hz1 hP hN => ?_)
  have hS := hN.mono hA
  refine lv_iload_n hx hb dX1_standing_4 rfl (lv_at hl 2 rfl) ?_
  refine r_xcS (As := [.int (iI (t))]) (rest := []) S (c_X1_requireTeam l hst D cI cL tw (t) (by omega)) gX1_standing_X1_requireTeam rfl rfl rfl f_X1_requireTeam hR (Nat.le_of_ble_eq_true rfl) (Nat.le_of_ble_eq_true rfl) (hE.kept hS.2.1) hP hN rfl hl.1 rfl (Nat.le_of_ble_eq_true rfl) dX1_standing_5 ⟨Nat.le_trans (Nat.le_of_ble_eq_true rfl) hRc.1, Nat.le_trans (Nat.le_of_ble_eq_true rfl) hRc.2⟩ (fun E9 ce9 q9 H9 locs9 hx9 h91 h92 h93 hP9 hN9 => hxo E9 ce9 q9 _ _ _ _ _ _ _ (by rcases hx9 with ⟨h1, h2⟩; exact Or.inr ⟨h1, by omega⟩) h91 h92 h93 hN9 (Nat.le_of_ble_eq_true rfl) (Nat.le_of_ble_eq_true rfl)) (fun H locs hz5 hP hN => ?_)
  have hS := hN.mono hA
  refine lv_aload_n hx hb dX1_standing_8 rfl (lv_at hl 0 rfl) ?_
  refine va_get (D := D) (ci := 1) (v := .ref b) (C := RX1) (T := TX1) (N := 6) hx hb hts mu_X1_standing_X1 hown hE.1 hP 0 rfl rfl 0 (by decide) (hts _ mw_X1_standing_0) (fun _ h9 => h9) rfl dX1_standing_9 ?_
  refine lv_iload_n hx hb dX1_standing_12 rfl (lv_at hl 1 rfl) ?_
  refine lv_iload_n hx hb dX1_standing_13 rfl (lv_at hl 2 rfl) ?_
  refine r_callV (As := [.int (iI (q)), .int (iI (t))]) (rest := []) S (c_X0_countOn l D cI cL tw (b) (pq) (cq) (P) (q) (t) (hB) (by omega) (by omega)) gX1_standing_X0_countOn rfl rfl rfl ⟨rfl, f_X0_countOn⟩ hR (Nat.le_of_ble_eq_true rfl) (Nat.le_of_ble_eq_true rfl) (hE.kept hS.2.1) hP [2, 3, 4] rfl 0 rfl rfl rfl hl.1 rfl (Nat.le_of_ble_eq_true rfl) dX1_standing_14 ⟨Nat.le_trans (Nat.le_of_ble_eq_true rfl) hRc.1, Nat.le_trans (Nat.le_of_ble_eq_true rfl) hRc.2⟩ (fun z14 hz14 => ?_)
  obtain ⟨hz14, rz14⟩ := hz14
  exact hret (z14) _ _ _ _ _ _ dX1_standing_17 (by have e : stA P q t = stand P q t := (by unfold stA; rw [if_pos (by omega)]); omega) hN (Nat.le_of_ble_eq_true rfl) (Nat.le_of_ble_eq_true rfl)

theorem f_X1_isSafe : yX1_isSafe.cls ≠ "java/lang/invoke/MethodHandle" ∧ yX1_isSafe.cls ≠ "java/lang/invoke/VarHandle" ∧ (parseMethodDescriptor yX1_isSafe.desc).map (fun d => d.parameters.length) = some 1 := by decide +kernel
set_option maxHeartbeats 4000000 in
set_option maxRecDepth 100000 in
theorem c_X1_isSafe (l : Launch) (hst : l.stackTraces = false) (D : va_G) (cI cL : ClassId) (tw : Nat) (y0 : Nat) (y2 : Nat) (b : Nat) (pq : Nat) (cq : Nat) (tu : Int) (ph : Int) (mo : Int) (gc : Int) (P : Int → Int) (C : Int → Int) (q : Int) (hB : ∀ i, 0 ≤ P i ∧ P i ≤ 72) (htu : 0 ≤ tu ∧ tu ≤ 3) (hgc : 0 ≤ gc ∧ gc ≤ 2) (hph : 0 ≤ ph ∧ ph ≤ 2) (hmo : 0 ≤ mo ∧ mo ≤ 6) (h_q : -2147483648 ≤ q ∧ q < 2147483648) : XRi l yX1_isSafe wsX1_isSafe { frames := 7, cells := 1, slots := 6, locals := 120 } D cI cL tw [.ref y0, .int (iI (q))] [(y0, .inr (1, [.ref b, .ref y2, .int (iI (tu)), .int (iI (gc)), .int (iI (ph)), .int (iI (mo))])), (y2, .inl (cI, 4, .inl (aI C))), (b, .inr (0, [.ref pq, .ref cq])), (pq, .inl (cI, 16, .inl (aI P))), (cq, .inl (cI, 136, .inl (aI (cnt P))))] (fun z : Int => 0 ≤ q ∧ q ≤ 67 ∧ tz (q % 17 = 4 ∨ q % 17 = 11) z) (fun E : String => E = "java/lang/IndexOutOfBoundsException" ∧ ¬ (0 ≤ q ∧ q ≤ 67)) 1 6 := by
  refine xri_of (cc := cX1_isSafe) (maxL := 2) (rt := .boolean) hst (by decide) rfl rfl (Or.inr ⟨rfl, fun z h => by rcases h.2.2 with ⟨h, _⟩ | ⟨h, _⟩ <;> omega⟩) (Nat.le_of_ble_eq_true rfl) (Nat.le_of_ble_eq_true rfl) (Nat.le_of_ble_eq_true rfl) ?_
  intro p e R s mt args below meth c H0 Q ls A S hR hRc hE hP hA hN hl hret hxo hth
  have hS := hN.mono hA
  obtain ⟨hx, hb, hml, hown, hts⟩ := id S
  have hl : lv_has ls 2 [(0, .ref y0), (1, .int (iI (q)))] := hl
  refine lv_iload_n hx hb dX1_isSafe_0 rfl (lv_at hl 1 rfl) ?_
  refine r_xcS (As := [.int (iI (q))]) (rest := []) S (c_X1_requireSquare l hst D cI cL tw (q) (by omega)) gX1_isSafe_X1_requireSquare rfl rfl rfl f_X1_requireSquare hR (Nat.le_of_ble_eq_true rfl) (Nat.le_of_ble_eq_true rfl) (hE.kept hS.2.1) hP hN rfl hl.1 rfl (Nat.le_of_ble_eq_true rfl) dX1_isSafe_1 ⟨Nat.le_trans (Nat.le_of_ble_eq_true rfl) hRc.1, Nat.le_trans (Nat.le_of_ble_eq_true rfl) hRc.2⟩ (fun E9 ce9 q9 H9 locs9 hx9 h91 h92 h93 hP9 hN9 => hxo E9 ce9 q9 _ _ _ _ _ _ _ (by rcases hx9 with ⟨h1, h2⟩; exact ⟨h1, by omega⟩) h91 h92 h93 hN9 (Nat.le_of_ble_eq_true rfl) (Nat.le_of_ble_eq_true rfl)) (fun H locs hz1 hP hN => ?_)
  have hS := hN.mono hA
  refine lv_iload_n hx hb dX1_isSafe_4 rfl (lv_at hl 1 rfl) ?_
  refine r_callS (As := [.int (iI (q))]) (rest := []) S (c_X1_isSafeSquare l D cI cL tw (q) (by omega)) gX1_isSafe_X1_isSafeSquare rfl rfl rfl f_X1_isSafeSquare hR (Nat.le_of_ble_eq_true rfl) (Nat.le_of_ble_eq_true rfl) (hE.kept hS.2.1) rfl hl.1 rfl (Nat.le_of_ble_eq_true rfl) dX1_isSafe_5 ⟨Nat.le_trans (Nat.le_of_ble_eq_true rfl) hRc.1, Nat.le_trans (Nat.le_of_ble_eq_true rfl) hRc.2⟩ (fun z5 hz5 => ?_)
  rcases hz5 with ⟨rfl, hz5⟩ | ⟨rfl, hz5⟩
  · exact hret (1) _ _ _ _ _ _ dX1_isSafe_8 (by unfold tz; omega) hN (Nat.le_of_ble_eq_true rfl) (Nat.le_of_ble_eq_true rfl)
  · exact hret (0) _ _ _ _ _ _ dX1_isSafe_8 (by unfold tz; omega) hN (Nat.le_of_ble_eq_true rfl) (Nat.le_of_ble_eq_true rfl)

set_option maxRecDepth 20000 in
theorem mw_X1_home_0 : (.fieldLink RX1 10 "PachisiYard" "board" "LPachisiYard$Board;" : Cond) ∈ wsX1_home := by decide +kernel
set_option maxRecDepth 20000 in
theorem mu_X1_home_X1 : ∀ w ∈ wsX10, w ∈ wsX1_home := by decide +kernel
theorem f_X1_home : yX1_home.cls ≠ "java/lang/invoke/MethodHandle" ∧ yX1_home.cls ≠ "java/lang/invoke/VarHandle" ∧ (parseMethodDescriptor yX1_home.desc).map (fun d => d.parameters.length) = some 1 := by decide +kernel
set_option maxHeartbeats 4000000 in
set_option maxRecDepth 100000 in
theorem c_X1_home (l : Launch) (hst : l.stackTraces = false) (D : va_G) (cI cL : ClassId) (tw : Nat) (y0 : Nat) (y2 : Nat) (b : Nat) (pq : Nat) (cq : Nat) (tu : Int) (ph : Int) (mo : Int) (gc : Int) (P : Int → Int) (C : Int → Int) (a : Int) (hB : ∀ i, 0 ≤ P i ∧ P i ≤ 72) (htu : 0 ≤ tu ∧ tu ≤ 3) (hgc : 0 ≤ gc ∧ gc ≤ 2) (hph : 0 ≤ ph ∧ ph ≤ 2) (hmo : 0 ≤ mo ∧ mo ≤ 6) (h_a : -2147483648 ≤ a ∧ a < 2147483648) : XRi l yX1_home wsX1_home { frames := 7, cells := 1, slots := 6, locals := 120 } D cI cL tw [.ref y0, .int (iI (a))] [(y0, .inr (1, [.ref b, .ref y2, .int (iI (tu)), .int (iI (gc)), .int (iI (ph)), .int (iI (mo))])), (y2, .inl (cI, 4, .inl (aI C))), (b, .inr (0, [.ref pq, .ref cq])), (pq, .inl (cI, 16, .inl (aI P))), (cq, .inl (cI, 136, .inl (aI (cnt P))))] (fun z : Int => 0 ≤ a ∧ a ≤ 3 ∧ z = hm P a) (fun E : String => E = "java/lang/IndexOutOfBoundsException" ∧ ¬ (0 ≤ a ∧ a ≤ 3)) 1 6 := by
  refine xri_of (cc := cX1_home) (maxL := 2) (rt := .int) hst (by decide) rfl rfl (Or.inl rfl) (Nat.le_of_ble_eq_true rfl) (Nat.le_of_ble_eq_true rfl) (Nat.le_of_ble_eq_true rfl) ?_
  intro p e R s mt args below meth c H0 Q ls A S hR hRc hE hP hA hN hl hret hxo hth
  have hS := hN.mono hA
  obtain ⟨hx, hb, hml, hown, hts⟩ := id S
  have hl : lv_has ls 2 [(0, .ref y0), (1, .int (iI (a)))] := hl
  refine lv_iload_n hx hb dX1_home_0 rfl (lv_at hl 1 rfl) ?_
  refine r_xcS (As := [.int (iI (a))]) (rest := []) S (c_X1_requirePlayer l hst D cI cL tw (a) (by omega)) gX1_home_X1_requirePlayer rfl rfl rfl f_X1_requirePlayer hR (Nat.le_of_ble_eq_true rfl) (Nat.le_of_ble_eq_true rfl) (hE.kept hS.2.1) hP hN rfl hl.1 rfl (Nat.le_of_ble_eq_true rfl) dX1_home_1 ⟨Nat.le_trans (Nat.le_of_ble_eq_true rfl) hRc.1, Nat.le_trans (Nat.le_of_ble_eq_true rfl) hRc.2⟩ (fun E9 ce9 q9 H9 locs9 hx9 h91 h92 h93 hP9 hN9 => hxo E9 ce9 q9 _ _ _ _ _ _ _ (by rcases hx9 with ⟨h1, h2⟩; exact ⟨h1, by omega⟩) h91 h92 h93 hN9 (Nat.le_of_ble_eq_true rfl) (Nat.le_of_ble_eq_true rfl)) (fun H locs hz1 hP hN => ?_)
  have hS := hN.mono hA
  refine lv_aload_n hx hb dX1_home_4 rfl (lv_at hl 0 rfl) ?_
  refine va_get (D := D) (ci := 1) (v := .ref b) (C := RX1) (T := TX1) (N := 6) hx hb hts mu_X1_home_X1 hown hE.1 hP 0 rfl rfl 0 (by decide) (hts _ mw_X1_home_0) (fun _ h9 => h9) rfl dX1_home_5 ?_
  refine lv_iload_n hx hb dX1_home_8 rfl (lv_at hl 1 rfl) ?_
  refine r_callV (As := [.int (iI (a))]) (rest := []) S (c_X0_countHome l D cI cL tw (b) (pq) (cq) (P) (a) (hB) (by omega)) gX1_home_X0_countHome rfl rfl rfl ⟨rfl, f_X0_countHome⟩ hR (Nat.le_of_ble_eq_true rfl) (Nat.le_of_ble_eq_true rfl) (hE.kept hS.2.1) hP [2, 3, 4] rfl 0 rfl rfl rfl hl.1 rfl (Nat.le_of_ble_eq_true rfl) dX1_home_9 ⟨Nat.le_trans (Nat.le_of_ble_eq_true rfl) hRc.1, Nat.le_trans (Nat.le_of_ble_eq_true rfl) hRc.2⟩ (fun z9 hz9 => ?_)
  obtain ⟨hz9, rz9⟩ := hz9
  exact hret (z9) _ _ _ _ _ _ dX1_home_12 (by omega) hN (Nat.le_of_ble_eq_true rfl) (Nat.le_of_ble_eq_true rfl)

set_option maxRecDepth 20000 in
theorem mw_X1_captures_0 : (.fieldLink RX1 16 "PachisiYard" "captureCounts" "[I" : Cond) ∈ wsX1_captures := by decide +kernel
set_option maxRecDepth 20000 in
theorem mu_X1_captures_X1 : ∀ w ∈ wsX10, w ∈ wsX1_captures := by decide +kernel
theorem f_X1_captures : yX1_captures.cls ≠ "java/lang/invoke/MethodHandle" ∧ yX1_captures.cls ≠ "java/lang/invoke/VarHandle" ∧ (parseMethodDescriptor yX1_captures.desc).map (fun d => d.parameters.length) = some 1 := by decide +kernel
set_option maxHeartbeats 4000000 in
set_option maxRecDepth 100000 in
theorem c_X1_captures (l : Launch) (hst : l.stackTraces = false) (D : va_G) (cI cL : ClassId) (tw : Nat) (y0 : Nat) (y2 : Nat) (b : Nat) (pq : Nat) (cq : Nat) (tu : Int) (ph : Int) (mo : Int) (gc : Int) (P : Int → Int) (C : Int → Int) (a : Int) (hB : ∀ i, 0 ≤ P i ∧ P i ≤ 72) (htu : 0 ≤ tu ∧ tu ≤ 3) (hgc : 0 ≤ gc ∧ gc ≤ 2) (hph : 0 ≤ ph ∧ ph ≤ 2) (hmo : 0 ≤ mo ∧ mo ≤ 6) (h_a : -2147483648 ≤ a ∧ a < 2147483648) : XRi l yX1_captures wsX1_captures { frames := 7, cells := 1, slots := 6, locals := 120 } D cI cL tw [.ref y0, .int (iI (a))] [(y0, .inr (1, [.ref b, .ref y2, .int (iI (tu)), .int (iI (gc)), .int (iI (ph)), .int (iI (mo))])), (y2, .inl (cI, 4, .inl (aI C))), (b, .inr (0, [.ref pq, .ref cq])), (pq, .inl (cI, 16, .inl (aI P))), (cq, .inl (cI, 136, .inl (aI (cnt P))))] (fun z : Int => 0 ≤ a ∧ a ≤ 3 ∧ z = C a) (fun E : String => E = "java/lang/IndexOutOfBoundsException" ∧ ¬ (0 ≤ a ∧ a ≤ 3)) 1 6 := by
  refine xri_of (cc := cX1_captures) (maxL := 2) (rt := .int) hst (by decide) rfl rfl (Or.inl rfl) (Nat.le_of_ble_eq_true rfl) (Nat.le_of_ble_eq_true rfl) (Nat.le_of_ble_eq_true rfl) ?_
  intro p e R s mt args below meth c H0 Q ls A S hR hRc hE hP hA hN hl hret hxo hth
  have hS := hN.mono hA
  obtain ⟨hx, hb, hml, hown, hts⟩ := id S
  have hl : lv_has ls 2 [(0, .ref y0), (1, .int (iI (a)))] := hl
  refine lv_iload_n hx hb dX1_captures_0 rfl (lv_at hl 1 rfl) ?_
  refine r_xcS (As := [.int (iI (a))]) (rest := []) S (c_X1_requirePlayer l hst D cI cL tw (a) (by omega)) gX1_captures_X1_requirePlayer rfl rfl rfl f_X1_requirePlayer hR (Nat.le_of_ble_eq_true rfl) (Nat.le_of_ble_eq_true rfl) (hE.kept hS.2.1) hP hN rfl hl.1 rfl (Nat.le_of_ble_eq_true rfl) dX1_captures_1 ⟨Nat.le_trans (Nat.le_of_ble_eq_true rfl) hRc.1, Nat.le_trans (Nat.le_of_ble_eq_true rfl) hRc.2⟩ (fun E9 ce9 q9 H9 locs9 hx9 h91 h92 h93 hP9 hN9 => hxo E9 ce9 q9 _ _ _ _ _ _ _ (by rcases hx9 with ⟨h1, h2⟩; exact ⟨h1, by omega⟩) h91 h92 h93 hN9 (Nat.le_of_ble_eq_true rfl) (Nat.le_of_ble_eq_true rfl)) (fun H locs hz1 hP hN => ?_)
  have hS := hN.mono hA
  refine lv_iload_n hx hb dX1_captures_4 rfl (lv_at hl 1 rfl) ?_
  refine r_if_lt (tgt := 26) hx hb dX1_captures_5 (by decide) (by unfold rI; omega) (fun h9 => absurd h9 (by omega)) (fun h5 => ?_)
  refine lv_iload_n hx hb dX1_captures_8 rfl (lv_at hl 1 rfl) ?_
  refine lv_aload_n hx hb dX1_captures_9 rfl (lv_at hl 0 rfl) ?_
  refine va_get (D := D) (ci := 1) (v := .ref y2) (C := RX1) (T := TX1) (N := 6) hx hb hts mu_X1_captures_X1 hown hE.1 hP 0 rfl rfl 1 (by decide) (hts _ mw_X1_captures_0) (fun _ h9 => h9) rfl dX1_captures_10 ?_
  refine r_alen hx hb hE.1 hP 1 rfl dX1_captures_13 ?_
  refine r_top 4 rfl ?_
  refine r_icmp_ge (tgt := 26) hx hb dX1_captures_14 (by decide) (by unfold rI; omega) (by unfold rI; decide) (fun h9 => absurd h9 (by omega)) (fun h14 => ?_)
  refine lv_aload_n hx hb dX1_captures_17 rfl (lv_at hl 0 rfl) ?_
  refine va_get (D := D) (ci := 1) (v := .ref y2) (C := RX1) (T := TX1) (N := 6) hx hb hts mu_X1_captures_X1 hown hE.1 hP 0 rfl rfl 1 (by decide) (hts _ mw_X1_captures_0) (fun _ h9 => h9) rfl dX1_captures_18 ?_
  refine lv_iload_n hx hb dX1_captures_21 rfl (lv_at hl 1 rfl) ?_
  refine r_iald hx hb hE.1 hP 1 rfl (i := a) (by omega) (by omega) (by decide) dX1_captures_22 ?_
  refine lv_goto (tgt := 27) hx hb dX1_captures_23 (by decide) ?_
  exact hret (C (a)) _ _ _ _ _ _ dX1_captures_27 (by exact ⟨by omega, by omega, rfl⟩) hN (Nat.le_of_ble_eq_true rfl) (Nat.le_of_ble_eq_true rfl)

set_option maxRecDepth 20000 in
theorem mw_X1_distance_0 : (.fieldLink RX1 10 "PachisiYard" "board" "LPachisiYard$Board;" : Cond) ∈ wsX1_distance := by decide +kernel
set_option maxRecDepth 20000 in
theorem mu_X1_distance_X1 : ∀ w ∈ wsX10, w ∈ wsX1_distance := by decide +kernel
theorem f_X1_distance : yX1_distance.cls ≠ "java/lang/invoke/MethodHandle" ∧ yX1_distance.cls ≠ "java/lang/invoke/VarHandle" ∧ (parseMethodDescriptor yX1_distance.desc).map (fun d => d.parameters.length) = some 1 := by decide +kernel
set_option maxHeartbeats 4000000 in
set_option maxRecDepth 100000 in
theorem c_X1_distance (l : Launch) (hst : l.stackTraces = false) (D : va_G) (cI cL : ClassId) (tw : Nat) (y0 : Nat) (y2 : Nat) (b : Nat) (pq : Nat) (cq : Nat) (tu : Int) (ph : Int) (mo : Int) (gc : Int) (P : Int → Int) (C : Int → Int) (t : Int) (hB : ∀ i, 0 ≤ P i ∧ P i ≤ 72) (htu : 0 ≤ tu ∧ tu ≤ 3) (hgc : 0 ≤ gc ∧ gc ≤ 2) (hph : 0 ≤ ph ∧ ph ≤ 2) (hmo : 0 ≤ mo ∧ mo ≤ 6) (h_t : -2147483648 ≤ t ∧ t < 2147483648) : XRi l yX1_distance wsX1_distance { frames := 7, cells := 1, slots := 6, locals := 120 } D cI cL tw [.ref y0, .int (iI (t))] [(y0, .inr (1, [.ref b, .ref y2, .int (iI (tu)), .int (iI (gc)), .int (iI (ph)), .int (iI (mo))])), (y2, .inl (cI, 4, .inl (aI C))), (b, .inr (0, [.ref pq, .ref cq])), (pq, .inl (cI, 16, .inl (aI P))), (cq, .inl (cI, 136, .inl (aI (cnt P))))] (fun z : Int => 0 ≤ t ∧ t ≤ 1 ∧ z = dst P t) (fun E : String => E = "java/lang/IllegalArgumentException" ∧ ¬ (0 ≤ t ∧ t ≤ 1)) 1 6 := by
  refine xri_of (cc := cX1_distance) (maxL := 2) (rt := .int) hst (by decide) rfl rfl (Or.inl rfl) (Nat.le_of_ble_eq_true rfl) (Nat.le_of_ble_eq_true rfl) (Nat.le_of_ble_eq_true rfl) ?_
  intro p e R s mt args below meth c H0 Q ls A S hR hRc hE hP hA hN hl hret hxo hth
  have hS := hN.mono hA
  obtain ⟨hx, hb, hml, hown, hts⟩ := id S
  have hl : lv_has ls 2 [(0, .ref y0), (1, .int (iI (t)))] := hl
  refine lv_iload_n hx hb dX1_distance_0 rfl (lv_at hl 1 rfl) ?_
  refine r_xcS (As := [.int (iI (t))]) (rest := []) S (c_X1_requireTeam l hst D cI cL tw (t) (by omega)) gX1_distance_X1_requireTeam rfl rfl rfl f_X1_requireTeam hR (Nat.le_of_ble_eq_true rfl) (Nat.le_of_ble_eq_true rfl) (hE.kept hS.2.1) hP hN rfl hl.1 rfl (Nat.le_of_ble_eq_true rfl) dX1_distance_1 ⟨Nat.le_trans (Nat.le_of_ble_eq_true rfl) hRc.1, Nat.le_trans (Nat.le_of_ble_eq_true rfl) hRc.2⟩ (fun E9 ce9 q9 H9 locs9 hx9 h91 h92 h93 hP9 hN9 => hxo E9 ce9 q9 _ _ _ _ _ _ _ (by rcases hx9 with ⟨h1, h2⟩; exact ⟨h1, by omega⟩) h91 h92 h93 hN9 (Nat.le_of_ble_eq_true rfl) (Nat.le_of_ble_eq_true rfl)) (fun H locs hz1 hP hN => ?_)
  have hS := hN.mono hA
  refine lv_aload_n hx hb dX1_distance_4 rfl (lv_at hl 0 rfl) ?_
  refine va_get (D := D) (ci := 1) (v := .ref b) (C := RX1) (T := TX1) (N := 6) hx hb hts mu_X1_distance_X1 hown hE.1 hP 0 rfl rfl 0 (by decide) (hts _ mw_X1_distance_0) (fun _ h9 => h9) rfl dX1_distance_5 ?_
  refine lv_iload_n hx hb dX1_distance_8 rfl (lv_at hl 1 rfl) ?_
  refine r_callV (As := [.int (iI (t))]) (rest := []) S (c_X0_distanceOf l D cI cL tw (b) (pq) (cq) (P) (t) (hB) (by omega)) gX1_distance_X0_distanceOf rfl rfl rfl ⟨rfl, f_X0_distanceOf⟩ hR (Nat.le_of_ble_eq_true rfl) (Nat.le_of_ble_eq_true rfl) (hE.kept hS.2.1) hP [2, 3, 4] rfl 0 rfl rfl rfl hl.1 rfl (Nat.le_of_ble_eq_true rfl) dX1_distance_9 ⟨Nat.le_trans (Nat.le_of_ble_eq_true rfl) hRc.1, Nat.le_trans (Nat.le_of_ble_eq_true rfl) hRc.2⟩ (fun z9 hz9 => ?_)
  obtain ⟨hz9, rz9⟩ := hz9
  refine lv_aload_n hx hb dX1_distance_12 rfl (lv_at hl 0 rfl) ?_
  refine va_get (D := D) (ci := 1) (v := .ref b) (C := RX1) (T := TX1) (N := 6) hx hb hts mu_X1_distance_X1 hown hE.1 hP 0 rfl rfl 0 (by decide) (hts _ mw_X1_distance_0) (fun _ h9 => h9) rfl dX1_distance_13 ?_
  refine lv_iload_n hx hb dX1_distance_16 rfl (lv_at hl 1 rfl) ?_
  refine r_iconst hx hb dX1_distance_17 ?_
  refine r_iadd hx hb dX1_distance_18 ?_
  refine r_callV (As := [.int (iI ((t) + (2)))]) (rest := [.int (iI (z9))]) S (c_X0_distanceOf l D cI cL tw (b) (pq) (cq) (P) ((t) + (2)) (hB) (by omega)) gX1_distance_X0_distanceOf rfl rfl rfl ⟨rfl, f_X0_distanceOf⟩ hR (Nat.le_of_ble_eq_true rfl) (Nat.le_of_ble_eq_true rfl) (hE.kept hS.2.1) hP [2, 3, 4] rfl 0 rfl rfl rfl hl.1 rfl (Nat.le_of_ble_eq_true rfl) dX1_distance_19 ⟨Nat.le_trans (Nat.le_of_ble_eq_true rfl) hRc.1, Nat.le_trans (Nat.le_of_ble_eq_true rfl) hRc.2⟩ (fun z19 hz19 => ?_)
  obtain ⟨hz19, rz19⟩ := hz19
  refine r_iadd hx hb dX1_distance_22 ?_
  exact hret ((z9) + (z19)) _ _ _ _ _ _ dX1_distance_23 (by unfold dst; omega) hN (Nat.le_of_ble_eq_true rfl) (Nat.le_of_ble_eq_true rfl)

set_option maxRecDepth 20000 in
theorem mw_X1_ways_0 : (.classLink RX1 33 "java/lang/IllegalArgumentException" : Cond) ∈ wsX1_ways := by decide +kernel
set_option maxRecDepth 20000 in
theorem mw_X1_ways_1 : (.initialized "java/lang/IllegalArgumentException" : Cond) ∈ wsX1_ways := by decide +kernel
set_option maxRecDepth 20000 in
theorem mw_X1_ways_2 : (.fieldLink RX1 10 "PachisiYard" "board" "LPachisiYard$Board;" : Cond) ∈ wsX1_ways := by decide +kernel
set_option maxRecDepth 20000 in
theorem mu_X1_ways_X1 : ∀ w ∈ wsX10, w ∈ wsX1_ways := by decide +kernel
set_option maxRecDepth 20000 in
theorem mw_X1_ways_4 : (.fieldLink RX1 20 "PachisiYard" "turn" "I" : Cond) ∈ wsX1_ways := by decide +kernel
set_option maxRecDepth 20000 in
theorem mw_X1_ways_5 : (.fieldLink RX1 24 "PachisiYard" "gracesInRow" "I" : Cond) ∈ wsX1_ways := by decide +kernel
theorem f_X1_ways : yX1_ways.cls ≠ "java/lang/invoke/MethodHandle" ∧ yX1_ways.cls ≠ "java/lang/invoke/VarHandle" ∧ (parseMethodDescriptor yX1_ways.desc).map (fun d => d.parameters.length) = some 1 := by decide +kernel
set_option maxHeartbeats 4000000 in
set_option maxRecDepth 100000 in
theorem c_X1_ways (l : Launch) (hst : l.stackTraces = false) (D : va_G) (cI cL : ClassId) (tw : Nat) (y0 : Nat) (y2 : Nat) (b : Nat) (pq : Nat) (cq : Nat) (tu : Int) (ph : Int) (mo : Int) (gc : Int) (P : Int → Int) (C : Int → Int) (w : Int) (hB : ∀ i, 0 ≤ P i ∧ P i ≤ 72) (htu : 0 ≤ tu ∧ tu ≤ 3) (hgc : 0 ≤ gc ∧ gc ≤ 2) (hph : 0 ≤ ph ∧ ph ≤ 2) (hmo : 0 ≤ mo ∧ mo ≤ 6) (h_w : -2147483648 ≤ w ∧ w < 2147483648) : XRi l yX1_ways wsX1_ways { frames := 7, cells := 1, slots := 6, locals := 120 } D cI cL tw [.ref y0, .int (iI (w))] [(y0, .inr (1, [.ref b, .ref y2, .int (iI (tu)), .int (iI (gc)), .int (iI (ph)), .int (iI (mo))])), (y2, .inl (cI, 4, .inl (aI C))), (b, .inr (0, [.ref pq, .ref cq])), (pq, .inl (cI, 16, .inl (aI P))), (cq, .inl (cI, 136, .inl (aI (cnt P))))] (fun z : Int => 0 ≤ w ∧ w ≤ 3 ∧ ph = 0 ∧ z = wy P tu gc w) (fun E : String => (E = "java/lang/IllegalArgumentException" ∧ ¬ (0 ≤ w ∧ w ≤ 3)) ∨ (E = "java/lang/IllegalStateException" ∧ 0 ≤ w ∧ w ≤ 3 ∧ ph ≠ 0)) 1 6 := by
  refine xri_of (cc := cX1_ways) (maxL := 5) (rt := .int) hst (by decide) rfl rfl (Or.inl rfl) (Nat.le_of_ble_eq_true rfl) (Nat.le_of_ble_eq_true rfl) (Nat.le_of_ble_eq_true rfl) ?_
  intro p e R s mt args below meth c H0 Q ls A S hR hRc hE hP hA hN hl hret hxo hth
  have hS := hN.mono hA
  obtain ⟨hx, hb, hml, hown, hts⟩ := id S
  have hl : lv_has ls 5 [(0, .ref y0), (1, .int (iI (w)))] := hl
  refine lv_iload_n hx hb dX1_ways_0 rfl (lv_at hl 1 rfl) ?_
  refine r_if_lt (tgt := 9) hx hb dX1_ways_1 (by decide) (by unfold rI; omega) (fun h1 => ?_) (fun h1 => ?_)
  · exact hth "java/lang/IllegalArgumentException" "what is asked for is 0 to 3" 33 132 37 9 _ _ _ _ _ _ (Nat.le_of_ble_eq_true rfl) (Nat.le_of_ble_eq_true rfl) (by decide) mw_X1_ways_0 mw_X1_ways_1 (by decide +kernel) (fun w h => List.mem_cons_of_mem _ (List.mem_append_left _ (List.mem_append_right _ h))) xb_IllegalArgumentException xg_IllegalArgumentException dX1_ways_9 dX1_ways_12 dX1_ways_13 dX1_ways_15 dX1_ways_18 (by exact Or.inl ⟨rfl, by omega⟩) hN hl.1 (Nat.le_of_ble_eq_true rfl) (Nat.le_of_ble_eq_true rfl) (Nat.le_of_ble_eq_true rfl)
  · refine lv_iload_n hx hb dX1_ways_4 rfl (lv_at hl 1 rfl) ?_
    refine r_iconst hx hb dX1_ways_5 ?_
    refine r_icmp_le (tgt := 19) hx hb dX1_ways_6 (by decide) (by unfold rI; omega) (by unfold rI; decide) (fun h6 => ?_) (fun h6 => ?_)
    · refine lv_aload_n hx hb dX1_ways_19 rfl (lv_at hl 0 rfl) ?_
      refine r_xcVv (As := []) (rest := []) S (c_X1_requireThrowDue l hst D cI cL tw (y0) (y2) (b) (pq) (cq) (tu) (ph) (mo) (gc) (P) (C) (hB) (by omega)) gX1_ways_X1_requireThrowDue rfl rfl rfl ⟨rfl, f_X1_requireThrowDue⟩ hR (Nat.le_of_ble_eq_true rfl) (Nat.le_of_ble_eq_true rfl) (hE.kept hS.2.1) hP hN [0, 1, 2, 3, 4] rfl 0 rfl rfl rfl hl.1 rfl (Nat.le_of_ble_eq_true rfl) dX1_ways_20 ⟨Nat.le_trans (Nat.le_of_ble_eq_true rfl) hRc.1, Nat.le_trans (Nat.le_of_ble_eq_true rfl) hRc.2⟩ (fun E9 ce9 q9 H9 locs9 hx9 h91 h92 h93 hP9 hN9 => hxo E9 ce9 q9 _ _ _ _ _ _ _ (by rcases hx9 with ⟨h1, h2⟩; exact Or.inr ⟨h1, by omega, by omega, h2⟩) h91 h92 h93 hN9 (Nat.le_of_ble_eq_true rfl) (Nat.le_of_ble_eq_true rfl)) (fun H locs hz20 hP hN => ?_)
      have hS := hN.mono hA
      refine lv_aload_n hx hb dX1_ways_23 rfl (lv_at hl 0 rfl) ?_
      refine va_get (D := D) (ci := 1) (v := .ref b) (C := RX1) (T := TX1) (N := 6) hx hb hts mu_X1_ways_X1 hown hE.1 hP 0 rfl rfl 0 (by decide) (hts _ mw_X1_ways_2) (fun _ h9 => h9) rfl dX1_ways_24 ?_
      refine lv_aload_n hx hb dX1_ways_27 rfl (lv_at hl 0 rfl) ?_
      refine va_get (D := D) (ci := 1) (v := .int (iI (tu))) (C := RX1) (T := TX1) (N := 6) hx hb hts mu_X1_ways_X1 hown hE.1 hP 0 rfl rfl 2 (by decide) (hts _ mw_X1_ways_4) (fun _ h9 => h9) rfl dX1_ways_28 ?_
      refine r_callV (As := [.int (iI (tu))]) (rest := []) S (c_X0_moverFor l D cI cL tw (b) (pq) (cq) (P) (tu) (hB) (by omega)) gX1_ways_X0_moverFor rfl rfl rfl ⟨rfl, f_X0_moverFor⟩ hR (Nat.le_of_ble_eq_true rfl) (Nat.le_of_ble_eq_true rfl) (hE.kept hS.2.1) hP [2, 3, 4] rfl 0 rfl rfl rfl hl.1 rfl (Nat.le_of_ble_eq_true rfl) dX1_ways_31 ⟨Nat.le_trans (Nat.le_of_ble_eq_true rfl) hRc.1, Nat.le_trans (Nat.le_of_ble_eq_true rfl) hRc.2⟩ (fun z31 hz31 => ?_)
      obtain ⟨hz31, rz31⟩ := hz31
      refine lv_istore_n (lv' := [(2, .int (iI (z31))), (0, .ref y0), (1, .int (iI (w)))]) hx hb dX1_ways_34 rfl hl (by decide) rfl (fun ls hl => ?_)
      refine r_iconst hx hb dX1_ways_35 ?_
      refine lv_istore_n (lv' := [(3, .int (iI (0))), (2, .int (iI (z31))), (0, .ref y0), (1, .int (iI (w)))]) hx hb dX1_ways_36 rfl hl (by decide) rfl (fun ls hl => ?_)
      refine r_iconst hx hb dX1_ways_37 ?_
      refine lv_istore (lv' := [(4, .int (iI (0))), (3, .int (iI (0))), (2, .int (iI (z31))), (0, .ref y0), (1, .int (iI (w)))]) hx hb dX1_ways_38 hl (by decide) rfl (fun ls hl => ?_)
      have lp_40 : ∀ (d_40 : Nat) (n : Int) (k : Int), (d_40 : Int) = 7 - k → (0 ≤ k ∧ k ≤ 7) → (n = sZ (wyA P tu gc w) k) → ∀ (H : Heap) (locs : List Loc), va_P D vwCl [(y0, .inr (1, [.ref b, .ref y2, .int (iI (tu)), .int (iI (gc)), .int (iI (ph)), .int (iI (mo))])), (y2, .inl (cI, 4, .inl (aI C))), (b, .inr (0, [.ref pq, .ref cq])), (pq, .inl (cI, 16, .inl (aI P))), (cq, .inl (cI, 136, .inl (aI (cnt P))))] H → va_S (NW H0.size) H0 H locs → ∀ ls : Array Slot, lv_has ls 5 [(4, .int (iI (k))), (3, .int (iI (n))), (2, .int (iI (z31))), (0, .ref y0), (1, .int (iI (w)))] → W p l e R s mt args below meth c H locs (0 + 1) (0 + 6) Q (F0 mt 40 ls []) := by
        intro d_40
        induction d_40 using Nat.strongRecOn with
        | ind d_40 ih_40 =>
        intro n k hd_40 hk hn H locs hP hN ls hl
        have hS := hN.mono hA
        refine lv_iload hx hb dX1_ways_40 (lv_at hl 0 rfl) ?_
        refine r_bipush hx hb dX1_ways_42 (by decide) ?_
        refine r_icmp_gt (tgt := 87) hx hb dX1_ways_44 (by decide) (by unfold rI; omega) (by unfold rI; decide) (fun h44 => ?_) (fun h44 => ?_)
        · refine lv_iload_n hx hb dX1_ways_87 rfl (lv_at hl 1 rfl) ?_
          exact hret (n) _ _ _ _ _ _ dX1_ways_88 (by have e : k = 7 := (by omega); subst e; exact ⟨by omega, by omega, hz20, hn⟩) hN (Nat.le_of_ble_eq_true rfl) (Nat.le_of_ble_eq_true rfl)
        · refine lv_iload hx hb dX1_ways_47 (lv_at hl 0 rfl) ?_
          refine lv_aload_n hx hb dX1_ways_49 rfl (lv_at hl 3 rfl) ?_
          refine va_get (D := D) (ci := 1) (v := .int (iI (gc))) (C := RX1) (T := TX1) (N := 6) hx hb hts mu_X1_ways_X1 hown hE.1 hP 0 rfl rfl 3 (by decide) (hts _ mw_X1_ways_5) (fun _ h9 => h9) rfl dX1_ways_50 ?_
          refine r_callS (As := [.int (iI (k)), .int (iI (gc))]) (rest := []) S (c_X1_isGraceTooMany l D cI cL tw (k) (gc) (by omega) (by omega)) gX1_ways_X1_isGraceTooMany rfl rfl rfl f_X1_isGraceTooMany hR (Nat.le_of_ble_eq_true rfl) (Nat.le_of_ble_eq_true rfl) (hE.kept hS.2.1) rfl hl.1 rfl (Nat.le_of_ble_eq_true rfl) dX1_ways_53 ⟨Nat.le_trans (Nat.le_of_ble_eq_true rfl) hRc.1, Nat.le_trans (Nat.le_of_ble_eq_true rfl) hRc.2⟩ (fun z53 hz53 => ?_)
          rcases hz53 with ⟨rfl, hz53⟩ | ⟨rfl, hz53⟩
          · refine r_if_ne (tgt := 81) hx hb dX1_ways_56 (by decide) (by unfold rI; decide) (fun h56 => ?_) (fun h9 => absurd h9 (by omega))
            refine lv_iinc (v := iI (k + 1)) (lv' := [(4, .int (iI (k + 1))), (3, .int (iI (n))), (2, .int (iI (z31))), (0, .ref y0), (1, .int (iI (w)))]) hx hb dX1_ways_81 hl (k := 0) rfl (iI_add _ _) (by decide) rfl (fun ls hl => ?_)
            refine lv_goto (tgt := 40) hx hb dX1_ways_84 (by decide) ?_
            exact ih_40 (7 - (k + 1) : Int).toNat (nlt (by omega) hd_40 (by omega)) (n) (k + 1) (Int.toNat_of_nonneg (by omega)) (by omega) (by rw [sZ_s _ (by omega), ← hn, wyA_n (fun q => q.1 hz53), Int.add_zero]) _ _ hP hN ls (lv_sub hl [0, 1, 2, 3, 4] rfl)
          · refine r_if_ne (tgt := 81) hx hb dX1_ways_56 (by decide) (by unfold rI; decide) (fun h9 => absurd h9 (by omega)) (fun h56 => ?_)
            refine lv_aload_n hx hb dX1_ways_59 rfl (lv_at hl 3 rfl) ?_
            refine va_get (D := D) (ci := 1) (v := .ref b) (C := RX1) (T := TX1) (N := 6) hx hb hts mu_X1_ways_X1 hown hE.1 hP 0 rfl rfl 0 (by decide) (hts _ mw_X1_ways_2) (fun _ h9 => h9) rfl dX1_ways_60 ?_
            refine lv_iload_n hx hb dX1_ways_63 rfl (lv_at hl 4 rfl) ?_
            refine lv_iload_n hx hb dX1_ways_64 rfl (lv_at hl 2 rfl) ?_
            refine lv_iload hx hb dX1_ways_65 (lv_at hl 0 rfl) ?_
            refine r_callV (As := [.int (iI (w)), .int (iI (z31)), .int (iI (k))]) (rest := []) S (c_X0_canDo l D cI cL tw (b) (pq) (cq) (P) (w) (z31) (k) (hB) (by omega) (by omega) (by omega)) gX1_ways_X0_canDo rfl rfl rfl ⟨rfl, f_X0_canDo⟩ hR (Nat.le_of_ble_eq_true rfl) (Nat.le_of_ble_eq_true rfl) (hE.kept hS.2.1) hP [2, 3, 4] rfl 0 rfl rfl rfl hl.1 rfl (Nat.le_of_ble_eq_true rfl) dX1_ways_67 ⟨Nat.le_trans (Nat.le_of_ble_eq_true rfl) hRc.1, Nat.le_trans (Nat.le_of_ble_eq_true rfl) hRc.2⟩ (fun z67 hz67 => ?_)
            rcases hz67 with ⟨rfl, hz67⟩ | ⟨rfl, hz67⟩
            · refine r_if_eq (tgt := 81) hx hb dX1_ways_70 (by decide) (by unfold rI; decide) (fun h9 => absurd h9 (by omega)) (fun h70 => ?_)
              refine lv_iload_n hx hb dX1_ways_73 rfl (lv_at hl 1 rfl) ?_
              refine lv_iload hx hb dX1_ways_74 (lv_at hl 0 rfl) ?_
              refine r_callS (As := [.int (iI (k))]) (rest := [.int (iI (n))]) S (c_X1_waysOf l D cI cL tw (k) (by omega)) gX1_ways_X1_waysOf rfl rfl rfl f_X1_waysOf hR (Nat.le_of_ble_eq_true rfl) (Nat.le_of_ble_eq_true rfl) (hE.kept hS.2.1) rfl hl.1 rfl (Nat.le_of_ble_eq_true rfl) dX1_ways_76 ⟨Nat.le_trans (Nat.le_of_ble_eq_true rfl) hRc.1, Nat.le_trans (Nat.le_of_ble_eq_true rfl) hRc.2⟩ (fun z76 hz76 => ?_)
              refine r_iadd hx hb dX1_ways_79 ?_
              refine lv_istore_n (lv' := [(3, .int (iI ((n) + (z76)))), (4, .int (iI (k))), (2, .int (iI (z31))), (0, .ref y0), (1, .int (iI (w)))]) hx hb dX1_ways_80 rfl hl (by decide) rfl (fun ls hl => ?_)
              refine lv_iinc (v := iI (k + 1)) (lv' := [(4, .int (iI (k + 1))), (3, .int (iI ((n) + (z76)))), (2, .int (iI (z31))), (0, .ref y0), (1, .int (iI (w)))]) hx hb dX1_ways_81 hl (k := 1) rfl (iI_add _ _) (by decide) rfl (fun ls hl => ?_)
              refine lv_goto (tgt := 40) hx hb dX1_ways_84 (by decide) ?_
              exact ih_40 (7 - (k + 1) : Int).toNat (nlt (by omega) hd_40 (by omega)) ((n) + (z76)) (k + 1) (Int.toNat_of_nonneg (by omega)) (by omega) (by rw [sZ_s _ (by omega), ← hn, wyA_y hz53 (by rw [← hz31]; exact hz67), ← hz76]) _ _ hP hN ls (lv_sub hl [0, 1, 2, 3, 4] rfl)
            · refine r_if_eq (tgt := 81) hx hb dX1_ways_70 (by decide) (by unfold rI; decide) (fun h70 => ?_) (fun h9 => absurd h9 (by omega))
              refine lv_iinc (v := iI (k + 1)) (lv' := [(4, .int (iI (k + 1))), (3, .int (iI (n))), (2, .int (iI (z31))), (0, .ref y0), (1, .int (iI (w)))]) hx hb dX1_ways_81 hl (k := 0) rfl (iI_add _ _) (by decide) rfl (fun ls hl => ?_)
              refine lv_goto (tgt := 40) hx hb dX1_ways_84 (by decide) ?_
              exact ih_40 (7 - (k + 1) : Int).toNat (nlt (by omega) hd_40 (by omega)) (n) (k + 1) (Int.toNat_of_nonneg (by omega)) (by omega) (by rw [sZ_s _ (by omega), ← hn, wyA_n (fun q => hz67 (by rw [hz31]; exact q.2)), Int.add_zero]) _ _ hP hN ls (lv_sub hl [0, 1, 2, 3, 4] rfl)
      exact lp_40 (7 - (0) : Int).toNat (0) (0) (Int.toNat_of_nonneg (by omega)) (by omega) ((sZ_0 _).symm) _ _ hP hN ls (lv_sub hl [0, 1, 2, 3, 4] rfl)
    · exact hth "java/lang/IllegalArgumentException" "what is asked for is 0 to 3" 33 132 37 9 _ _ _ _ _ _ (Nat.le_of_ble_eq_true rfl) (Nat.le_of_ble_eq_true rfl) (by decide) mw_X1_ways_0 mw_X1_ways_1 (by decide +kernel) (fun w h => List.mem_cons_of_mem _ (List.mem_append_left _ (List.mem_append_right _ h))) xb_IllegalArgumentException xg_IllegalArgumentException dX1_ways_9 dX1_ways_12 dX1_ways_13 dX1_ways_15 dX1_ways_18 (by exact Or.inl ⟨rfl, by omega⟩) hN hl.1 (Nat.le_of_ble_eq_true rfl) (Nat.le_of_ble_eq_true rfl) (Nat.le_of_ble_eq_true rfl)

set_option maxRecDepth 20000 in
theorem mw_X1_threat_0 : (.classLink RX1 33 "java/lang/IllegalArgumentException" : Cond) ∈ wsX1_threat := by decide +kernel
set_option maxRecDepth 20000 in
theorem mw_X1_threat_1 : (.initialized "java/lang/IllegalArgumentException" : Cond) ∈ wsX1_threat := by decide +kernel
set_option maxRecDepth 20000 in
theorem mw_X1_threat_2 : (.fieldLink RX1 10 "PachisiYard" "board" "LPachisiYard$Board;" : Cond) ∈ wsX1_threat := by decide +kernel
set_option maxRecDepth 20000 in
theorem mu_X1_threat_X1 : ∀ w ∈ wsX10, w ∈ wsX1_threat := by decide +kernel
theorem f_X1_threat : yX1_threat.cls ≠ "java/lang/invoke/MethodHandle" ∧ yX1_threat.cls ≠ "java/lang/invoke/VarHandle" ∧ (parseMethodDescriptor yX1_threat.desc).map (fun d => d.parameters.length) = some 3 := by decide +kernel
set_option maxHeartbeats 4000000 in
set_option maxRecDepth 100000 in
theorem c_X1_threat (l : Launch) (hst : l.stackTraces = false) (D : va_G) (cI cL : ClassId) (tw : Nat) (y0 : Nat) (y2 : Nat) (b : Nat) (pq : Nat) (cq : Nat) (tu : Int) (ph : Int) (mo : Int) (gc : Int) (P : Int → Int) (C : Int → Int) (a : Int) (j : Int) (by9 : Int) (hB : ∀ i, 0 ≤ P i ∧ P i ≤ 72) (htu : 0 ≤ tu ∧ tu ≤ 3) (hgc : 0 ≤ gc ∧ gc ≤ 2) (hph : 0 ≤ ph ∧ ph ≤ 2) (hmo : 0 ≤ mo ∧ mo ≤ 6) (h_a : -2147483648 ≤ a ∧ a < 2147483648) (h_j : -2147483648 ≤ j ∧ j < 2147483648) (h_by9 : -2147483648 ≤ by9 ∧ by9 < 2147483648) : XRi l yX1_threat wsX1_threat { frames := 7, cells := 3, slots := 18, locals := 120 } D cI cL tw [.ref y0, .int (iI (a)), .int (iI (j)), .int (iI (by9))] [(y0, .inr (1, [.ref b, .ref y2, .int (iI (tu)), .int (iI (gc)), .int (iI (ph)), .int (iI (mo))])), (y2, .inl (cI, 4, .inl (aI C))), (b, .inr (0, [.ref pq, .ref cq])), (pq, .inl (cI, 16, .inl (aI P))), (cq, .inl (cI, 136, .inl (aI (cnt P))))] (fun z : Int => 0 ≤ a ∧ a ≤ 3 ∧ 0 ≤ j ∧ j ≤ 3 ∧ 0 ≤ by9 ∧ by9 ≤ 3 ∧ by9 % 2 ≠ a % 2 ∧ z = thr P (4 * a + j) by9) (fun E : String => (E = "java/lang/IndexOutOfBoundsException" ∧ ¬ (0 ≤ a ∧ a ≤ 3 ∧ 0 ≤ j ∧ j ≤ 3)) ∨ (E = "java/lang/IllegalArgumentException" ∧ 0 ≤ a ∧ a ≤ 3 ∧ 0 ≤ j ∧ j ≤ 3 ∧ ¬ (0 ≤ by9 ∧ by9 ≤ 3 ∧ by9 % 2 ≠ a % 2))) 3 18 := by
  refine xri_of (cc := cX1_threat) (maxL := 8) (rt := .int) hst (by decide) rfl rfl (Or.inl rfl) (Nat.le_of_ble_eq_true rfl) (Nat.le_of_ble_eq_true rfl) (Nat.le_of_ble_eq_true rfl) ?_
  intro p e R s mt args below meth c H0 Q ls A S hR hRc hE hP hA hN hl hret hxo hth
  have hS := hN.mono hA
  obtain ⟨hx, hb, hml, hown, hts⟩ := id S
  have hl : lv_has ls 8 [(0, .ref y0), (1, .int (iI (a))), (2, .int (iI (j))), (3, .int (iI (by9)))] := hl
  refine lv_iload_n hx hb dX1_threat_0 rfl (lv_at hl 1 rfl) ?_
  refine r_xcS (As := [.int (iI (a))]) (rest := []) S (c_X1_requirePlayer l hst D cI cL tw (a) (by omega)) gX1_threat_X1_requirePlayer rfl rfl rfl f_X1_requirePlayer hR (Nat.le_of_ble_eq_true rfl) (Nat.le_of_ble_eq_true rfl) (hE.kept hS.2.1) hP hN rfl hl.1 rfl (Nat.le_of_ble_eq_true rfl) dX1_threat_1 ⟨Nat.le_trans (Nat.le_of_ble_eq_true rfl) hRc.1, Nat.le_trans (Nat.le_of_ble_eq_true rfl) hRc.2⟩ (fun E9 ce9 q9 H9 locs9 hx9 h91 h92 h93 hP9 hN9 => hxo E9 ce9 q9 _ _ _ _ _ _ _ (by rcases hx9 with ⟨h1, h2⟩; exact Or.inl ⟨h1, by omega⟩) h91 h92 h93 hN9 (Nat.le_of_ble_eq_true rfl) (Nat.le_of_ble_eq_true rfl)) (fun H locs hz1 hP hN => ?_)
  have hS := hN.mono hA
  refine lv_iload_n hx hb dX1_threat_4 rfl (lv_at hl 2 rfl) ?_
  refine r_xcS (As := [.int (iI (j))]) (rest := []) S (c_X1_requirePiece l hst D cI cL tw (j) (by omega)) gX1_threat_X1_requirePiece rfl rfl rfl f_X1_requirePiece hR (Nat.le_of_ble_eq_true rfl) (Nat.le_of_ble_eq_true rfl) (hE.kept hS.2.1) hP hN rfl hl.1 rfl (Nat.le_of_ble_eq_true rfl) dX1_threat_5 ⟨Nat.le_trans (Nat.le_of_ble_eq_true rfl) hRc.1, Nat.le_trans (Nat.le_of_ble_eq_true rfl) hRc.2⟩ (fun E9 ce9 q9 H9 locs9 hx9 h91 h92 h93 hP9 hN9 => hxo E9 ce9 q9 _ _ _ _ _ _ _ (by rcases hx9 with ⟨h1, h2⟩; exact Or.inl ⟨h1, by omega⟩) h91 h92 h93 hN9 (Nat.le_of_ble_eq_true rfl) (Nat.le_of_ble_eq_true rfl)) (fun H locs hz5 hP hN => ?_)
  have hS := hN.mono hA
  refine lv_iload_n hx hb dX1_threat_8 rfl (lv_at hl 3 rfl) ?_
  refine r_if_lt (tgt := 28) hx hb dX1_threat_9 (by decide) (by unfold rI; omega) (fun h9 => ?_) (fun h9 => ?_)
  · exact hth "java/lang/IllegalArgumentException" "the threat comes from a player of the other team" 33 141 37 28 _ _ _ _ _ _ (Nat.le_of_ble_eq_true rfl) (Nat.le_of_ble_eq_true rfl) (by decide) mw_X1_threat_0 mw_X1_threat_1 (by decide +kernel) (fun w h => List.mem_cons_of_mem _ (List.mem_append_left _ (List.mem_append_right _ h))) xb_IllegalArgumentException xg_IllegalArgumentException dX1_threat_28 dX1_threat_31 dX1_threat_32 dX1_threat_34 dX1_threat_37 (by exact Or.inr ⟨rfl, by omega, by omega, by omega, by omega, by omega⟩) hN hl.1 (Nat.le_of_ble_eq_true rfl) (Nat.le_of_ble_eq_true rfl) (Nat.le_of_ble_eq_true rfl)
  · refine lv_iload_n hx hb dX1_threat_12 rfl (lv_at hl 3 rfl) ?_
    refine r_iconst hx hb dX1_threat_13 ?_
    refine r_icmp_ge (tgt := 28) hx hb dX1_threat_14 (by decide) (by unfold rI; omega) (by unfold rI; decide) (fun h14 => ?_) (fun h14 => ?_)
    · exact hth "java/lang/IllegalArgumentException" "the threat comes from a player of the other team" 33 141 37 28 _ _ _ _ _ _ (Nat.le_of_ble_eq_true rfl) (Nat.le_of_ble_eq_true rfl) (by decide) mw_X1_threat_0 mw_X1_threat_1 (by decide +kernel) (fun w h => List.mem_cons_of_mem _ (List.mem_append_left _ (List.mem_append_right _ h))) xb_IllegalArgumentException xg_IllegalArgumentException dX1_threat_28 dX1_threat_31 dX1_threat_32 dX1_threat_34 dX1_threat_37 (by exact Or.inr ⟨rfl, by omega, by omega, by omega, by omega, by omega⟩) hN hl.1 (Nat.le_of_ble_eq_true rfl) (Nat.le_of_ble_eq_true rfl) (Nat.le_of_ble_eq_true rfl)
    · refine lv_iload_n hx hb dX1_threat_17 rfl (lv_at hl 3 rfl) ?_
      refine r_callS (As := [.int (iI (by9))]) (rest := []) S (c_X1_teamOf l D cI cL tw (by9) (by omega)) gX1_threat_X1_teamOf rfl rfl rfl f_X1_teamOf hR (Nat.le_of_ble_eq_true rfl) (Nat.le_of_ble_eq_true rfl) (hE.kept hS.2.1) rfl hl.1 rfl (Nat.le_of_ble_eq_true rfl) dX1_threat_18 ⟨Nat.le_trans (Nat.le_of_ble_eq_true rfl) hRc.1, Nat.le_trans (Nat.le_of_ble_eq_true rfl) hRc.2⟩ (fun z18 hz18 => ?_)
      obtain ⟨hz18, rz18⟩ := hz18
      refine lv_iload_n hx hb dX1_threat_21 rfl (lv_at hl 1 rfl) ?_
      refine r_callS (As := [.int (iI (a))]) (rest := [.int (iI (z18))]) S (c_X1_teamOf l D cI cL tw (a) (by omega)) gX1_threat_X1_teamOf rfl rfl rfl f_X1_teamOf hR (Nat.le_of_ble_eq_true rfl) (Nat.le_of_ble_eq_true rfl) (hE.kept hS.2.1) rfl hl.1 rfl (Nat.le_of_ble_eq_true rfl) dX1_threat_22 ⟨Nat.le_trans (Nat.le_of_ble_eq_true rfl) hRc.1, Nat.le_trans (Nat.le_of_ble_eq_true rfl) hRc.2⟩ (fun z22 hz22 => ?_)
      obtain ⟨hz22, rz22⟩ := hz22
      refine r_icmp_ne (tgt := 38) hx hb dX1_threat_25 (by decide) (by unfold rI; omega) (by unfold rI; omega) (fun h25 => ?_) (fun h25 => ?_)
      · refine lv_aload_n hx hb dX1_threat_38 rfl (lv_at hl 0 rfl) ?_
        refine va_get (D := D) (ci := 1) (v := .ref b) (C := RX1) (T := TX1) (N := 6) hx hb hts mu_X1_threat_X1 hown hE.1 hP 0 rfl rfl 0 (by decide) (hts _ mw_X1_threat_2) (fun _ h9 => h9) rfl dX1_threat_39 ?_
        refine lv_iload_n hx hb dX1_threat_42 rfl (lv_at hl 1 rfl) ?_
        refine lv_aload_n hx hb dX1_threat_43 rfl (lv_at hl 0 rfl) ?_
        refine va_get (D := D) (ci := 1) (v := .ref b) (C := RX1) (T := TX1) (N := 6) hx hb hts mu_X1_threat_X1 hown hE.1 hP 0 rfl rfl 0 (by decide) (hts _ mw_X1_threat_2) (fun _ h9 => h9) rfl dX1_threat_44 ?_
        refine lv_iload_n hx hb dX1_threat_47 rfl (lv_at hl 1 rfl) ?_
        refine lv_iload_n hx hb dX1_threat_48 rfl (lv_at hl 2 rfl) ?_
        refine r_callV (As := [.int (iI (a)), .int (iI (j))]) (rest := [.int (iI (a)), .ref b]) S (c_X0_positionOf l D cI cL tw (b) (pq) (cq) (P) (a) (j) (hB) (by omega) (by omega)) gX1_threat_X0_positionOf rfl rfl rfl ⟨rfl, f_X0_positionOf⟩ hR (Nat.le_of_ble_eq_true rfl) (Nat.le_of_ble_eq_true rfl) (hE.kept hS.2.1) hP [2, 3, 4] rfl 0 rfl rfl rfl hl.1 rfl (Nat.le_of_ble_eq_true rfl) dX1_threat_49 ⟨Nat.le_trans (Nat.le_of_ble_eq_true rfl) hRc.1, Nat.le_trans (Nat.le_of_ble_eq_true rfl) hRc.2⟩ (fun z49 hz49 => ?_)
        obtain ⟨hz49, rz49⟩ := hz49
        refine r_callV (As := [.int (iI (a)), .int (iI (z49))]) (rest := []) S (c_X0_squareAt l D cI cL tw (b) (pq) (cq) (a) (z49) (by omega) (by omega)) gX1_threat_X0_squareAt rfl rfl rfl ⟨rfl, f_X0_squareAt⟩ hR (Nat.le_of_ble_eq_true rfl) (Nat.le_of_ble_eq_true rfl) (hE.kept hS.2.1) hP [2] rfl 0 rfl rfl rfl hl.1 rfl (Nat.le_of_ble_eq_true rfl) dX1_threat_52 ⟨Nat.le_trans (Nat.le_of_ble_eq_true rfl) hRc.1, Nat.le_trans (Nat.le_of_ble_eq_true rfl) hRc.2⟩ (fun z52 hz52 => ?_)
        obtain ⟨hz52, rz52⟩ := hz52
        refine lv_istore (lv' := [(4, .int (iI (z52))), (0, .ref y0), (1, .int (iI (a))), (2, .int (iI (j))), (3, .int (iI (by9)))]) hx hb dX1_threat_55 hl (by decide) rfl (fun ls hl => ?_)
        refine lv_aload_n hx hb dX1_threat_57 rfl (lv_at hl 1 rfl) ?_
        refine va_get (D := D) (ci := 1) (v := .ref b) (C := RX1) (T := TX1) (N := 6) hx hb hts mu_X1_threat_X1 hown hE.1 hP 0 rfl rfl 0 (by decide) (hts _ mw_X1_threat_2) (fun _ h9 => h9) rfl dX1_threat_58 ?_
        refine lv_iload_n hx hb dX1_threat_61 rfl (lv_at hl 4 rfl) ?_
        refine r_callV (As := [.int (iI (by9))]) (rest := []) S (c_X0_moverFor l D cI cL tw (b) (pq) (cq) (P) (by9) (hB) (by omega)) gX1_threat_X0_moverFor rfl rfl rfl ⟨rfl, f_X0_moverFor⟩ hR (Nat.le_of_ble_eq_true rfl) (Nat.le_of_ble_eq_true rfl) (hE.kept hS.2.1) hP [2, 3, 4] rfl 0 rfl rfl rfl hl.1 rfl (Nat.le_of_ble_eq_true rfl) dX1_threat_62 ⟨Nat.le_trans (Nat.le_of_ble_eq_true rfl) hRc.1, Nat.le_trans (Nat.le_of_ble_eq_true rfl) hRc.2⟩ (fun z62 hz62 => ?_)
        obtain ⟨hz62, rz62⟩ := hz62
        refine lv_istore (lv' := [(5, .int (iI (z62))), (4, .int (iI (z52))), (0, .ref y0), (1, .int (iI (a))), (2, .int (iI (j))), (3, .int (iI (by9)))]) hx hb dX1_threat_65 hl (by decide) rfl (fun ls hl => ?_)
        refine r_iconst hx hb dX1_threat_67 ?_
        refine lv_istore (lv' := [(6, .int (iI (0))), (5, .int (iI (z62))), (4, .int (iI (z52))), (0, .ref y0), (1, .int (iI (a))), (2, .int (iI (j))), (3, .int (iI (by9)))]) hx hb dX1_threat_68 hl (by decide) rfl (fun ls hl => ?_)
        refine r_iconst hx hb dX1_threat_70 ?_
        refine lv_istore (lv' := [(7, .int (iI (0))), (6, .int (iI (0))), (5, .int (iI (z62))), (4, .int (iI (z52))), (0, .ref y0), (1, .int (iI (a))), (2, .int (iI (j))), (3, .int (iI (by9)))]) hx hb dX1_threat_71 hl (by decide) rfl (fun ls hl => ?_)
        have lp_73 : ∀ (d_73 : Nat) (n : Int) (k : Int), (d_73 : Int) = 7 - k → (0 ≤ k ∧ k ≤ 7) → (n = sZ (thA P z52 z62) k) → ∀ (H : Heap) (locs : List Loc), va_P D vwCl [(y0, .inr (1, [.ref b, .ref y2, .int (iI (tu)), .int (iI (gc)), .int (iI (ph)), .int (iI (mo))])), (y2, .inl (cI, 4, .inl (aI C))), (b, .inr (0, [.ref pq, .ref cq])), (pq, .inl (cI, 16, .inl (aI P))), (cq, .inl (cI, 136, .inl (aI (cnt P))))] H → va_S (NW H0.size) H0 H locs → ∀ ls : Array Slot, lv_has ls 8 [(7, .int (iI (k))), (6, .int (iI (n))), (5, .int (iI (z62))), (4, .int (iI (z52))), (0, .ref y0), (1, .int (iI (a))), (2, .int (iI (j))), (3, .int (iI (by9)))] → W p l e R s mt args below meth c H locs ((0 + 1) + 1) ((0 + 6) + 6) Q (F0 mt 73 ls []) := by
          intro d_73
          induction d_73 using Nat.strongRecOn with
          | ind d_73 ih_73 =>
          intro n k hd_73 hk hn H locs hP hN ls hl
          have hS := hN.mono hA
          refine lv_iload hx hb dX1_threat_73 (lv_at hl 0 rfl) ?_
          refine r_bipush hx hb dX1_threat_75 (by decide) ?_
          refine r_icmp_gt (tgt := 112) hx hb dX1_threat_77 (by decide) (by unfold rI; omega) (by unfold rI; decide) (fun h77 => ?_) (fun h77 => ?_)
          · refine lv_iload hx hb dX1_threat_112 (lv_at hl 1 rfl) ?_
            exact hret (n) _ _ _ _ _ _ dX1_threat_114 (by have e : k = 7 := (by omega); subst e; refine ⟨by omega, by omega, by omega, by omega, by omega, by omega, by omega, ?_⟩; rw [← thr_at (a := a) (by omega), ← hz49, ← hz52, ← hz62]; exact hn) hN (Nat.le_of_ble_eq_true rfl) (Nat.le_of_ble_eq_true rfl)
          · refine lv_aload_n hx hb dX1_threat_80 rfl (lv_at hl 4 rfl) ?_
            refine va_get (D := D) (ci := 1) (v := .ref b) (C := RX1) (T := TX1) (N := 6) hx hb hts mu_X1_threat_X1 hown hE.1 hP 0 rfl rfl 0 (by decide) (hts _ mw_X1_threat_2) (fun _ h9 => h9) rfl dX1_threat_81 ?_
            refine lv_iload hx hb dX1_threat_84 (lv_at hl 3 rfl) ?_
            refine lv_iload hx hb dX1_threat_86 (lv_at hl 2 rfl) ?_
            refine lv_iload hx hb dX1_threat_88 (lv_at hl 0 rfl) ?_
            refine r_callV (As := [.int (iI (z52)), .int (iI (z62)), .int (iI (k))]) (rest := []) S (c_X0_canCaptureOn l D cI cL tw (b) (pq) (cq) (P) (z52) (z62) (k) (hB) (by omega) (by omega) (by omega)) gX1_threat_X0_canCaptureOn rfl rfl rfl ⟨rfl, f_X0_canCaptureOn⟩ hR (Nat.le_of_ble_eq_true rfl) (Nat.le_of_ble_eq_true rfl) (hE.kept hS.2.1) hP [2, 3, 4] rfl 0 rfl rfl rfl hl.1 rfl (Nat.le_of_ble_eq_true rfl) dX1_threat_90 ⟨Nat.le_trans (Nat.le_of_ble_eq_true rfl) hRc.1, Nat.le_trans (Nat.le_of_ble_eq_true rfl) hRc.2⟩ (fun z90 hz90 => ?_)
            rcases hz90 with ⟨rfl, hz90⟩ | ⟨rfl, hz90⟩
            · refine r_if_eq (tgt := 106) hx hb dX1_threat_93 (by decide) (by unfold rI; decide) (fun h9 => absurd h9 (by omega)) (fun h93 => ?_)
              refine lv_iload hx hb dX1_threat_96 (lv_at hl 1 rfl) ?_
              refine lv_iload hx hb dX1_threat_98 (lv_at hl 0 rfl) ?_
              refine r_callS (As := [.int (iI (k))]) (rest := [.int (iI (n))]) S (c_X1_waysOf l D cI cL tw (k) (by omega)) gX1_threat_X1_waysOf rfl rfl rfl f_X1_waysOf hR (Nat.le_of_ble_eq_true rfl) (Nat.le_of_ble_eq_true rfl) (hE.kept hS.2.1) rfl hl.1 rfl (Nat.le_of_ble_eq_true rfl) dX1_threat_100 ⟨Nat.le_trans (Nat.le_of_ble_eq_true rfl) hRc.1, Nat.le_trans (Nat.le_of_ble_eq_true rfl) hRc.2⟩ (fun z100 hz100 => ?_)
              refine r_iadd hx hb dX1_threat_103 ?_
              refine lv_istore (lv' := [(6, .int (iI ((n) + (z100)))), (7, .int (iI (k))), (5, .int (iI (z62))), (4, .int (iI (z52))), (0, .ref y0), (1, .int (iI (a))), (2, .int (iI (j))), (3, .int (iI (by9)))]) hx hb dX1_threat_104 hl (by decide) rfl (fun ls hl => ?_)
              refine lv_iinc (v := iI (k + 1)) (lv' := [(7, .int (iI (k + 1))), (6, .int (iI ((n) + (z100)))), (5, .int (iI (z62))), (4, .int (iI (z52))), (0, .ref y0), (1, .int (iI (a))), (2, .int (iI (j))), (3, .int (iI (by9)))]) hx hb dX1_threat_106 hl (k := 1) rfl (iI_add _ _) (by decide) rfl (fun ls hl => ?_)
              refine lv_goto (tgt := 73) hx hb dX1_threat_109 (by decide) ?_
              exact ih_73 (7 - (k + 1) : Int).toNat (nlt (by omega) hd_73 (by omega)) ((n) + (z100)) (k + 1) (Int.toNat_of_nonneg (by omega)) (by omega) (by rw [sZ_s _ (by omega), ← hn, thA_y hz90, ← hz100]) _ _ hP hN ls (lv_sub hl [0, 1, 2, 3, 4, 5, 6, 7] rfl)
            · refine r_if_eq (tgt := 106) hx hb dX1_threat_93 (by decide) (by unfold rI; decide) (fun h93 => ?_) (fun h9 => absurd h9 (by omega))
              refine lv_iinc (v := iI (k + 1)) (lv' := [(7, .int (iI (k + 1))), (6, .int (iI (n))), (5, .int (iI (z62))), (4, .int (iI (z52))), (0, .ref y0), (1, .int (iI (a))), (2, .int (iI (j))), (3, .int (iI (by9)))]) hx hb dX1_threat_106 hl (k := 0) rfl (iI_add _ _) (by decide) rfl (fun ls hl => ?_)
              refine lv_goto (tgt := 73) hx hb dX1_threat_109 (by decide) ?_
              exact ih_73 (7 - (k + 1) : Int).toNat (nlt (by omega) hd_73 (by omega)) (n) (k + 1) (Int.toNat_of_nonneg (by omega)) (by omega) (by rw [sZ_s _ (by omega), ← hn, thA_n hz90, Int.add_zero]) _ _ hP hN ls (lv_sub hl [0, 1, 2, 3, 4, 5, 6, 7] rfl)
        exact lp_73 (7 - (0) : Int).toNat (0) (0) (Int.toNat_of_nonneg (by omega)) (by omega) ((sZ_0 _).symm) _ _ hP hN ls (lv_sub hl [0, 1, 2, 3, 4, 5, 6, 7] rfl)
      · exact hth "java/lang/IllegalArgumentException" "the threat comes from a player of the other team" 33 141 37 28 _ _ _ _ _ _ (Nat.le_of_ble_eq_true rfl) (Nat.le_of_ble_eq_true rfl) (by decide) mw_X1_threat_0 mw_X1_threat_1 (by decide +kernel) (fun w h => List.mem_cons_of_mem _ (List.mem_append_left _ (List.mem_append_right _ h))) xb_IllegalArgumentException xg_IllegalArgumentException dX1_threat_28 dX1_threat_31 dX1_threat_32 dX1_threat_34 dX1_threat_37 (by exact Or.inr ⟨rfl, by omega, by omega, by omega, by omega, by omega⟩) hN hl.1 (Nat.le_of_ble_eq_true rfl) (Nat.le_of_ble_eq_true rfl) (Nat.le_of_ble_eq_true rfl)

set_option maxRecDepth 20000 in
theorem mw_X1_captureChance_0 : (.classLink RX1 33 "java/lang/IllegalArgumentException" : Cond) ∈ wsX1_captureChance := by decide +kernel
set_option maxRecDepth 20000 in
theorem mw_X1_captureChance_1 : (.initialized "java/lang/IllegalArgumentException" : Cond) ∈ wsX1_captureChance := by decide +kernel
set_option maxRecDepth 20000 in
theorem mw_X1_captureChance_2 : (.fieldLink RX1 24 "PachisiYard" "gracesInRow" "I" : Cond) ∈ wsX1_captureChance := by decide +kernel
set_option maxRecDepth 20000 in
theorem mu_X1_captureChance_X1 : ∀ w ∈ wsX10, w ∈ wsX1_captureChance := by decide +kernel
theorem f_X1_captureChance : yX1_captureChance.cls ≠ "java/lang/invoke/MethodHandle" ∧ yX1_captureChance.cls ≠ "java/lang/invoke/VarHandle" ∧ (parseMethodDescriptor yX1_captureChance.desc).map (fun d => d.parameters.length) = some 1 := by decide +kernel
set_option maxHeartbeats 4000000 in
set_option maxRecDepth 100000 in
theorem c_X1_captureChance (l : Launch) (hst : l.stackTraces = false) (D : va_G) (cI cL : ClassId) (tw : Nat) (y0 : Nat) (y2 : Nat) (b : Nat) (pq : Nat) (cq : Nat) (tu : Int) (ph : Int) (mo : Int) (gc : Int) (P : Int → Int) (C : Int → Int) (n : Int) (hB : ∀ i, 0 ≤ P i ∧ P i ≤ 72) (htu : 0 ≤ tu ∧ tu ≤ 3) (hgc : 0 ≤ gc ∧ gc ≤ 2) (hph : 0 ≤ ph ∧ ph ≤ 2) (hmo : 0 ≤ mo ∧ mo ≤ 6) (h_n : -2147483648 ≤ n ∧ n < 2147483648) : XWi l yX1_captureChance wsX1_captureChance { frames := 12, cells := 1, slots := 6, locals := 303 } D cI cL tw [.ref y0, .int (iI (n))] [(y0, .inr (1, [.ref b, .ref y2, .int (iI (tu)), .int (iI (gc)), .int (iI (ph)), .int (iI (mo))])), (y2, .inl (cI, 4, .inl (aI C))), (b, .inr (0, [.ref pq, .ref cq])), (pq, .inl (cI, 16, .inl (aI P))), (cq, .inl (cI, 136, .inl (aI (cnt P))))] (fun (z : Int) (u : Unit) => ph = 0 ∧ (n = 1 ∧ z = ch tu 1 gc P ∨ n = 2 ∧ z = ch tu 2 gc P ∨ n = 3 ∧ z = ch tu 3 gc P)) (fun u : Unit => [(y0, .inr (1, [.ref b, .ref y2, .int (iI (tu)), .int (iI (gc)), .int (iI (ph)), .int (iI (mo))])), (y2, .inl (cI, 4, .inl (aI C))), (b, .inr (0, [.ref pq, .ref cq])), (pq, .inl (cI, 16, .inl (aI P))), (cq, .inl (cI, 136, .inl (aI (cnt P))))]) (fun E : String => (E = "java/lang/IllegalArgumentException" ∧ ¬ (1 ≤ n ∧ n ≤ 3)) ∨ (E = "java/lang/IllegalStateException" ∧ 1 ≤ n ∧ n ≤ 3 ∧ ph ≠ 0)) 1 6 := by
  refine xwi_of (cc := cX1_captureChance) (maxL := 2) hst (by decide) rfl rfl (Nat.le_of_ble_eq_true rfl) (Nat.le_of_ble_eq_true rfl) (Nat.le_of_ble_eq_true rfl) ?_
  intro p e R s mt args below meth c H0 Q ls A S hR hRc hE hP hD hA hN hl hret hxo hth
  have hS := hN.mono hA
  obtain ⟨hx, hb, hml, hown, hts⟩ := id S
  have hl : lv_has ls 2 [(0, .ref y0), (1, .int (iI (n)))] := hl
  refine lv_iload_n hx hb dX1_captureChance_0 rfl (lv_at hl 1 rfl) ?_
  refine r_iconst hx hb dX1_captureChance_1 ?_
  refine r_icmp_lt (tgt := 10) hx hb dX1_captureChance_2 (by decide) (by unfold rI; omega) (by unfold rI; decide) (fun h2 => ?_) (fun h2 => ?_)
  · exact hth "java/lang/IllegalArgumentException" "the throws left are 1 to 3" 33 146 37 10 _ _ _ _ _ _ (Nat.le_of_ble_eq_true rfl) (Nat.le_of_ble_eq_true rfl) (by decide) mw_X1_captureChance_0 mw_X1_captureChance_1 (by decide +kernel) (fun w h => List.mem_cons_of_mem _ (List.mem_append_left _ (List.mem_append_right _ h))) xb_IllegalArgumentException xg_IllegalArgumentException dX1_captureChance_10 dX1_captureChance_13 dX1_captureChance_14 dX1_captureChance_16 dX1_captureChance_19 (by exact Or.inl ⟨rfl, by omega⟩) hN hl.1 (Nat.le_of_ble_eq_true rfl) (Nat.le_of_ble_eq_true rfl) (Nat.le_of_ble_eq_true rfl)
  · refine lv_iload_n hx hb dX1_captureChance_5 rfl (lv_at hl 1 rfl) ?_
    refine r_iconst hx hb dX1_captureChance_6 ?_
    refine r_icmp_le (tgt := 20) hx hb dX1_captureChance_7 (by decide) (by unfold rI; omega) (by unfold rI; decide) (fun h7 => ?_) (fun h7 => ?_)
    · refine lv_aload_n hx hb dX1_captureChance_20 rfl (lv_at hl 0 rfl) ?_
      refine r_xcVv (As := []) (rest := []) S (c_X1_requireThrowDue l hst D cI cL tw (y0) (y2) (b) (pq) (cq) (tu) (ph) (mo) (gc) (P) (C) (hB) (by omega)) gX1_captureChance_X1_requireThrowDue rfl rfl rfl ⟨rfl, f_X1_requireThrowDue⟩ hR (Nat.le_of_ble_eq_true rfl) (Nat.le_of_ble_eq_true rfl) (hE.kept hS.2.1) hP hN [0, 1, 2, 3, 4] rfl 0 rfl rfl rfl hl.1 rfl (Nat.le_of_ble_eq_true rfl) dX1_captureChance_21 ⟨Nat.le_trans (Nat.le_of_ble_eq_true rfl) hRc.1, Nat.le_trans (Nat.le_of_ble_eq_true rfl) hRc.2⟩ (fun E9 ce9 q9 H9 locs9 hx9 h91 h92 h93 hP9 hN9 => hxo E9 ce9 q9 _ _ _ _ _ _ _ (by rcases hx9 with ⟨h1, h2⟩; exact Or.inr ⟨h1, by omega, by omega, h2⟩) h91 h92 h93 hN9 (Nat.le_of_ble_eq_true rfl) (Nat.le_of_ble_eq_true rfl)) (fun H locs hz21 hP hN => ?_)
      have hS := hN.mono hA
      rcases (show n = 1 ∨ n = 2 ∨ n = 3 by omega) with rfl | rfl | rfl
      · refine lv_aload_n hx hb dX1_captureChance_24 rfl (lv_at hl 0 rfl) ?_
        refine lv_iload_n hx hb dX1_captureChance_25 rfl (lv_at hl 1 rfl) ?_
        refine lv_aload_n hx hb dX1_captureChance_26 rfl (lv_at hl 0 rfl) ?_
        refine va_get (D := D) (ci := 1) (v := .int (iI (gc))) (C := RX1) (T := TX1) (N := 6) hx hb hts mu_X1_captureChance_X1 hown hE.1 hP 0 rfl rfl 3 (by decide) (hts _ mw_X1_captureChance_2) (fun _ h9 => h9) rfl dX1_captureChance_27 ?_
        refine r_callVi (As := [.int (iI (1)), .int (iI (gc))]) (rest := []) (wr := []) S (c_X1_chanceWithin_1 l D cI cL tw (y0) (y2) (b) (pq) (cq) (tu) (ph) (mo) (gc) (P) (C) (gc) (hB) (by omega) (by omega)) gX1_captureChance_X1_chanceWithin rfl rfl rfl ⟨rfl, f_X1_chanceWithin⟩ hR (Nat.le_of_ble_eq_true rfl) (Nat.le_of_ble_eq_true rfl) (hE.kept hS.2.1) hP hD hS hA [0, 1, 2, 3, 4] [] rfl rfl (by decide) rfl (by decide) (by decide) 0 rfl rfl rfl hl.1 rfl (Nat.le_of_ble_eq_true rfl) dX1_captureChance_30 ⟨Nat.le_trans (Nat.le_of_ble_eq_true rfl) hRc.1, Nat.le_trans (Nat.le_of_ble_eq_true rfl) hRc.2⟩ (fun z30 u30 H locs hz30 hP hD hS => ?_)
        have hP : va_P D vwCl [(y0, .inr (1, [.ref b, .ref y2, .int (iI (tu)), .int (iI (gc)), .int (iI (ph)), .int (iI (mo))])), (y2, .inl (cI, 4, .inl (aI C))), (b, .inr (0, [.ref pq, .ref cq])), (pq, .inl (cI, 16, .inl (aI P))), (cq, .inl (cI, 136, .inl (aI (cnt P))))] H := hP.sub [0, 1, 2, 3, 4] rfl
        have hD : va_D A [(y0, .inr (1, [.ref b, .ref y2, .int (iI (tu)), .int (iI (gc)), .int (iI (ph)), .int (iI (mo))])), (y2, .inl (cI, 4, .inl (aI C))), (b, .inr (0, [.ref pq, .ref cq])), (pq, .inl (cI, 16, .inl (aI P))), (cq, .inl (cI, 136, .inl (aI (cnt P))))] := hD.sub [0, 1, 2, 3, 4] (by decide) rfl
        exact hret (z30) () _ _ _ _ _ _ dX1_captureChance_33 (by exact ⟨hz21, Or.inl ⟨rfl, hz30⟩⟩) hP hD hS (Nat.le_of_ble_eq_true rfl) (Nat.le_of_ble_eq_true rfl)
      · refine lv_aload_n hx hb dX1_captureChance_24 rfl (lv_at hl 0 rfl) ?_
        refine lv_iload_n hx hb dX1_captureChance_25 rfl (lv_at hl 1 rfl) ?_
        refine lv_aload_n hx hb dX1_captureChance_26 rfl (lv_at hl 0 rfl) ?_
        refine va_get (D := D) (ci := 1) (v := .int (iI (gc))) (C := RX1) (T := TX1) (N := 6) hx hb hts mu_X1_captureChance_X1 hown hE.1 hP 0 rfl rfl 3 (by decide) (hts _ mw_X1_captureChance_2) (fun _ h9 => h9) rfl dX1_captureChance_27 ?_
        refine r_callVi (As := [.int (iI (2)), .int (iI (gc))]) (rest := []) (wr := []) S (c_X1_chanceWithin_2 l D cI cL tw (y0) (y2) (b) (pq) (cq) (tu) (ph) (mo) (gc) (P) (C) (gc) (hB) (by omega) (by omega)) gX1_captureChance_X1_chanceWithin rfl rfl rfl ⟨rfl, f_X1_chanceWithin⟩ hR (Nat.le_of_ble_eq_true rfl) (Nat.le_of_ble_eq_true rfl) (hE.kept hS.2.1) hP hD hS hA [0, 1, 2, 3, 4] [] rfl rfl (by decide) rfl (by decide) (by decide) 0 rfl rfl rfl hl.1 rfl (Nat.le_of_ble_eq_true rfl) dX1_captureChance_30 ⟨Nat.le_trans (Nat.le_of_ble_eq_true rfl) hRc.1, Nat.le_trans (Nat.le_of_ble_eq_true rfl) hRc.2⟩ (fun z30 u30 H locs hz30 hP hD hS => ?_)
        have hP : va_P D vwCl [(y0, .inr (1, [.ref b, .ref y2, .int (iI (tu)), .int (iI (gc)), .int (iI (ph)), .int (iI (mo))])), (y2, .inl (cI, 4, .inl (aI C))), (b, .inr (0, [.ref pq, .ref cq])), (pq, .inl (cI, 16, .inl (aI P))), (cq, .inl (cI, 136, .inl (aI (cnt P))))] H := hP.sub [0, 1, 2, 3, 4] rfl
        have hD : va_D A [(y0, .inr (1, [.ref b, .ref y2, .int (iI (tu)), .int (iI (gc)), .int (iI (ph)), .int (iI (mo))])), (y2, .inl (cI, 4, .inl (aI C))), (b, .inr (0, [.ref pq, .ref cq])), (pq, .inl (cI, 16, .inl (aI P))), (cq, .inl (cI, 136, .inl (aI (cnt P))))] := hD.sub [0, 1, 2, 3, 4] (by decide) rfl
        exact hret (z30) () _ _ _ _ _ _ dX1_captureChance_33 (by exact ⟨hz21, Or.inr (Or.inl ⟨rfl, hz30⟩)⟩) hP hD hS (Nat.le_of_ble_eq_true rfl) (Nat.le_of_ble_eq_true rfl)
      · refine lv_aload_n hx hb dX1_captureChance_24 rfl (lv_at hl 0 rfl) ?_
        refine lv_iload_n hx hb dX1_captureChance_25 rfl (lv_at hl 1 rfl) ?_
        refine lv_aload_n hx hb dX1_captureChance_26 rfl (lv_at hl 0 rfl) ?_
        refine va_get (D := D) (ci := 1) (v := .int (iI (gc))) (C := RX1) (T := TX1) (N := 6) hx hb hts mu_X1_captureChance_X1 hown hE.1 hP 0 rfl rfl 3 (by decide) (hts _ mw_X1_captureChance_2) (fun _ h9 => h9) rfl dX1_captureChance_27 ?_
        refine r_callVi (As := [.int (iI (3)), .int (iI (gc))]) (rest := []) (wr := []) S (c_X1_chanceWithin_3 l D cI cL tw (y0) (y2) (b) (pq) (cq) (tu) (ph) (mo) (gc) (P) (C) (gc) (hB) (by omega) (by omega)) gX1_captureChance_X1_chanceWithin rfl rfl rfl ⟨rfl, f_X1_chanceWithin⟩ hR (Nat.le_of_ble_eq_true rfl) (Nat.le_of_ble_eq_true rfl) (hE.kept hS.2.1) hP hD hS hA [0, 1, 2, 3, 4] [] rfl rfl (by decide) rfl (by decide) (by decide) 0 rfl rfl rfl hl.1 rfl (Nat.le_of_ble_eq_true rfl) dX1_captureChance_30 ⟨Nat.le_trans (Nat.le_of_ble_eq_true rfl) hRc.1, Nat.le_trans (Nat.le_of_ble_eq_true rfl) hRc.2⟩ (fun z30 u30 H locs hz30 hP hD hS => ?_)
        have hP : va_P D vwCl [(y0, .inr (1, [.ref b, .ref y2, .int (iI (tu)), .int (iI (gc)), .int (iI (ph)), .int (iI (mo))])), (y2, .inl (cI, 4, .inl (aI C))), (b, .inr (0, [.ref pq, .ref cq])), (pq, .inl (cI, 16, .inl (aI P))), (cq, .inl (cI, 136, .inl (aI (cnt P))))] H := hP.sub [0, 1, 2, 3, 4] rfl
        have hD : va_D A [(y0, .inr (1, [.ref b, .ref y2, .int (iI (tu)), .int (iI (gc)), .int (iI (ph)), .int (iI (mo))])), (y2, .inl (cI, 4, .inl (aI C))), (b, .inr (0, [.ref pq, .ref cq])), (pq, .inl (cI, 16, .inl (aI P))), (cq, .inl (cI, 136, .inl (aI (cnt P))))] := hD.sub [0, 1, 2, 3, 4] (by decide) rfl
        exact hret (z30) () _ _ _ _ _ _ dX1_captureChance_33 (by exact ⟨hz21, Or.inr (Or.inr ⟨rfl, hz30⟩)⟩) hP hD hS (Nat.le_of_ble_eq_true rfl) (Nat.le_of_ble_eq_true rfl)
    · exact hth "java/lang/IllegalArgumentException" "the throws left are 1 to 3" 33 146 37 10 _ _ _ _ _ _ (Nat.le_of_ble_eq_true rfl) (Nat.le_of_ble_eq_true rfl) (by decide) mw_X1_captureChance_0 mw_X1_captureChance_1 (by decide +kernel) (fun w h => List.mem_cons_of_mem _ (List.mem_append_left _ (List.mem_append_right _ h))) xb_IllegalArgumentException xg_IllegalArgumentException dX1_captureChance_10 dX1_captureChance_13 dX1_captureChance_14 dX1_captureChance_16 dX1_captureChance_19 (by exact Or.inl ⟨rfl, by omega⟩) hN hl.1 (Nat.le_of_ble_eq_true rfl) (Nat.le_of_ble_eq_true rfl) (Nat.le_of_ble_eq_true rfl)

set_option maxRecDepth 20000 in
theorem mw_X1_throwShells_0 : (.classLink RX1 33 "java/lang/IllegalArgumentException" : Cond) ∈ wsX1_throwShells := by decide +kernel
set_option maxRecDepth 20000 in
theorem mw_X1_throwShells_1 : (.initialized "java/lang/IllegalArgumentException" : Cond) ∈ wsX1_throwShells := by decide +kernel
set_option maxRecDepth 20000 in
theorem mw_X1_throwShells_2 : (.fieldLink RX1 24 "PachisiYard" "gracesInRow" "I" : Cond) ∈ wsX1_throwShells := by decide +kernel
set_option maxRecDepth 20000 in
theorem mu_X1_throwShells_X1 : ∀ w ∈ wsX10, w ∈ wsX1_throwShells := by decide +kernel
set_option maxRecDepth 20000 in
theorem mw_X1_throwShells_4 : (.fieldLink RX1 10 "PachisiYard" "board" "LPachisiYard$Board;" : Cond) ∈ wsX1_throwShells := by decide +kernel
set_option maxRecDepth 20000 in
theorem mw_X1_throwShells_5 : (.fieldLink RX1 20 "PachisiYard" "turn" "I" : Cond) ∈ wsX1_throwShells := by decide +kernel
set_option maxRecDepth 20000 in
theorem mw_X1_throwShells_6 : (.fieldLink RX1 30 "PachisiYard" "mouthsThrown" "I" : Cond) ∈ wsX1_throwShells := by decide +kernel
set_option maxRecDepth 20000 in
theorem mw_X1_throwShells_7 : (.fieldLink RX1 27 "PachisiYard" "stage" "I" : Cond) ∈ wsX1_throwShells := by decide +kernel
theorem f_X1_throwShells : yX1_throwShells.cls ≠ "java/lang/invoke/MethodHandle" ∧ yX1_throwShells.cls ≠ "java/lang/invoke/VarHandle" ∧ (parseMethodDescriptor yX1_throwShells.desc).map (fun d => d.parameters.length) = some 1 := by decide +kernel
set_option maxHeartbeats 4000000 in
set_option maxRecDepth 100000 in
theorem c_X1_throwShells (l : Launch) (hst : l.stackTraces = false) (D : va_G) (cI cL : ClassId) (tw : Nat) (y0 : Nat) (y2 : Nat) (b : Nat) (pq : Nat) (cq : Nat) (tu : Int) (ph : Int) (mo : Int) (gc : Int) (P : Int → Int) (C : Int → Int) (m : Int) (hB : ∀ i, 0 ≤ P i ∧ P i ≤ 72) (htu : 0 ≤ tu ∧ tu ≤ 3) (hgc : 0 ≤ gc ∧ gc ≤ 2) (hph : 0 ≤ ph ∧ ph ≤ 2) (hmo : 0 ≤ mo ∧ mo ≤ 6) (h_m : -2147483648 ≤ m ∧ m < 2147483648) : XWi l yX1_throwShells wsX1_throwShells { frames := 7, cells := 1, slots := 6, locals := 120 } D cI cL tw [.ref y0, .int (iI (m))] [(y0, .inr (1, [.ref b, .ref y2, .int (iI (tu)), .int (iI (gc)), .int (iI (ph)), .int (iI (mo))])), (y2, .inl (cI, 4, .inl (aI C))), (b, .inr (0, [.ref pq, .ref cq])), (pq, .inl (cI, 16, .inl (aI P))), (cq, .inl (cI, 136, .inl (aI (cnt P))))] (fun (z : Int) (u : Int × Int × Int × Int) => 0 ≤ m ∧ m ≤ 6 ∧ ph = 0 ∧ tsR P tu gc mo m z u.1 u.2.1 u.2.2.1 u.2.2.2) (fun u : Int × Int × Int × Int => [(y0, .inr (1, [.ref b, .ref y2, .int (iI (u.1)), .int (iI (u.2.1)), .int (iI (u.2.2.1)), .int (iI (u.2.2.2))])), (y2, .inl (cI, 4, .inl (aI C))), (b, .inr (0, [.ref pq, .ref cq])), (pq, .inl (cI, 16, .inl (aI P))), (cq, .inl (cI, 136, .inl (aI (cnt P))))]) (fun E : String => (E = "java/lang/IllegalArgumentException" ∧ ¬ (0 ≤ m ∧ m ≤ 6)) ∨ (E = "java/lang/IllegalStateException" ∧ 0 ≤ m ∧ m ≤ 6 ∧ ph ≠ 0)) 1 6 := by
  refine xwi_of (cc := cX1_throwShells) (maxL := 3) hst (by decide) rfl rfl (Nat.le_of_ble_eq_true rfl) (Nat.le_of_ble_eq_true rfl) (Nat.le_of_ble_eq_true rfl) ?_
  intro p e R s mt args below meth c H0 Q ls A S hR hRc hE hP hD hA hN hl hret hxo hth
  have hS := hN.mono hA
  obtain ⟨hx, hb, hml, hown, hts⟩ := id S
  have hl : lv_has ls 3 [(0, .ref y0), (1, .int (iI (m)))] := hl
  refine lv_iload_n hx hb dX1_throwShells_0 rfl (lv_at hl 1 rfl) ?_
  refine r_if_lt (tgt := 10) hx hb dX1_throwShells_1 (by decide) (by unfold rI; omega) (fun h1 => ?_) (fun h1 => ?_)
  · exact hth "java/lang/IllegalArgumentException" "the mouths up are 0 to 6" 33 35 37 10 _ _ _ _ _ _ (Nat.le_of_ble_eq_true rfl) (Nat.le_of_ble_eq_true rfl) (by decide) mw_X1_throwShells_0 mw_X1_throwShells_1 (by decide +kernel) (fun w h => List.mem_cons_of_mem _ (List.mem_append_left _ (List.mem_append_right _ h))) xb_IllegalArgumentException xg_IllegalArgumentException dX1_throwShells_10 dX1_throwShells_13 dX1_throwShells_14 dX1_throwShells_16 dX1_throwShells_19 (by exact Or.inl ⟨rfl, by omega⟩) hN hl.1 (Nat.le_of_ble_eq_true rfl) (Nat.le_of_ble_eq_true rfl) (Nat.le_of_ble_eq_true rfl)
  · refine lv_iload_n hx hb dX1_throwShells_4 rfl (lv_at hl 1 rfl) ?_
    refine r_bipush hx hb dX1_throwShells_5 (by decide) ?_
    refine r_icmp_le (tgt := 20) hx hb dX1_throwShells_7 (by decide) (by unfold rI; omega) (by unfold rI; decide) (fun h7 => ?_) (fun h7 => ?_)
    · refine lv_aload_n hx hb dX1_throwShells_20 rfl (lv_at hl 0 rfl) ?_
      refine r_xcVv (As := []) (rest := []) S (c_X1_requireThrowDue l hst D cI cL tw (y0) (y2) (b) (pq) (cq) (tu) (ph) (mo) (gc) (P) (C) (hB) (by omega)) gX1_throwShells_X1_requireThrowDue rfl rfl rfl ⟨rfl, f_X1_requireThrowDue⟩ hR (Nat.le_of_ble_eq_true rfl) (Nat.le_of_ble_eq_true rfl) (hE.kept hS.2.1) hP hN [0, 1, 2, 3, 4] rfl 0 rfl rfl rfl hl.1 rfl (Nat.le_of_ble_eq_true rfl) dX1_throwShells_21 ⟨Nat.le_trans (Nat.le_of_ble_eq_true rfl) hRc.1, Nat.le_trans (Nat.le_of_ble_eq_true rfl) hRc.2⟩ (fun E9 ce9 q9 H9 locs9 hx9 h91 h92 h93 hP9 hN9 => hxo E9 ce9 q9 _ _ _ _ _ _ _ (by rcases hx9 with ⟨h1, h2⟩; exact Or.inr ⟨h1, by omega, by omega, h2⟩) h91 h92 h93 hN9 (Nat.le_of_ble_eq_true rfl) (Nat.le_of_ble_eq_true rfl)) (fun H locs hz21 hP hN => ?_)
      have hS := hN.mono hA
      refine lv_iload_n hx hb dX1_throwShells_24 rfl (lv_at hl 1 rfl) ?_
      refine r_callS (As := [.int (iI (m))]) (rest := []) S (c_X1_worthOf l D cI cL tw (m) (by omega)) gX1_throwShells_X1_worthOf rfl rfl rfl f_X1_worthOf hR (Nat.le_of_ble_eq_true rfl) (Nat.le_of_ble_eq_true rfl) (hE.kept hS.2.1) rfl hl.1 rfl (Nat.le_of_ble_eq_true rfl) dX1_throwShells_25 ⟨Nat.le_trans (Nat.le_of_ble_eq_true rfl) hRc.1, Nat.le_trans (Nat.le_of_ble_eq_true rfl) hRc.2⟩ (fun z25 hz25 => ?_)
      obtain ⟨hz25, rz25⟩ := hz25
      refine lv_istore_n (lv' := [(2, .int (iI (z25))), (0, .ref y0), (1, .int (iI (m)))]) hx hb dX1_throwShells_28 rfl hl (by decide) rfl (fun ls hl => ?_)
      refine lv_iload_n hx hb dX1_throwShells_29 rfl (lv_at hl 2 rfl) ?_
      refine lv_aload_n hx hb dX1_throwShells_30 rfl (lv_at hl 1 rfl) ?_
      refine va_get (D := D) (ci := 1) (v := .int (iI (gc))) (C := RX1) (T := TX1) (N := 6) hx hb hts mu_X1_throwShells_X1 hown hE.1 hP 0 rfl rfl 3 (by decide) (hts _ mw_X1_throwShells_2) (fun _ h9 => h9) rfl dX1_throwShells_31 ?_
      refine r_callS (As := [.int (iI (m)), .int (iI (gc))]) (rest := []) S (c_X1_isGraceTooMany l D cI cL tw (m) (gc) (by omega) (by omega)) gX1_throwShells_X1_isGraceTooMany rfl rfl rfl f_X1_isGraceTooMany hR (Nat.le_of_ble_eq_true rfl) (Nat.le_of_ble_eq_true rfl) (hE.kept hS.2.1) rfl hl.1 rfl (Nat.le_of_ble_eq_true rfl) dX1_throwShells_34 ⟨Nat.le_trans (Nat.le_of_ble_eq_true rfl) hRc.1, Nat.le_trans (Nat.le_of_ble_eq_true rfl) hRc.2⟩ (fun z34 hz34 => ?_)
      rcases hz34 with ⟨rfl, hz34⟩ | ⟨rfl, hz34⟩
      · refine r_if_eq (tgt := 47) hx hb dX1_throwShells_37 (by decide) (by unfold rI; decide) (fun h9 => absurd h9 (by omega)) (fun h37 => ?_)
        refine lv_aload_n hx hb dX1_throwShells_40 rfl (lv_at hl 1 rfl) ?_
        refine r_callVv (As := []) (rest := []) (wr := []) S (c_X1_passTurn l D cI cL tw (y0) (y2) (b) (pq) (cq) (tu) (ph) (mo) (gc) (P) (C) (hB) (by omega)) gX1_throwShells_X1_passTurn rfl rfl rfl ⟨rfl, f_X1_passTurn⟩ hR (Nat.le_of_ble_eq_true rfl) (Nat.le_of_ble_eq_true rfl) (hE.kept hS.2.1) hP hD hS hA [0, 1, 2, 3, 4] [] rfl rfl (by decide) rfl (by decide) (by decide) 0 rfl rfl rfl hl.1 rfl (Nat.le_of_ble_eq_true rfl) dX1_throwShells_41 ⟨Nat.le_trans (Nat.le_of_ble_eq_true rfl) hRc.1, Nat.le_trans (Nat.le_of_ble_eq_true rfl) hRc.2⟩ (fun u41 H locs hz41 hP hD hS => ?_)
        have hP : va_P D vwCl [(y0, .inr (1, [.ref b, .ref y2, .int (iI ((tu + 1) % 4)), .int (iI (0)), .int (iI (ph)), .int (iI (mo))])), (y2, .inl (cI, 4, .inl (aI C))), (b, .inr (0, [.ref pq, .ref cq])), (pq, .inl (cI, 16, .inl (aI P))), (cq, .inl (cI, 136, .inl (aI (cnt P))))] H := hP.sub [0, 1, 2, 3, 4] rfl
        have hD : va_D A [(y0, .inr (1, [.ref b, .ref y2, .int (iI ((tu + 1) % 4)), .int (iI (0)), .int (iI (ph)), .int (iI (mo))])), (y2, .inl (cI, 4, .inl (aI C))), (b, .inr (0, [.ref pq, .ref cq])), (pq, .inl (cI, 16, .inl (aI P))), (cq, .inl (cI, 136, .inl (aI (cnt P))))] := hD.sub [0, 1, 2, 3, 4] (by decide) rfl
        refine lv_iload_n hx hb dX1_throwShells_44 rfl (lv_at hl 0 rfl) ?_
        refine r_ineg hx hb dX1_throwShells_45 ?_
        exact hret (-(z25)) ((tu + 1) % 4, 0, ph, mo) _ _ _ _ _ _ dX1_throwShells_46 (by (try dsimp only); refine ⟨by omega, by omega, hz21, ?_⟩; unfold tsR; exact Or.inl ⟨hz34.1, by omega, by omega, rfl, rfl, by omega, rfl⟩) hP hD hS (Nat.le_of_ble_eq_true rfl) (Nat.le_of_ble_eq_true rfl)
      · refine r_if_eq (tgt := 47) hx hb dX1_throwShells_37 (by decide) (by unfold rI; decide) (fun h37 => ?_) (fun h9 => absurd h9 (by omega))
        refine lv_aload_n hx hb dX1_throwShells_47 rfl (lv_at hl 1 rfl) ?_
        refine lv_iload_n hx hb dX1_throwShells_48 rfl (lv_at hl 2 rfl) ?_
        refine r_callS (As := [.int (iI (m))]) (rest := [.ref y0]) S (c_X1_isGrace l D cI cL tw (m) (by omega)) gX1_throwShells_X1_isGrace rfl rfl rfl f_X1_isGrace hR (Nat.le_of_ble_eq_true rfl) (Nat.le_of_ble_eq_true rfl) (hE.kept hS.2.1) rfl hl.1 rfl (Nat.le_of_ble_eq_true rfl) dX1_throwShells_49 ⟨Nat.le_trans (Nat.le_of_ble_eq_true rfl) hRc.1, Nat.le_trans (Nat.le_of_ble_eq_true rfl) hRc.2⟩ (fun z49 hz49 => ?_)
        rcases hz49 with ⟨rfl, hz49⟩ | ⟨rfl, hz49⟩
        · refine r_if_eq (tgt := 64) hx hb dX1_throwShells_52 (by decide) (by unfold rI; decide) (fun h9 => absurd h9 (by omega)) (fun h52 => ?_)
          refine lv_aload_n hx hb dX1_throwShells_55 rfl (lv_at hl 1 rfl) ?_
          refine va_get (D := D) (ci := 1) (v := .int (iI (gc))) (C := RX1) (T := TX1) (N := 6) hx hb hts mu_X1_throwShells_X1 hown hE.1 hP 0 rfl rfl 3 (by decide) (hts _ mw_X1_throwShells_2) (fun _ h9 => h9) rfl dX1_throwShells_56 ?_
          refine r_iconst hx hb dX1_throwShells_59 ?_
          refine r_iadd hx hb dX1_throwShells_60 ?_
          refine lv_goto (tgt := 65) hx hb dX1_throwShells_61 (by decide) ?_
          refine va_put (D := D) (ci := 1) (v := .int (iI ((gc) + (1)))) (ty := .int) (C := RX1) (T := TX1) (N := 6) hx hb hts mu_X1_throwShells_X1 tyX1 tyX1_ok nmX1 hown hE.1 hP hD hS 0 rfl rfl 3 (by decide) (hts _ mw_X1_throwShells_2) (fun _ h9 => h9) rfl (by decide +kernel) rfl rfl (Nat.le_of_ble_eq_true rfl) dX1_throwShells_65 (fun H locs hP hD hS => ?_)
          have hP : va_P D vwCl [(y0, .inr (1, [.ref b, .ref y2, .int (iI (tu)), .int (iI ((gc) + (1))), .int (iI (ph)), .int (iI (mo))])), (y2, .inl (cI, 4, .inl (aI C))), (b, .inr (0, [.ref pq, .ref cq])), (pq, .inl (cI, 16, .inl (aI P))), (cq, .inl (cI, 136, .inl (aI (cnt P))))] H := hP
          have hD : va_D A [(y0, .inr (1, [.ref b, .ref y2, .int (iI (tu)), .int (iI ((gc) + (1))), .int (iI (ph)), .int (iI (mo))])), (y2, .inl (cI, 4, .inl (aI C))), (b, .inr (0, [.ref pq, .ref cq])), (pq, .inl (cI, 16, .inl (aI P))), (cq, .inl (cI, 136, .inl (aI (cnt P))))] := hD
          refine lv_aload_n hx hb dX1_throwShells_68 rfl (lv_at hl 1 rfl) ?_
          refine va_get (D := D) (ci := 1) (v := .ref b) (C := RX1) (T := TX1) (N := 6) hx hb hts mu_X1_throwShells_X1 hown hE.1 hP 0 rfl rfl 0 (by decide) (hts _ mw_X1_throwShells_4) (fun _ h9 => h9) rfl dX1_throwShells_69 ?_
          refine lv_aload_n hx hb dX1_throwShells_72 rfl (lv_at hl 1 rfl) ?_
          refine va_get (D := D) (ci := 1) (v := .ref b) (C := RX1) (T := TX1) (N := 6) hx hb hts mu_X1_throwShells_X1 hown hE.1 hP 0 rfl rfl 0 (by decide) (hts _ mw_X1_throwShells_4) (fun _ h9 => h9) rfl dX1_throwShells_73 ?_
          refine lv_aload_n hx hb dX1_throwShells_76 rfl (lv_at hl 1 rfl) ?_
          refine va_get (D := D) (ci := 1) (v := .int (iI (tu))) (C := RX1) (T := TX1) (N := 6) hx hb hts mu_X1_throwShells_X1 hown hE.1 hP 0 rfl rfl 2 (by decide) (hts _ mw_X1_throwShells_5) (fun _ h9 => h9) rfl dX1_throwShells_77 ?_
          refine r_callV (As := [.int (iI (tu))]) (rest := [.ref b]) S (c_X0_moverFor l D cI cL tw (b) (pq) (cq) (P) (tu) (hB) (by omega)) gX1_throwShells_X0_moverFor rfl rfl rfl ⟨rfl, f_X0_moverFor⟩ hR (Nat.le_of_ble_eq_true rfl) (Nat.le_of_ble_eq_true rfl) (hE.kept hS.2.1) hP [2, 3, 4] rfl 0 rfl rfl rfl hl.1 rfl (Nat.le_of_ble_eq_true rfl) dX1_throwShells_80 ⟨Nat.le_trans (Nat.le_of_ble_eq_true rfl) hRc.1, Nat.le_trans (Nat.le_of_ble_eq_true rfl) hRc.2⟩ (fun z80 hz80 => ?_)
          obtain ⟨hz80, rz80⟩ := hz80
          refine lv_iload_n hx hb dX1_throwShells_83 rfl (lv_at hl 2 rfl) ?_
          refine r_callV (As := [.int (iI (z80)), .int (iI (m))]) (rest := []) S (c_X0_movableSet l D cI cL tw (b) (pq) (cq) (P) (z80) (m) (hB) (by omega) (by omega)) gX1_throwShells_X0_movableSet rfl rfl rfl ⟨rfl, f_X0_movableSet⟩ hR (Nat.le_of_ble_eq_true rfl) (Nat.le_of_ble_eq_true rfl) (hE.kept hS.2.1) hP [2, 3, 4] rfl 0 rfl rfl rfl hl.1 rfl (Nat.le_of_ble_eq_true rfl) dX1_throwShells_84 ⟨Nat.le_trans (Nat.le_of_ble_eq_true rfl) hRc.1, Nat.le_trans (Nat.le_of_ble_eq_true rfl) hRc.2⟩ (fun z84 hz84 => ?_)
          obtain ⟨hz84, rz84⟩ := hz84
          refine r_if_ne (tgt := 104) hx hb dX1_throwShells_87 (by decide) (by unfold rI; omega) (fun h87 => ?_) (fun h87 => ?_)
          · refine lv_aload_n hx hb dX1_throwShells_104 rfl (lv_at hl 1 rfl) ?_
            refine lv_iload_n hx hb dX1_throwShells_105 rfl (lv_at hl 2 rfl) ?_
            refine va_put (D := D) (ci := 1) (v := .int (iI (m))) (ty := .int) (C := RX1) (T := TX1) (N := 6) hx hb hts mu_X1_throwShells_X1 tyX1 tyX1_ok nmX1 hown hE.1 hP hD hS 0 rfl rfl 5 (by decide) (hts _ mw_X1_throwShells_6) (fun _ h9 => h9) rfl (by decide +kernel) rfl rfl (Nat.le_of_ble_eq_true rfl) dX1_throwShells_106 (fun H locs hP hD hS => ?_)
            have hP : va_P D vwCl [(y0, .inr (1, [.ref b, .ref y2, .int (iI (tu)), .int (iI ((gc) + (1))), .int (iI (ph)), .int (iI (m))])), (y2, .inl (cI, 4, .inl (aI C))), (b, .inr (0, [.ref pq, .ref cq])), (pq, .inl (cI, 16, .inl (aI P))), (cq, .inl (cI, 136, .inl (aI (cnt P))))] H := hP
            have hD : va_D A [(y0, .inr (1, [.ref b, .ref y2, .int (iI (tu)), .int (iI ((gc) + (1))), .int (iI (ph)), .int (iI (m))])), (y2, .inl (cI, 4, .inl (aI C))), (b, .inr (0, [.ref pq, .ref cq])), (pq, .inl (cI, 16, .inl (aI P))), (cq, .inl (cI, 136, .inl (aI (cnt P))))] := hD
            refine lv_aload_n hx hb dX1_throwShells_109 rfl (lv_at hl 1 rfl) ?_
            refine r_iconst hx hb dX1_throwShells_110 ?_
            refine va_put (D := D) (ci := 1) (v := .int (iI (1))) (ty := .int) (C := RX1) (T := TX1) (N := 6) hx hb hts mu_X1_throwShells_X1 tyX1 tyX1_ok nmX1 hown hE.1 hP hD hS 0 rfl rfl 4 (by decide) (hts _ mw_X1_throwShells_7) (fun _ h9 => h9) rfl (by decide +kernel) rfl rfl (Nat.le_of_ble_eq_true rfl) dX1_throwShells_111 (fun H locs hP hD hS => ?_)
            have hP : va_P D vwCl [(y0, .inr (1, [.ref b, .ref y2, .int (iI (tu)), .int (iI ((gc) + (1))), .int (iI (1)), .int (iI (m))])), (y2, .inl (cI, 4, .inl (aI C))), (b, .inr (0, [.ref pq, .ref cq])), (pq, .inl (cI, 16, .inl (aI P))), (cq, .inl (cI, 136, .inl (aI (cnt P))))] H := hP
            have hD : va_D A [(y0, .inr (1, [.ref b, .ref y2, .int (iI (tu)), .int (iI ((gc) + (1))), .int (iI (1)), .int (iI (m))])), (y2, .inl (cI, 4, .inl (aI C))), (b, .inr (0, [.ref pq, .ref cq])), (pq, .inl (cI, 16, .inl (aI P))), (cq, .inl (cI, 136, .inl (aI (cnt P))))] := hD
            refine lv_iload_n hx hb dX1_throwShells_114 rfl (lv_at hl 0 rfl) ?_
            exact hret (z25) (tu, (gc) + (1), 1, m) _ _ _ _ _ _ dX1_throwShells_115 (by (try dsimp only); refine ⟨by omega, by omega, hz21, ?_⟩; unfold tsR; exact Or.inr (Or.inr ⟨by omega, by rw [← hz80, ← hz84]; omega, by omega, rfl, Or.inl ⟨by omega, rfl⟩, rfl, rfl⟩)) hP hD hS (Nat.le_of_ble_eq_true rfl) (Nat.le_of_ble_eq_true rfl)
          · refine lv_iload_n hx hb dX1_throwShells_90 rfl (lv_at hl 2 rfl) ?_
            refine r_callS (As := [.int (iI (m))]) (rest := []) S (c_X1_isGrace l D cI cL tw (m) (by omega)) gX1_throwShells_X1_isGrace rfl rfl rfl f_X1_isGrace hR (Nat.le_of_ble_eq_true rfl) (Nat.le_of_ble_eq_true rfl) (hE.kept hS.2.1) rfl hl.1 rfl (Nat.le_of_ble_eq_true rfl) dX1_throwShells_91 ⟨Nat.le_trans (Nat.le_of_ble_eq_true rfl) hRc.1, Nat.le_trans (Nat.le_of_ble_eq_true rfl) hRc.2⟩ (fun z91 hz91 => ?_)
            rcases hz91 with ⟨rfl, hz91⟩ | ⟨rfl, hz91⟩
            · refine r_if_ne (tgt := 101) hx hb dX1_throwShells_94 (by decide) (by unfold rI; decide) (fun h94 => ?_) (fun h9 => absurd h9 (by omega))
              refine lv_iload_n hx hb dX1_throwShells_101 rfl (lv_at hl 0 rfl) ?_
              refine r_ineg hx hb dX1_throwShells_102 ?_
              exact hret (-(z25)) (tu, (gc) + (1), ph, mo) _ _ _ _ _ _ dX1_throwShells_103 (by (try dsimp only); refine ⟨by omega, by omega, hz21, ?_⟩; unfold tsR; exact Or.inr (Or.inl ⟨by omega, by rw [← hz80, ← hz84]; omega, by omega, Or.inl ⟨by omega, rfl, rfl⟩, by omega, rfl⟩)) hP hD hS (Nat.le_of_ble_eq_true rfl) (Nat.le_of_ble_eq_true rfl)
            · exact absurd hz49 hz91
        · refine r_if_eq (tgt := 64) hx hb dX1_throwShells_52 (by decide) (by unfold rI; decide) (fun h52 => ?_) (fun h9 => absurd h9 (by omega))
          refine r_iconst hx hb dX1_throwShells_64 ?_
          refine va_put (D := D) (ci := 1) (v := .int (iI (0))) (ty := .int) (C := RX1) (T := TX1) (N := 6) hx hb hts mu_X1_throwShells_X1 tyX1 tyX1_ok nmX1 hown hE.1 hP hD hS 0 rfl rfl 3 (by decide) (hts _ mw_X1_throwShells_2) (fun _ h9 => h9) rfl (by decide +kernel) rfl rfl (Nat.le_of_ble_eq_true rfl) dX1_throwShells_65 (fun H locs hP hD hS => ?_)
          have hP : va_P D vwCl [(y0, .inr (1, [.ref b, .ref y2, .int (iI (tu)), .int (iI (0)), .int (iI (ph)), .int (iI (mo))])), (y2, .inl (cI, 4, .inl (aI C))), (b, .inr (0, [.ref pq, .ref cq])), (pq, .inl (cI, 16, .inl (aI P))), (cq, .inl (cI, 136, .inl (aI (cnt P))))] H := hP
          have hD : va_D A [(y0, .inr (1, [.ref b, .ref y2, .int (iI (tu)), .int (iI (0)), .int (iI (ph)), .int (iI (mo))])), (y2, .inl (cI, 4, .inl (aI C))), (b, .inr (0, [.ref pq, .ref cq])), (pq, .inl (cI, 16, .inl (aI P))), (cq, .inl (cI, 136, .inl (aI (cnt P))))] := hD
          refine lv_aload_n hx hb dX1_throwShells_68 rfl (lv_at hl 1 rfl) ?_
          refine va_get (D := D) (ci := 1) (v := .ref b) (C := RX1) (T := TX1) (N := 6) hx hb hts mu_X1_throwShells_X1 hown hE.1 hP 0 rfl rfl 0 (by decide) (hts _ mw_X1_throwShells_4) (fun _ h9 => h9) rfl dX1_throwShells_69 ?_
          refine lv_aload_n hx hb dX1_throwShells_72 rfl (lv_at hl 1 rfl) ?_
          refine va_get (D := D) (ci := 1) (v := .ref b) (C := RX1) (T := TX1) (N := 6) hx hb hts mu_X1_throwShells_X1 hown hE.1 hP 0 rfl rfl 0 (by decide) (hts _ mw_X1_throwShells_4) (fun _ h9 => h9) rfl dX1_throwShells_73 ?_
          refine lv_aload_n hx hb dX1_throwShells_76 rfl (lv_at hl 1 rfl) ?_
          refine va_get (D := D) (ci := 1) (v := .int (iI (tu))) (C := RX1) (T := TX1) (N := 6) hx hb hts mu_X1_throwShells_X1 hown hE.1 hP 0 rfl rfl 2 (by decide) (hts _ mw_X1_throwShells_5) (fun _ h9 => h9) rfl dX1_throwShells_77 ?_
          refine r_callV (As := [.int (iI (tu))]) (rest := [.ref b]) S (c_X0_moverFor l D cI cL tw (b) (pq) (cq) (P) (tu) (hB) (by omega)) gX1_throwShells_X0_moverFor rfl rfl rfl ⟨rfl, f_X0_moverFor⟩ hR (Nat.le_of_ble_eq_true rfl) (Nat.le_of_ble_eq_true rfl) (hE.kept hS.2.1) hP [2, 3, 4] rfl 0 rfl rfl rfl hl.1 rfl (Nat.le_of_ble_eq_true rfl) dX1_throwShells_80 ⟨Nat.le_trans (Nat.le_of_ble_eq_true rfl) hRc.1, Nat.le_trans (Nat.le_of_ble_eq_true rfl) hRc.2⟩ (fun z80 hz80 => ?_)
          obtain ⟨hz80, rz80⟩ := hz80
          refine lv_iload_n hx hb dX1_throwShells_83 rfl (lv_at hl 2 rfl) ?_
          refine r_callV (As := [.int (iI (z80)), .int (iI (m))]) (rest := []) S (c_X0_movableSet l D cI cL tw (b) (pq) (cq) (P) (z80) (m) (hB) (by omega) (by omega)) gX1_throwShells_X0_movableSet rfl rfl rfl ⟨rfl, f_X0_movableSet⟩ hR (Nat.le_of_ble_eq_true rfl) (Nat.le_of_ble_eq_true rfl) (hE.kept hS.2.1) hP [2, 3, 4] rfl 0 rfl rfl rfl hl.1 rfl (Nat.le_of_ble_eq_true rfl) dX1_throwShells_84 ⟨Nat.le_trans (Nat.le_of_ble_eq_true rfl) hRc.1, Nat.le_trans (Nat.le_of_ble_eq_true rfl) hRc.2⟩ (fun z84 hz84 => ?_)
          obtain ⟨hz84, rz84⟩ := hz84
          refine r_if_ne (tgt := 104) hx hb dX1_throwShells_87 (by decide) (by unfold rI; omega) (fun h87 => ?_) (fun h87 => ?_)
          · refine lv_aload_n hx hb dX1_throwShells_104 rfl (lv_at hl 1 rfl) ?_
            refine lv_iload_n hx hb dX1_throwShells_105 rfl (lv_at hl 2 rfl) ?_
            refine va_put (D := D) (ci := 1) (v := .int (iI (m))) (ty := .int) (C := RX1) (T := TX1) (N := 6) hx hb hts mu_X1_throwShells_X1 tyX1 tyX1_ok nmX1 hown hE.1 hP hD hS 0 rfl rfl 5 (by decide) (hts _ mw_X1_throwShells_6) (fun _ h9 => h9) rfl (by decide +kernel) rfl rfl (Nat.le_of_ble_eq_true rfl) dX1_throwShells_106 (fun H locs hP hD hS => ?_)
            have hP : va_P D vwCl [(y0, .inr (1, [.ref b, .ref y2, .int (iI (tu)), .int (iI (0)), .int (iI (ph)), .int (iI (m))])), (y2, .inl (cI, 4, .inl (aI C))), (b, .inr (0, [.ref pq, .ref cq])), (pq, .inl (cI, 16, .inl (aI P))), (cq, .inl (cI, 136, .inl (aI (cnt P))))] H := hP
            have hD : va_D A [(y0, .inr (1, [.ref b, .ref y2, .int (iI (tu)), .int (iI (0)), .int (iI (ph)), .int (iI (m))])), (y2, .inl (cI, 4, .inl (aI C))), (b, .inr (0, [.ref pq, .ref cq])), (pq, .inl (cI, 16, .inl (aI P))), (cq, .inl (cI, 136, .inl (aI (cnt P))))] := hD
            refine lv_aload_n hx hb dX1_throwShells_109 rfl (lv_at hl 1 rfl) ?_
            refine r_iconst hx hb dX1_throwShells_110 ?_
            refine va_put (D := D) (ci := 1) (v := .int (iI (1))) (ty := .int) (C := RX1) (T := TX1) (N := 6) hx hb hts mu_X1_throwShells_X1 tyX1 tyX1_ok nmX1 hown hE.1 hP hD hS 0 rfl rfl 4 (by decide) (hts _ mw_X1_throwShells_7) (fun _ h9 => h9) rfl (by decide +kernel) rfl rfl (Nat.le_of_ble_eq_true rfl) dX1_throwShells_111 (fun H locs hP hD hS => ?_)
            have hP : va_P D vwCl [(y0, .inr (1, [.ref b, .ref y2, .int (iI (tu)), .int (iI (0)), .int (iI (1)), .int (iI (m))])), (y2, .inl (cI, 4, .inl (aI C))), (b, .inr (0, [.ref pq, .ref cq])), (pq, .inl (cI, 16, .inl (aI P))), (cq, .inl (cI, 136, .inl (aI (cnt P))))] H := hP
            have hD : va_D A [(y0, .inr (1, [.ref b, .ref y2, .int (iI (tu)), .int (iI (0)), .int (iI (1)), .int (iI (m))])), (y2, .inl (cI, 4, .inl (aI C))), (b, .inr (0, [.ref pq, .ref cq])), (pq, .inl (cI, 16, .inl (aI P))), (cq, .inl (cI, 136, .inl (aI (cnt P))))] := hD
            refine lv_iload_n hx hb dX1_throwShells_114 rfl (lv_at hl 0 rfl) ?_
            exact hret (z25) (tu, 0, 1, m) _ _ _ _ _ _ dX1_throwShells_115 (by (try dsimp only); refine ⟨by omega, by omega, hz21, ?_⟩; unfold tsR; exact Or.inr (Or.inr ⟨by omega, by rw [← hz80, ← hz84]; omega, by omega, rfl, Or.inr ⟨by omega, rfl⟩, rfl, rfl⟩)) hP hD hS (Nat.le_of_ble_eq_true rfl) (Nat.le_of_ble_eq_true rfl)
          · refine lv_iload_n hx hb dX1_throwShells_90 rfl (lv_at hl 2 rfl) ?_
            refine r_callS (As := [.int (iI (m))]) (rest := []) S (c_X1_isGrace l D cI cL tw (m) (by omega)) gX1_throwShells_X1_isGrace rfl rfl rfl f_X1_isGrace hR (Nat.le_of_ble_eq_true rfl) (Nat.le_of_ble_eq_true rfl) (hE.kept hS.2.1) rfl hl.1 rfl (Nat.le_of_ble_eq_true rfl) dX1_throwShells_91 ⟨Nat.le_trans (Nat.le_of_ble_eq_true rfl) hRc.1, Nat.le_trans (Nat.le_of_ble_eq_true rfl) hRc.2⟩ (fun z91 hz91 => ?_)
            rcases hz91 with ⟨rfl, hz91⟩ | ⟨rfl, hz91⟩
            · exact absurd hz91 hz49
            · refine r_if_ne (tgt := 101) hx hb dX1_throwShells_94 (by decide) (by unfold rI; decide) (fun h9 => absurd h9 (by omega)) (fun h94 => ?_)
              refine lv_aload_n hx hb dX1_throwShells_97 rfl (lv_at hl 1 rfl) ?_
              refine r_callVv (As := []) (rest := []) (wr := []) S (c_X1_passTurn l D cI cL tw (y0) (y2) (b) (pq) (cq) (tu) (ph) (mo) (0) (P) (C) (hB) (by omega)) gX1_throwShells_X1_passTurn rfl rfl rfl ⟨rfl, f_X1_passTurn⟩ hR (Nat.le_of_ble_eq_true rfl) (Nat.le_of_ble_eq_true rfl) (hE.kept hS.2.1) hP hD hS hA [0, 1, 2, 3, 4] [] rfl rfl (by decide) rfl (by decide) (by decide) 0 rfl rfl rfl hl.1 rfl (Nat.le_of_ble_eq_true rfl) dX1_throwShells_98 ⟨Nat.le_trans (Nat.le_of_ble_eq_true rfl) hRc.1, Nat.le_trans (Nat.le_of_ble_eq_true rfl) hRc.2⟩ (fun u98 H locs hz98 hP hD hS => ?_)
              have hP : va_P D vwCl [(y0, .inr (1, [.ref b, .ref y2, .int (iI ((tu + 1) % 4)), .int (iI (0)), .int (iI (ph)), .int (iI (mo))])), (y2, .inl (cI, 4, .inl (aI C))), (b, .inr (0, [.ref pq, .ref cq])), (pq, .inl (cI, 16, .inl (aI P))), (cq, .inl (cI, 136, .inl (aI (cnt P))))] H := hP.sub [0, 1, 2, 3, 4] rfl
              have hD : va_D A [(y0, .inr (1, [.ref b, .ref y2, .int (iI ((tu + 1) % 4)), .int (iI (0)), .int (iI (ph)), .int (iI (mo))])), (y2, .inl (cI, 4, .inl (aI C))), (b, .inr (0, [.ref pq, .ref cq])), (pq, .inl (cI, 16, .inl (aI P))), (cq, .inl (cI, 136, .inl (aI (cnt P))))] := hD.sub [0, 1, 2, 3, 4] (by decide) rfl
              refine lv_iload_n hx hb dX1_throwShells_101 rfl (lv_at hl 0 rfl) ?_
              refine r_ineg hx hb dX1_throwShells_102 ?_
              exact hret (-(z25)) ((tu + 1) % 4, 0, ph, mo) _ _ _ _ _ _ dX1_throwShells_103 (by (try dsimp only); refine ⟨by omega, by omega, hz21, ?_⟩; unfold tsR; exact Or.inr (Or.inl ⟨by omega, by rw [← hz80, ← hz84]; omega, by omega, Or.inr ⟨by omega, rfl, rfl⟩, by omega, rfl⟩)) hP hD hS (Nat.le_of_ble_eq_true rfl) (Nat.le_of_ble_eq_true rfl)
    · exact hth "java/lang/IllegalArgumentException" "the mouths up are 0 to 6" 33 35 37 10 _ _ _ _ _ _ (Nat.le_of_ble_eq_true rfl) (Nat.le_of_ble_eq_true rfl) (by decide) mw_X1_throwShells_0 mw_X1_throwShells_1 (by decide +kernel) (fun w h => List.mem_cons_of_mem _ (List.mem_append_left _ (List.mem_append_right _ h))) xb_IllegalArgumentException xg_IllegalArgumentException dX1_throwShells_10 dX1_throwShells_13 dX1_throwShells_14 dX1_throwShells_16 dX1_throwShells_19 (by exact Or.inl ⟨rfl, by omega⟩) hN hl.1 (Nat.le_of_ble_eq_true rfl) (Nat.le_of_ble_eq_true rfl) (Nat.le_of_ble_eq_true rfl)

set_option maxRecDepth 20000 in
theorem mw_X1_move_0 : (.fieldLink RX1 10 "PachisiYard" "board" "LPachisiYard$Board;" : Cond) ∈ wsX1_move := by decide +kernel
set_option maxRecDepth 20000 in
theorem mu_X1_move_X1 : ∀ w ∈ wsX10, w ∈ wsX1_move := by decide +kernel
set_option maxRecDepth 20000 in
theorem mw_X1_move_2 : (.fieldLink RX1 20 "PachisiYard" "turn" "I" : Cond) ∈ wsX1_move := by decide +kernel
set_option maxRecDepth 20000 in
theorem mw_X1_move_3 : (.fieldLink RX1 30 "PachisiYard" "mouthsThrown" "I" : Cond) ∈ wsX1_move := by decide +kernel
set_option maxRecDepth 20000 in
theorem mw_X1_move_4 : (.classLink RX1 76 "java/lang/IllegalStateException" : Cond) ∈ wsX1_move := by decide +kernel
set_option maxRecDepth 20000 in
theorem mw_X1_move_5 : (.initialized "java/lang/IllegalStateException" : Cond) ∈ wsX1_move := by decide +kernel
theorem f_X1_move : yX1_move.cls ≠ "java/lang/invoke/MethodHandle" ∧ yX1_move.cls ≠ "java/lang/invoke/VarHandle" ∧ (parseMethodDescriptor yX1_move.desc).map (fun d => d.parameters.length) = some 1 := by decide +kernel
set_option maxHeartbeats 4000000 in
set_option maxRecDepth 100000 in
theorem c_X1_move (l : Launch) (hst : l.stackTraces = false) (D : va_G) (cI cL : ClassId) (tw : Nat) (y0 : Nat) (y2 : Nat) (b : Nat) (pq : Nat) (cq : Nat) (tu : Int) (ph : Int) (mo : Int) (gc : Int) (P : Int → Int) (C : Int → Int) (j : Int) (hB : ∀ i, 0 ≤ P i ∧ P i ≤ 72) (htu : 0 ≤ tu ∧ tu ≤ 3) (hgc : 0 ≤ gc ∧ gc ≤ 2) (hph : 0 ≤ ph ∧ ph ≤ 2) (hmo : 0 ≤ mo ∧ mo ≤ 6) (h_j : -2147483648 ≤ j ∧ j < 2147483648) : XWi l yX1_move wsX1_move { frames := 7, cells := 3, slots := 18, locals := 120 } D cI cL tw [.ref y0, .int (iI (j))] [(y0, .inr (1, [.ref b, .ref y2, .int (iI (tu)), .int (iI (gc)), .int (iI (ph)), .int (iI (mo))])), (y2, .inl (cI, 4, .inl (aI C))), (b, .inr (0, [.ref pq, .ref cq])), (pq, .inl (cI, 16, .inl (aI P))), (cq, .inl (cI, 136, .inl (aI (cnt P))))] (fun (z : Int) (u : Int × Int × Int × (Int → Int) × (Int → Int)) => 0 ≤ j ∧ j ≤ 3 ∧ ph = 1 ∧ mvR P C tu gc mo j z u.1 u.2.1 u.2.2.1 u.2.2.2.1 u.2.2.2.2) (fun u : Int × Int × Int × (Int → Int) × (Int → Int) => [(y0, .inr (1, [.ref b, .ref y2, .int (iI (u.1)), .int (iI (u.2.1)), .int (iI (u.2.2.1)), .int (iI (mo))])), (y2, .inl (cI, 4, .inl (aI (u.2.2.2.2)))), (b, .inr (0, [.ref pq, .ref cq])), (pq, .inl (cI, 16, .inl (aI (u.2.2.2.1)))), (cq, .inl (cI, 136, .inl (aI (cnt (u.2.2.2.1)))))]) (fun E : String => (E = "java/lang/IndexOutOfBoundsException" ∧ ¬ (0 ≤ j ∧ j ≤ 3)) ∨ (E = "java/lang/IllegalStateException" ∧ 0 ≤ j ∧ j ≤ 3 ∧ (ph ≠ 1 ∨ can P (4 * mv P tu + j) mo = 0))) 3 18 := by
  refine xwi_of (cc := cX1_move) (maxL := 5) hst (by decide) rfl rfl (Nat.le_of_ble_eq_true rfl) (Nat.le_of_ble_eq_true rfl) (Nat.le_of_ble_eq_true rfl) ?_
  intro p e R s mt args below meth c H0 Q ls A S hR hRc hE hP hD hA hN hl hret hxo hth
  have hS := hN.mono hA
  obtain ⟨hx, hb, hml, hown, hts⟩ := id S
  have hl : lv_has ls 5 [(0, .ref y0), (1, .int (iI (j)))] := hl
  refine lv_iload_n hx hb dX1_move_0 rfl (lv_at hl 1 rfl) ?_
  refine r_xcS (As := [.int (iI (j))]) (rest := []) S (c_X1_requirePiece l hst D cI cL tw (j) (by omega)) gX1_move_X1_requirePiece rfl rfl rfl f_X1_requirePiece hR (Nat.le_of_ble_eq_true rfl) (Nat.le_of_ble_eq_true rfl) (hE.kept hS.2.1) hP hN rfl hl.1 rfl (Nat.le_of_ble_eq_true rfl) dX1_move_1 ⟨Nat.le_trans (Nat.le_of_ble_eq_true rfl) hRc.1, Nat.le_trans (Nat.le_of_ble_eq_true rfl) hRc.2⟩ (fun E9 ce9 q9 H9 locs9 hx9 h91 h92 h93 hP9 hN9 => hxo E9 ce9 q9 _ _ _ _ _ _ _ (by rcases hx9 with ⟨h1, h2⟩; exact Or.inl ⟨h1, by omega⟩) h91 h92 h93 hN9 (Nat.le_of_ble_eq_true rfl) (Nat.le_of_ble_eq_true rfl)) (fun H locs hz1 hP hN => ?_)
  have hS := hN.mono hA
  refine lv_aload_n hx hb dX1_move_4 rfl (lv_at hl 0 rfl) ?_
  refine r_xcVv (As := []) (rest := []) S (c_X1_requireMoveDue l hst D cI cL tw (y0) (y2) (b) (pq) (cq) (tu) (ph) (mo) (gc) (P) (C) (hB) (by omega)) gX1_move_X1_requireMoveDue rfl rfl rfl ⟨rfl, f_X1_requireMoveDue⟩ hR (Nat.le_of_ble_eq_true rfl) (Nat.le_of_ble_eq_true rfl) (hE.kept hS.2.1) hP hN [0, 1, 2, 3, 4] rfl 0 rfl rfl rfl hl.1 rfl (Nat.le_of_ble_eq_true rfl) dX1_move_5 ⟨Nat.le_trans (Nat.le_of_ble_eq_true rfl) hRc.1, Nat.le_trans (Nat.le_of_ble_eq_true rfl) hRc.2⟩ (fun E9 ce9 q9 H9 locs9 hx9 h91 h92 h93 hP9 hN9 => hxo E9 ce9 q9 _ _ _ _ _ _ _ (by rcases hx9 with ⟨h1, h2⟩; exact Or.inr ⟨h1, by omega, by omega, Or.inl h2⟩) h91 h92 h93 hN9 (Nat.le_of_ble_eq_true rfl) (Nat.le_of_ble_eq_true rfl)) (fun H locs hz5 hP hN => ?_)
  have hS := hN.mono hA
  refine lv_aload_n hx hb dX1_move_8 rfl (lv_at hl 0 rfl) ?_
  refine va_get (D := D) (ci := 1) (v := .ref b) (C := RX1) (T := TX1) (N := 6) hx hb hts mu_X1_move_X1 hown hE.1 hP 0 rfl rfl 0 (by decide) (hts _ mw_X1_move_0) (fun _ h9 => h9) rfl dX1_move_9 ?_
  refine lv_aload_n hx hb dX1_move_12 rfl (lv_at hl 0 rfl) ?_
  refine va_get (D := D) (ci := 1) (v := .int (iI (tu))) (C := RX1) (T := TX1) (N := 6) hx hb hts mu_X1_move_X1 hown hE.1 hP 0 rfl rfl 2 (by decide) (hts _ mw_X1_move_2) (fun _ h9 => h9) rfl dX1_move_13 ?_
  refine r_callV (As := [.int (iI (tu))]) (rest := []) S (c_X0_moverFor l D cI cL tw (b) (pq) (cq) (P) (tu) (hB) (by omega)) gX1_move_X0_moverFor rfl rfl rfl ⟨rfl, f_X0_moverFor⟩ hR (Nat.le_of_ble_eq_true rfl) (Nat.le_of_ble_eq_true rfl) (hE.kept hS.2.1) hP [2, 3, 4] rfl 0 rfl rfl rfl hl.1 rfl (Nat.le_of_ble_eq_true rfl) dX1_move_16 ⟨Nat.le_trans (Nat.le_of_ble_eq_true rfl) hRc.1, Nat.le_trans (Nat.le_of_ble_eq_true rfl) hRc.2⟩ (fun z16 hz16 => ?_)
  obtain ⟨hz16, rz16⟩ := hz16
  refine lv_istore_n (lv' := [(2, .int (iI (z16))), (0, .ref y0), (1, .int (iI (j)))]) hx hb dX1_move_19 rfl hl (by decide) rfl (fun ls hl => ?_)
  refine lv_aload_n hx hb dX1_move_20 rfl (lv_at hl 1 rfl) ?_
  refine va_get (D := D) (ci := 1) (v := .ref b) (C := RX1) (T := TX1) (N := 6) hx hb hts mu_X1_move_X1 hown hE.1 hP 0 rfl rfl 0 (by decide) (hts _ mw_X1_move_0) (fun _ h9 => h9) rfl dX1_move_21 ?_
  refine lv_iload_n hx hb dX1_move_24 rfl (lv_at hl 0 rfl) ?_
  refine lv_iload_n hx hb dX1_move_25 rfl (lv_at hl 2 rfl) ?_
  refine lv_aload_n hx hb dX1_move_26 rfl (lv_at hl 1 rfl) ?_
  refine va_get (D := D) (ci := 1) (v := .int (iI (mo))) (C := RX1) (T := TX1) (N := 6) hx hb hts mu_X1_move_X1 hown hE.1 hP 0 rfl rfl 5 (by decide) (hts _ mw_X1_move_3) (fun _ h9 => h9) rfl dX1_move_27 ?_
  refine r_callV (As := [.int (iI (z16)), .int (iI (j)), .int (iI (mo))]) (rest := []) S (c_X0_targetOf l D cI cL tw (b) (pq) (cq) (P) (z16) (j) (mo) (hB) (by omega) (by omega) (by omega)) gX1_move_X0_targetOf rfl rfl rfl ⟨rfl, f_X0_targetOf⟩ hR (Nat.le_of_ble_eq_true rfl) (Nat.le_of_ble_eq_true rfl) (hE.kept hS.2.1) hP [2, 3, 4] rfl 0 rfl rfl rfl hl.1 rfl (Nat.le_of_ble_eq_true rfl) dX1_move_30 ⟨Nat.le_trans (Nat.le_of_ble_eq_true rfl) hRc.1, Nat.le_trans (Nat.le_of_ble_eq_true rfl) hRc.2⟩ (fun z30 hz30 => ?_)
  obtain ⟨hz30, rz30⟩ := hz30
  refine lv_istore_n (lv' := [(3, .int (iI (z30))), (2, .int (iI (z16))), (0, .ref y0), (1, .int (iI (j)))]) hx hb dX1_move_33 rfl hl (by decide) rfl (fun ls hl => ?_)
  refine lv_iload_n hx hb dX1_move_34 rfl (lv_at hl 0 rfl) ?_
  refine r_iconst hx hb dX1_move_35 ?_
  refine r_icmp_ne (tgt := 49) hx hb dX1_move_36 (by decide) (by unfold rI; omega) (by unfold rI; decide) (fun h36 => ?_) (fun h36 => ?_)
  · refine lv_aload_n hx hb dX1_move_49 rfl (lv_at hl 2 rfl) ?_
    refine va_get (D := D) (ci := 1) (v := .ref b) (C := RX1) (T := TX1) (N := 6) hx hb hts mu_X1_move_X1 hown hE.1 hP 0 rfl rfl 0 (by decide) (hts _ mw_X1_move_0) (fun _ h9 => h9) rfl dX1_move_50 ?_
    refine lv_iload_n hx hb dX1_move_53 rfl (lv_at hl 1 rfl) ?_
    refine lv_iload_n hx hb dX1_move_54 rfl (lv_at hl 0 rfl) ?_
    refine r_callV (As := [.int (iI (z16)), .int (iI (z30))]) (rest := []) S (c_X0_isCapture l D cI cL tw (b) (pq) (cq) (P) (z16) (z30) (hB) (by omega) (by omega)) gX1_move_X0_isCapture rfl rfl rfl ⟨rfl, f_X0_isCapture⟩ hR (Nat.le_of_ble_eq_true rfl) (Nat.le_of_ble_eq_true rfl) (hE.kept hS.2.1) hP [2, 3, 4] rfl 0 rfl rfl rfl hl.1 rfl (Nat.le_of_ble_eq_true rfl) dX1_move_55 ⟨Nat.le_trans (Nat.le_of_ble_eq_true rfl) hRc.1, Nat.le_trans (Nat.le_of_ble_eq_true rfl) hRc.2⟩ (fun z55 hz55 => ?_)
    rcases hz55 with ⟨rfl, hz55⟩ | ⟨rfl, hz55⟩
    · refine lv_istore (lv' := [(4, .int (iI (1))), (3, .int (iI (z30))), (2, .int (iI (z16))), (0, .ref y0), (1, .int (iI (j)))]) hx hb dX1_move_58 hl (by decide) rfl (fun ls hl => ?_)
      refine lv_iload hx hb dX1_move_60 (lv_at hl 0 rfl) ?_
      refine r_if_eq (tgt := 93) hx hb dX1_move_62 (by decide) (by unfold rI; decide) (fun h9 => absurd h9 (by omega)) (fun h62 => ?_)
      refine lv_aload_n hx hb dX1_move_65 rfl (lv_at hl 3 rfl) ?_
      refine va_get (D := D) (ci := 1) (v := .ref b) (C := RX1) (T := TX1) (N := 6) hx hb hts mu_X1_move_X1 hown hE.1 hP 0 rfl rfl 0 (by decide) (hts _ mw_X1_move_0) (fun _ h9 => h9) rfl dX1_move_66 ?_
      refine lv_iload_n hx hb dX1_move_69 rfl (lv_at hl 2 rfl) ?_
      refine r_callS (As := [.int (iI (z16))]) (rest := [.ref b]) S (c_X1_otherTeam l D cI cL tw (z16) (by omega)) gX1_move_X1_otherTeam rfl rfl rfl f_X1_otherTeam hR (Nat.le_of_ble_eq_true rfl) (Nat.le_of_ble_eq_true rfl) (hE.kept hS.2.1) rfl hl.1 rfl (Nat.le_of_ble_eq_true rfl) dX1_move_70 ⟨Nat.le_trans (Nat.le_of_ble_eq_true rfl) hRc.1, Nat.le_trans (Nat.le_of_ble_eq_true rfl) hRc.2⟩ (fun z70 hz70 => ?_)
      obtain ⟨hz70, rz70⟩ := hz70
      refine lv_aload_n hx hb dX1_move_73 rfl (lv_at hl 3 rfl) ?_
      refine va_get (D := D) (ci := 1) (v := .ref b) (C := RX1) (T := TX1) (N := 6) hx hb hts mu_X1_move_X1 hown hE.1 hP 0 rfl rfl 0 (by decide) (hts _ mw_X1_move_0) (fun _ h9 => h9) rfl dX1_move_74 ?_
      refine lv_iload_n hx hb dX1_move_77 rfl (lv_at hl 2 rfl) ?_
      refine lv_iload_n hx hb dX1_move_78 rfl (lv_at hl 1 rfl) ?_
      refine r_callV (As := [.int (iI (z16)), .int (iI (z30))]) (rest := [.int (iI (z70)), .ref b]) S (c_X0_squareAt l D cI cL tw (b) (pq) (cq) (z16) (z30) (by omega) (by omega)) gX1_move_X0_squareAt rfl rfl rfl ⟨rfl, f_X0_squareAt⟩ hR (Nat.le_of_ble_eq_true rfl) (Nat.le_of_ble_eq_true rfl) (hE.kept hS.2.1) hP [2] rfl 0 rfl rfl rfl hl.1 rfl (Nat.le_of_ble_eq_true rfl) dX1_move_79 ⟨Nat.le_trans (Nat.le_of_ble_eq_true rfl) hRc.1, Nat.le_trans (Nat.le_of_ble_eq_true rfl) hRc.2⟩ (fun z79 hz79 => ?_)
      obtain ⟨hz79, rz79⟩ := hz79
      refine r_callVv (As := [.int (iI (z70)), .int (iI (z79))]) (rest := []) (wr := [(y0, .inr (1, [.ref b, .ref y2, .int (iI (tu)), .int (iI (gc)), .int (iI (ph)), .int (iI (mo))])), (y2, .inl (cI, 4, .inl (aI C)))]) S (c_X0_sendToYard l D cI cL tw (b) (pq) (cq) (P) (z70) (z79) (hB) (by omega) (by have q1 := (stA_on hz55).1; have q2 := sq_rng z16 z30; omega)) gX1_move_X0_sendToYard rfl rfl rfl ⟨rfl, f_X0_sendToYard⟩ hR (Nat.le_of_ble_eq_true rfl) (Nat.le_of_ble_eq_true rfl) (hE.kept hS.2.1) hP hD hS hA [2, 3, 4] [0, 1] rfl rfl (by decide) rfl (by decide) (by decide) 0 rfl rfl rfl hl.1 rfl (Nat.le_of_ble_eq_true rfl) dX1_move_82 ⟨Nat.le_trans (Nat.le_of_ble_eq_true rfl) hRc.1, Nat.le_trans (Nat.le_of_ble_eq_true rfl) hRc.2⟩ (fun u82 H locs hz82 hP hD hS => ?_)
      have hP : va_P D vwCl [(y0, .inr (1, [.ref b, .ref y2, .int (iI (tu)), .int (iI (gc)), .int (iI (ph)), .int (iI (mo))])), (y2, .inl (cI, 4, .inl (aI C))), (b, .inr (0, [.ref pq, .ref cq])), (pq, .inl (cI, 16, .inl (aI (syP P (z79) (z70) 16)))), (cq, .inl (cI, 136, .inl (aI (cnt (syP P (z79) (z70) 16)))))] H := hP.sub [0, 1, 2, 3, 4] rfl
      have hD : va_D A [(y0, .inr (1, [.ref b, .ref y2, .int (iI (tu)), .int (iI (gc)), .int (iI (ph)), .int (iI (mo))])), (y2, .inl (cI, 4, .inl (aI C))), (b, .inr (0, [.ref pq, .ref cq])), (pq, .inl (cI, 16, .inl (aI (syP P (z79) (z70) 16)))), (cq, .inl (cI, 136, .inl (aI (cnt (syP P (z79) (z70) 16)))))] := hD.sub [0, 1, 2, 3, 4] (by decide) rfl
      refine lv_aload_n hx hb dX1_move_85 rfl (lv_at hl 3 rfl) ?_
      refine lv_aload_n hx hb dX1_move_86 rfl (lv_at hl 3 rfl) ?_
      refine va_get (D := D) (ci := 1) (v := .int (iI (tu))) (C := RX1) (T := TX1) (N := 6) hx hb hts mu_X1_move_X1 hown hE.1 hP 0 rfl rfl 2 (by decide) (hts _ mw_X1_move_2) (fun _ h9 => h9) rfl dX1_move_87 ?_
      refine r_callVv (As := [.int (iI (tu))]) (rest := []) (wr := []) S (c_X1_countCapture l D cI cL tw (y0) (y2) (b) (pq) (cq) (tu) (ph) (mo) (gc) ((syP P (z79) (z70) 16)) (C) (tu) (syP_rng hB) (by omega)) gX1_move_X1_countCapture rfl rfl rfl ⟨rfl, f_X1_countCapture⟩ hR (Nat.le_of_ble_eq_true rfl) (Nat.le_of_ble_eq_true rfl) (hE.kept hS.2.1) hP hD hS hA [0, 1, 2, 3, 4] [] rfl rfl (by decide) rfl (by decide) (by decide) 0 rfl rfl rfl hl.1 rfl (Nat.le_of_ble_eq_true rfl) dX1_move_90 ⟨Nat.le_trans (Nat.le_of_ble_eq_true rfl) hRc.1, Nat.le_trans (Nat.le_of_ble_eq_true rfl) hRc.2⟩ (fun u90 H locs hz90 hP hD hS => ?_)
      have hP : va_P D vwCl [(y0, .inr (1, [.ref b, .ref y2, .int (iI (tu)), .int (iI (gc)), .int (iI (ph)), .int (iI (mo))])), (y2, .inl (cI, 4, .inl (aI (uI C (tu) (C (tu) + 1))))), (b, .inr (0, [.ref pq, .ref cq])), (pq, .inl (cI, 16, .inl (aI (syP P (z79) (z70) 16)))), (cq, .inl (cI, 136, .inl (aI (cnt (syP P (z79) (z70) 16)))))] H := hP.sub [0, 1, 2, 3, 4] rfl
      have hD : va_D A [(y0, .inr (1, [.ref b, .ref y2, .int (iI (tu)), .int (iI (gc)), .int (iI (ph)), .int (iI (mo))])), (y2, .inl (cI, 4, .inl (aI (uI C (tu) (C (tu) + 1))))), (b, .inr (0, [.ref pq, .ref cq])), (pq, .inl (cI, 16, .inl (aI (syP P (z79) (z70) 16)))), (cq, .inl (cI, 136, .inl (aI (cnt (syP P (z79) (z70) 16)))))] := hD.sub [0, 1, 2, 3, 4] (by decide) rfl
      refine lv_aload_n hx hb dX1_move_93 rfl (lv_at hl 3 rfl) ?_
      refine va_get (D := D) (ci := 1) (v := .ref b) (C := RX1) (T := TX1) (N := 6) hx hb hts mu_X1_move_X1 hown hE.1 hP 0 rfl rfl 0 (by decide) (hts _ mw_X1_move_0) (fun _ h9 => h9) rfl dX1_move_94 ?_
      refine lv_iload_n hx hb dX1_move_97 rfl (lv_at hl 2 rfl) ?_
      refine lv_iload_n hx hb dX1_move_98 rfl (lv_at hl 4 rfl) ?_
      refine lv_iload_n hx hb dX1_move_99 rfl (lv_at hl 1 rfl) ?_
      refine r_callVv (As := [.int (iI (z16)), .int (iI (j)), .int (iI (z30))]) (rest := []) (wr := [(y0, .inr (1, [.ref b, .ref y2, .int (iI (tu)), .int (iI (gc)), .int (iI (ph)), .int (iI (mo))])), (y2, .inl (cI, 4, .inl (aI (uI C (tu) (C (tu) + 1)))))]) S (c_X0_place l D cI cL tw (b) (pq) (cq) ((syP P (z79) (z70) 16)) (z16) (j) (z30) (by first | exact hB | exact syP_rng hB) (by omega) (by omega) (by omega)) gX1_move_X0_place rfl rfl rfl ⟨rfl, f_X0_place⟩ hR (Nat.le_of_ble_eq_true rfl) (Nat.le_of_ble_eq_true rfl) (hE.kept hS.2.1) hP hD hS hA [2, 3, 4] [0, 1] rfl rfl (by decide) rfl (by decide) (by decide) 0 rfl rfl rfl hl.1 rfl (Nat.le_of_ble_eq_true rfl) dX1_move_100 ⟨Nat.le_trans (Nat.le_of_ble_eq_true rfl) hRc.1, Nat.le_trans (Nat.le_of_ble_eq_true rfl) hRc.2⟩ (fun u100 H locs hz100 hP hD hS => ?_)
      have hP : va_P D vwCl [(y0, .inr (1, [.ref b, .ref y2, .int (iI (tu)), .int (iI (gc)), .int (iI (ph)), .int (iI (mo))])), (y2, .inl (cI, 4, .inl (aI (uI C (tu) (C (tu) + 1))))), (b, .inr (0, [.ref pq, .ref cq])), (pq, .inl (cI, 16, .inl (aI (uI (syP P (z79) (z70) 16) (4 * (z16) + (j)) (z30))))), (cq, .inl (cI, 136, .inl (aI (cnt (uI (syP P (z79) (z70) 16) (4 * (z16) + (j)) (z30))))))] H := hP.sub [0, 1, 2, 3, 4] rfl
      have hD : va_D A [(y0, .inr (1, [.ref b, .ref y2, .int (iI (tu)), .int (iI (gc)), .int (iI (ph)), .int (iI (mo))])), (y2, .inl (cI, 4, .inl (aI (uI C (tu) (C (tu) + 1))))), (b, .inr (0, [.ref pq, .ref cq])), (pq, .inl (cI, 16, .inl (aI (uI (syP P (z79) (z70) 16) (4 * (z16) + (j)) (z30))))), (cq, .inl (cI, 136, .inl (aI (cnt (uI (syP P (z79) (z70) 16) (4 * (z16) + (j)) (z30))))))] := hD.sub [0, 1, 2, 3, 4] (by decide) rfl
      refine lv_aload_n hx hb dX1_move_103 rfl (lv_at hl 3 rfl) ?_
      refine lv_iload hx hb dX1_move_104 (lv_at hl 0 rfl) ?_
      refine r_callVv (As := [.int (iI (1))]) (rest := []) (wr := []) S (c_X1_endMove l D cI cL tw (y0) (y2) (b) (pq) (cq) (tu) (ph) (mo) (gc) ((uI (syP P (z79) (z70) 16) (4 * (z16) + (j)) (z30))) ((uI C (tu) (C (tu) + 1))) (1) (uI_rng (by first | exact hB | exact syP_rng hB) (by omega)) (by omega) (by omega) (by omega) (by omega) (by omega)) gX1_move_X1_endMove rfl rfl rfl ⟨rfl, f_X1_endMove⟩ hR (Nat.le_of_ble_eq_true rfl) (Nat.le_of_ble_eq_true rfl) (hE.kept hS.2.1) hP hD hS hA [0, 1, 2, 3, 4] [] rfl rfl (by decide) rfl (by decide) (by decide) 0 rfl rfl rfl hl.1 rfl (Nat.le_of_ble_eq_true rfl) dX1_move_106 ⟨Nat.le_trans (Nat.le_of_ble_eq_true rfl) hRc.1, Nat.le_trans (Nat.le_of_ble_eq_true rfl) hRc.2⟩ (fun u106 H locs hz106 hP hD hS => ?_)
      obtain ⟨u106a, u106b, u106c⟩ := u106
      dsimp only at hz106
      have hP : va_P D vwCl [(y0, .inr (1, [.ref b, .ref y2, .int (iI (u106a)), .int (iI (u106b)), .int (iI (u106c)), .int (iI (mo))])), (y2, .inl (cI, 4, .inl (aI (uI C (tu) (C (tu) + 1))))), (b, .inr (0, [.ref pq, .ref cq])), (pq, .inl (cI, 16, .inl (aI (uI (syP P (z79) (z70) 16) (4 * (z16) + (j)) (z30))))), (cq, .inl (cI, 136, .inl (aI (cnt (uI (syP P (z79) (z70) 16) (4 * (z16) + (j)) (z30))))))] H := hP.sub [0, 1, 2, 3, 4] rfl
      have hD : va_D A [(y0, .inr (1, [.ref b, .ref y2, .int (iI (u106a)), .int (iI (u106b)), .int (iI (u106c)), .int (iI (mo))])), (y2, .inl (cI, 4, .inl (aI (uI C (tu) (C (tu) + 1))))), (b, .inr (0, [.ref pq, .ref cq])), (pq, .inl (cI, 16, .inl (aI (uI (syP P (z79) (z70) 16) (4 * (z16) + (j)) (z30))))), (cq, .inl (cI, 136, .inl (aI (cnt (uI (syP P (z79) (z70) 16) (4 * (z16) + (j)) (z30))))))] := hD.sub [0, 1, 2, 3, 4] (by decide) rfl
      refine lv_iload hx hb dX1_move_109 (lv_at hl 0 rfl) ?_
      refine r_if_eq (tgt := 121) hx hb dX1_move_111 (by decide) (by unfold rI; decide) (fun h9 => absurd h9 (by omega)) (fun h111 => ?_)
      refine lv_iload_n hx hb dX1_move_114 rfl (lv_at hl 1 rfl) ?_
      refine r_bipush hx hb dX1_move_115 (by decide) ?_
      refine r_iadd hx hb dX1_move_117 ?_
      refine lv_goto (tgt := 122) hx hb dX1_move_118 (by decide) ?_
      exact hret ((z30) + (100)) (u106a, u106b, u106c, (uI (syP P (z79) (z70) 16) (4 * (z16) + (j)) (z30)), (uI C (tu) (C (tu) + 1))) _ _ _ _ _ _ dX1_move_122 (by (try dsimp only); have q1 := tX_can (P := P) (k := 4 * z16 + j) (m := mo) (by rw [← hz30]; omega); have q2 := can_two hmo q1.1; rw [show (4 * z16 + j) / 4 = z16 by omega, ← q1.2, ← hz30] at q2; have q3 : can P (4 * z16 + j) mo = 2 := q2.mpr hz55; have em : mvP P (4 * z16 + j) mo = (uI (syP P (z79) (z70) 16) (4 * (z16) + (j)) (z30)) := (by rw [hz70]; exact mvP_c q3 (by omega) (hz30.trans q1.2) (hz79.trans (stA_on hz55).1)); refine ⟨by omega, by omega, hz5, ?_⟩; unfold mvR; rw [← hz16, em]; refine ⟨q1.1, rfl, by rw [if_pos q3], by rw [if_pos q3, ← q1.2]; omega, ?_⟩; rcases hz106 with ⟨r1, r2, r3, r4⟩ | ⟨r1, r2, ⟨_, r4, r5⟩ | ⟨r3, _⟩⟩; (exact Or.inl ⟨r1, r2, r3, r4⟩); (exact Or.inr ⟨r1, r2, Or.inl ⟨Or.inl q3, r4, r5⟩⟩); exact absurd r3 (by decide)) hP hD hS (Nat.le_of_ble_eq_true rfl) (Nat.le_of_ble_eq_true rfl)
    · refine lv_istore (lv' := [(4, .int (iI (0))), (3, .int (iI (z30))), (2, .int (iI (z16))), (0, .ref y0), (1, .int (iI (j)))]) hx hb dX1_move_58 hl (by decide) rfl (fun ls hl => ?_)
      refine lv_iload hx hb dX1_move_60 (lv_at hl 0 rfl) ?_
      refine r_if_eq (tgt := 93) hx hb dX1_move_62 (by decide) (by unfold rI; decide) (fun h62 => ?_) (fun h9 => absurd h9 (by omega))
      refine lv_aload_n hx hb dX1_move_93 rfl (lv_at hl 3 rfl) ?_
      refine va_get (D := D) (ci := 1) (v := .ref b) (C := RX1) (T := TX1) (N := 6) hx hb hts mu_X1_move_X1 hown hE.1 hP 0 rfl rfl 0 (by decide) (hts _ mw_X1_move_0) (fun _ h9 => h9) rfl dX1_move_94 ?_
      refine lv_iload_n hx hb dX1_move_97 rfl (lv_at hl 2 rfl) ?_
      refine lv_iload_n hx hb dX1_move_98 rfl (lv_at hl 4 rfl) ?_
      refine lv_iload_n hx hb dX1_move_99 rfl (lv_at hl 1 rfl) ?_
      refine r_callVv (As := [.int (iI (z16)), .int (iI (j)), .int (iI (z30))]) (rest := []) (wr := [(y0, .inr (1, [.ref b, .ref y2, .int (iI (tu)), .int (iI (gc)), .int (iI (ph)), .int (iI (mo))])), (y2, .inl (cI, 4, .inl (aI C)))]) S (c_X0_place l D cI cL tw (b) (pq) (cq) (P) (z16) (j) (z30) (by first | exact hB | exact syP_rng hB) (by omega) (by omega) (by omega)) gX1_move_X0_place rfl rfl rfl ⟨rfl, f_X0_place⟩ hR (Nat.le_of_ble_eq_true rfl) (Nat.le_of_ble_eq_true rfl) (hE.kept hS.2.1) hP hD hS hA [2, 3, 4] [0, 1] rfl rfl (by decide) rfl (by decide) (by decide) 0 rfl rfl rfl hl.1 rfl (Nat.le_of_ble_eq_true rfl) dX1_move_100 ⟨Nat.le_trans (Nat.le_of_ble_eq_true rfl) hRc.1, Nat.le_trans (Nat.le_of_ble_eq_true rfl) hRc.2⟩ (fun u100 H locs hz100 hP hD hS => ?_)
      have hP : va_P D vwCl [(y0, .inr (1, [.ref b, .ref y2, .int (iI (tu)), .int (iI (gc)), .int (iI (ph)), .int (iI (mo))])), (y2, .inl (cI, 4, .inl (aI C))), (b, .inr (0, [.ref pq, .ref cq])), (pq, .inl (cI, 16, .inl (aI (uI P (4 * (z16) + (j)) (z30))))), (cq, .inl (cI, 136, .inl (aI (cnt (uI P (4 * (z16) + (j)) (z30))))))] H := hP.sub [0, 1, 2, 3, 4] rfl
      have hD : va_D A [(y0, .inr (1, [.ref b, .ref y2, .int (iI (tu)), .int (iI (gc)), .int (iI (ph)), .int (iI (mo))])), (y2, .inl (cI, 4, .inl (aI C))), (b, .inr (0, [.ref pq, .ref cq])), (pq, .inl (cI, 16, .inl (aI (uI P (4 * (z16) + (j)) (z30))))), (cq, .inl (cI, 136, .inl (aI (cnt (uI P (4 * (z16) + (j)) (z30))))))] := hD.sub [0, 1, 2, 3, 4] (by decide) rfl
      refine lv_aload_n hx hb dX1_move_103 rfl (lv_at hl 3 rfl) ?_
      refine lv_iload hx hb dX1_move_104 (lv_at hl 0 rfl) ?_
      refine r_callVv (As := [.int (iI (0))]) (rest := []) (wr := []) S (c_X1_endMove l D cI cL tw (y0) (y2) (b) (pq) (cq) (tu) (ph) (mo) (gc) ((uI P (4 * (z16) + (j)) (z30))) (C) (0) (uI_rng (by first | exact hB | exact syP_rng hB) (by omega)) (by omega) (by omega) (by omega) (by omega) (by omega)) gX1_move_X1_endMove rfl rfl rfl ⟨rfl, f_X1_endMove⟩ hR (Nat.le_of_ble_eq_true rfl) (Nat.le_of_ble_eq_true rfl) (hE.kept hS.2.1) hP hD hS hA [0, 1, 2, 3, 4] [] rfl rfl (by decide) rfl (by decide) (by decide) 0 rfl rfl rfl hl.1 rfl (Nat.le_of_ble_eq_true rfl) dX1_move_106 ⟨Nat.le_trans (Nat.le_of_ble_eq_true rfl) hRc.1, Nat.le_trans (Nat.le_of_ble_eq_true rfl) hRc.2⟩ (fun u106 H locs hz106 hP hD hS => ?_)
      obtain ⟨u106a, u106b, u106c⟩ := u106
      dsimp only at hz106
      have hP : va_P D vwCl [(y0, .inr (1, [.ref b, .ref y2, .int (iI (u106a)), .int (iI (u106b)), .int (iI (u106c)), .int (iI (mo))])), (y2, .inl (cI, 4, .inl (aI C))), (b, .inr (0, [.ref pq, .ref cq])), (pq, .inl (cI, 16, .inl (aI (uI P (4 * (z16) + (j)) (z30))))), (cq, .inl (cI, 136, .inl (aI (cnt (uI P (4 * (z16) + (j)) (z30))))))] H := hP.sub [0, 1, 2, 3, 4] rfl
      have hD : va_D A [(y0, .inr (1, [.ref b, .ref y2, .int (iI (u106a)), .int (iI (u106b)), .int (iI (u106c)), .int (iI (mo))])), (y2, .inl (cI, 4, .inl (aI C))), (b, .inr (0, [.ref pq, .ref cq])), (pq, .inl (cI, 16, .inl (aI (uI P (4 * (z16) + (j)) (z30))))), (cq, .inl (cI, 136, .inl (aI (cnt (uI P (4 * (z16) + (j)) (z30))))))] := hD.sub [0, 1, 2, 3, 4] (by decide) rfl
      refine lv_iload hx hb dX1_move_109 (lv_at hl 0 rfl) ?_
      refine r_if_eq (tgt := 121) hx hb dX1_move_111 (by decide) (by unfold rI; decide) (fun h111 => ?_) (fun h9 => absurd h9 (by omega))
      refine lv_iload_n hx hb dX1_move_121 rfl (lv_at hl 1 rfl) ?_
      exact hret (z30) (u106a, u106b, u106c, (uI P (4 * (z16) + (j)) (z30)), C) _ _ _ _ _ _ dX1_move_122 (by (try dsimp only); have q1 := tX_can (P := P) (k := 4 * z16 + j) (m := mo) (by rw [← hz30]; omega); have q2 := can_two hmo q1.1; rw [show (4 * z16 + j) / 4 = z16 by omega, ← q1.2, ← hz30] at q2; have q3 : ¬ can P (4 * z16 + j) mo = 2 := fun h => hz55 (q2.mp h); have em : mvP P (4 * z16 + j) mo = (uI P (4 * (z16) + (j)) (z30)) := mvP_n q3 (hz30.trans q1.2); refine ⟨by omega, by omega, hz5, ?_⟩; unfold mvR; rw [← hz16, em]; refine ⟨q1.1, rfl, by rw [if_neg q3], by rw [if_neg q3, ← q1.2]; omega, ?_⟩; rcases hz106 with ⟨r1, r2, r3, r4⟩ | ⟨r1, r2, ⟨r3, r4, r5⟩ | ⟨_, r4, r5⟩⟩; (exact Or.inl ⟨r1, r2, r3, r4⟩); (exact Or.inr ⟨r1, r2, Or.inl ⟨Or.inr (by omega), r4, r5⟩⟩); exact Or.inr ⟨r1, r2, Or.inr ⟨q3, r4, r5⟩⟩) hP hD hS (Nat.le_of_ble_eq_true rfl) (Nat.le_of_ble_eq_true rfl)
  · exact hth "java/lang/IllegalStateException" "the piece cannot move by the throw" 76 78 80 39 _ _ _ _ _ _ (Nat.le_of_ble_eq_true rfl) (Nat.le_of_ble_eq_true rfl) (by decide) mw_X1_move_4 mw_X1_move_5 (by decide +kernel) (fun w h => List.mem_cons_of_mem _ (List.mem_append_left _ (List.mem_append_right _ h))) xb_IllegalStateException xg_IllegalStateException dX1_move_39 dX1_move_42 dX1_move_43 dX1_move_45 dX1_move_48 (by exact Or.inr ⟨rfl, by omega, by omega, Or.inr (by rw [← hz16]; exact tX_no hB hmo (by rw [← hz30]; omega))⟩) hN hl.1 (Nat.le_of_ble_eq_true rfl) (Nat.le_of_ble_eq_true rfl) (Nat.le_of_ble_eq_true rfl)
