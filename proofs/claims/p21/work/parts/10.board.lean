theorem f_X1_teamOf : yX1_teamOf.cls ≠ "java/lang/invoke/MethodHandle" ∧ yX1_teamOf.cls ≠ "java/lang/invoke/VarHandle" ∧ (parseMethodDescriptor yX1_teamOf.desc).map (fun d => d.parameters.length) = some 1 := by decide +kernel
set_option maxHeartbeats 4000000 in
set_option maxRecDepth 100000 in
theorem c_X1_teamOf (l : Launch) (D : va_G) (cI cL : ClassId) (tw : Nat) (a : Int) (ha : 0 ≤ a ∧ a ≤ 3) : RO l yX1_teamOf wsX1_teamOf { frames := 0, cells := 0, slots := 0, locals := 0 } D cI cL tw [.int (iI (a))] [] (fun z : Int => z = a % 2 ∧ 0 ≤ z ∧ z ≤ 1) := by
  refine ro_of (cc := cX1_teamOf) (maxL := 1) (rt := .int) (own := RX1) (by decide) rfl rfl (Or.inl rfl) (Nat.le_of_ble_eq_true rfl) ?_
  intro p e R s mt args below meth c H Q ls S hR hE hP hl hret
  obtain ⟨hx, hb, hml, hown, hts⟩ := id S
  have hl : lv_has ls 1 [(0, .int (iI (a)))] := hl
  refine lv_iload_n hx hb dX1_teamOf_0 rfl (lv_at hl 0 rfl) ?_
  refine r_iconst hx hb dX1_teamOf_1 ?_
  refine r_irem hx hb dX1_teamOf_2 (by omega) (by omega) ?_
  exact hret ((a) % (2)) _ _ dX1_teamOf_3 (by omega)

theorem f_X1_otherTeam : yX1_otherTeam.cls ≠ "java/lang/invoke/MethodHandle" ∧ yX1_otherTeam.cls ≠ "java/lang/invoke/VarHandle" ∧ (parseMethodDescriptor yX1_otherTeam.desc).map (fun d => d.parameters.length) = some 1 := by decide +kernel
set_option maxHeartbeats 4000000 in
set_option maxRecDepth 100000 in
theorem c_X1_otherTeam (l : Launch) (D : va_G) (cI cL : ClassId) (tw : Nat) (a : Int) (ha : 0 ≤ a ∧ a ≤ 3) : RO l yX1_otherTeam wsX1_otherTeam { frames := 0, cells := 0, slots := 0, locals := 0 } D cI cL tw [.int (iI (a))] [] (fun z : Int => z = 1 - a % 2 ∧ 0 ≤ z ∧ z ≤ 1) := by
  refine ro_of (cc := cX1_otherTeam) (maxL := 1) (rt := .int) (own := RX1) (by decide) rfl rfl (Or.inl rfl) (Nat.le_of_ble_eq_true rfl) ?_
  intro p e R s mt args below meth c H Q ls S hR hE hP hl hret
  obtain ⟨hx, hb, hml, hown, hts⟩ := id S
  have hl : lv_has ls 1 [(0, .int (iI (a)))] := hl
  refine r_iconst hx hb dX1_otherTeam_0 ?_
  refine lv_iload_n hx hb dX1_otherTeam_1 rfl (lv_at hl 0 rfl) ?_
  refine r_iconst hx hb dX1_otherTeam_2 ?_
  refine r_irem hx hb dX1_otherTeam_3 (by omega) (by omega) ?_
  refine r_isub hx hb dX1_otherTeam_4 ?_
  exact hret ((1) - ((a) % (2))) _ _ dX1_otherTeam_5 (by omega)

theorem f_X1_partnerOf : yX1_partnerOf.cls ≠ "java/lang/invoke/MethodHandle" ∧ yX1_partnerOf.cls ≠ "java/lang/invoke/VarHandle" ∧ (parseMethodDescriptor yX1_partnerOf.desc).map (fun d => d.parameters.length) = some 1 := by decide +kernel
set_option maxHeartbeats 4000000 in
set_option maxRecDepth 100000 in
theorem c_X1_partnerOf (l : Launch) (D : va_G) (cI cL : ClassId) (tw : Nat) (a : Int) (ha : 0 ≤ a ∧ a ≤ 3) : RO l yX1_partnerOf wsX1_partnerOf { frames := 0, cells := 0, slots := 0, locals := 0 } D cI cL tw [.int (iI (a))] [] (fun z : Int => z = (a + 2) % 4 ∧ 0 ≤ z ∧ z ≤ 3) := by
  refine ro_of (cc := cX1_partnerOf) (maxL := 1) (rt := .int) (own := RX1) (by decide) rfl rfl (Or.inl rfl) (Nat.le_of_ble_eq_true rfl) ?_
  intro p e R s mt args below meth c H Q ls S hR hE hP hl hret
  obtain ⟨hx, hb, hml, hown, hts⟩ := id S
  have hl : lv_has ls 1 [(0, .int (iI (a)))] := hl
  refine lv_iload_n hx hb dX1_partnerOf_0 rfl (lv_at hl 0 rfl) ?_
  refine r_iconst hx hb dX1_partnerOf_1 ?_
  refine r_iadd hx hb dX1_partnerOf_2 ?_
  refine r_iconst hx hb dX1_partnerOf_3 ?_
  refine r_irem hx hb dX1_partnerOf_4 (by omega) (by omega) ?_
  exact hret (((a) + (2)) % (4)) _ _ dX1_partnerOf_5 (by omega)

theorem f_X1_worthOf : yX1_worthOf.cls ≠ "java/lang/invoke/MethodHandle" ∧ yX1_worthOf.cls ≠ "java/lang/invoke/VarHandle" ∧ (parseMethodDescriptor yX1_worthOf.desc).map (fun d => d.parameters.length) = some 1 := by decide +kernel
set_option maxHeartbeats 4000000 in
set_option maxRecDepth 100000 in
theorem c_X1_worthOf (l : Launch) (D : va_G) (cI cL : ClassId) (tw : Nat) (m : Int) (hm : 0 ≤ m ∧ m ≤ 6) : RO l yX1_worthOf wsX1_worthOf { frames := 0, cells := 0, slots := 0, locals := 0 } D cI cL tw [.int (iI (m))] [] (fun z : Int => z = wo m ∧ 2 ≤ z ∧ z ≤ 25) := by
  refine ro_of (cc := cX1_worthOf) (maxL := 1) (rt := .int) (own := RX1) (by decide) rfl rfl (Or.inl rfl) (Nat.le_of_ble_eq_true rfl) ?_
  intro p e R s mt args below meth c H Q ls S hR hE hP hl hret
  obtain ⟨hx, hb, hml, hown, hts⟩ := id S
  have hl : lv_has ls 1 [(0, .int (iI (m)))] := hl
  refine lv_iload_n hx hb dX1_worthOf_0 rfl (lv_at hl 0 rfl) ?_
  refine r_if_ne (tgt := 7) hx hb dX1_worthOf_1 (by decide) (by unfold rI; omega) (fun h1 => ?_) (fun h1 => ?_)
  · refine lv_iload_n hx hb dX1_worthOf_7 rfl (lv_at hl 0 rfl) ?_
    refine r_iconst hx hb dX1_worthOf_8 ?_
    refine r_icmp_ne (tgt := 17) hx hb dX1_worthOf_9 (by decide) (by unfold rI; omega) (by unfold rI; decide) (fun h9 => ?_) (fun h9 => ?_)
    · refine lv_iload_n hx hb dX1_worthOf_17 rfl (lv_at hl 0 rfl) ?_
      exact hret (m) _ _ dX1_worthOf_18 (by unfold wo; (repeat' split) <;> omega)
    · refine r_bipush hx hb dX1_worthOf_12 (by decide) ?_
      refine lv_goto (tgt := 18) hx hb dX1_worthOf_14 (by decide) ?_
      exact hret (10) _ _ dX1_worthOf_18 (by unfold wo; (repeat' split) <;> omega)
  · refine r_bipush hx hb dX1_worthOf_4 (by decide) ?_
    exact hret (25) _ _ dX1_worthOf_6 (by unfold wo; (repeat' split) <;> omega)

theorem f_X1_isGrace : yX1_isGrace.cls ≠ "java/lang/invoke/MethodHandle" ∧ yX1_isGrace.cls ≠ "java/lang/invoke/VarHandle" ∧ (parseMethodDescriptor yX1_isGrace.desc).map (fun d => d.parameters.length) = some 1 := by decide +kernel
set_option maxHeartbeats 4000000 in
set_option maxRecDepth 100000 in
theorem c_X1_isGrace (l : Launch) (D : va_G) (cI cL : ClassId) (tw : Nat) (m : Int) (hm : 0 ≤ m ∧ m ≤ 6) : RO l yX1_isGrace wsX1_isGrace { frames := 0, cells := 0, slots := 0, locals := 0 } D cI cL tw [.int (iI (m))] [] (tz (m ≤ 1 ∨ m = 6)) := by
  refine ro_of (cc := cX1_isGrace) (maxL := 1) (rt := .boolean) (own := RX1) (by decide) rfl rfl (Or.inr ⟨rfl, fun z h => by rcases h with ⟨h, _⟩ | ⟨h, _⟩ <;> omega⟩) (Nat.le_of_ble_eq_true rfl) ?_
  intro p e R s mt args below meth c H Q ls S hR hE hP hl hret
  obtain ⟨hx, hb, hml, hown, hts⟩ := id S
  have hl : lv_has ls 1 [(0, .int (iI (m)))] := hl
  refine lv_iload_n hx hb dX1_isGrace_0 rfl (lv_at hl 0 rfl) ?_
  refine r_iconst hx hb dX1_isGrace_1 ?_
  refine r_icmp_le (tgt := 11) hx hb dX1_isGrace_2 (by decide) (by unfold rI; omega) (by unfold rI; decide) (fun h2 => ?_) (fun h2 => ?_)
  · refine r_iconst hx hb dX1_isGrace_11 ?_
    refine lv_goto (tgt := 16) hx hb dX1_isGrace_12 (by decide) ?_
    exact hret (1) _ _ dX1_isGrace_16 (by unfold tz; omega)
  · refine lv_iload_n hx hb dX1_isGrace_5 rfl (lv_at hl 0 rfl) ?_
    refine r_bipush hx hb dX1_isGrace_6 (by decide) ?_
    refine r_icmp_ne (tgt := 15) hx hb dX1_isGrace_8 (by decide) (by unfold rI; omega) (by unfold rI; decide) (fun h8 => ?_) (fun h8 => ?_)
    · refine r_iconst hx hb dX1_isGrace_15 ?_
      exact hret (0) _ _ dX1_isGrace_16 (by unfold tz; omega)
    · refine r_iconst hx hb dX1_isGrace_11 ?_
      refine lv_goto (tgt := 16) hx hb dX1_isGrace_12 (by decide) ?_
      exact hret (1) _ _ dX1_isGrace_16 (by unfold tz; omega)

theorem f_X1_isGraceTooMany : yX1_isGraceTooMany.cls ≠ "java/lang/invoke/MethodHandle" ∧ yX1_isGraceTooMany.cls ≠ "java/lang/invoke/VarHandle" ∧ (parseMethodDescriptor yX1_isGraceTooMany.desc).map (fun d => d.parameters.length) = some 2 := by decide +kernel
set_option maxHeartbeats 4000000 in
set_option maxRecDepth 100000 in
theorem c_X1_isGraceTooMany (l : Launch) (D : va_G) (cI cL : ClassId) (tw : Nat) (m : Int) (g : Int) (hm : 0 ≤ m ∧ m ≤ 6) (hg : 0 ≤ g ∧ g ≤ 3) : RO l yX1_isGraceTooMany wsX1_isGraceTooMany { frames := 1, cells := 0, slots := 0, locals := 20 } D cI cL tw [.int (iI (m)), .int (iI (g))] [] (tz ((m ≤ 1 ∨ m = 6) ∧ 2 ≤ g)) := by
  refine ro_of (cc := cX1_isGraceTooMany) (maxL := 2) (rt := .boolean) (own := RX1) (by decide) rfl rfl (Or.inr ⟨rfl, fun z h => by rcases h with ⟨h, _⟩ | ⟨h, _⟩ <;> omega⟩) (Nat.le_of_ble_eq_true rfl) ?_
  intro p e R s mt args below meth c H Q ls S hR hE hP hl hret
  obtain ⟨hx, hb, hml, hown, hts⟩ := id S
  have hl : lv_has ls 2 [(0, .int (iI (m))), (1, .int (iI (g)))] := hl
  refine lv_iload_n hx hb dX1_isGraceTooMany_0 rfl (lv_at hl 0 rfl) ?_
  refine r_callS (As := [.int (iI (m))]) (rest := []) S (c_X1_isGrace l D cI cL tw (m) (by omega)) gX1_isGraceTooMany_X1_isGrace rfl rfl rfl f_X1_isGrace hR (Nat.le_of_ble_eq_true rfl) (Nat.le_of_ble_eq_true rfl) hE rfl hl.1 rfl (Nat.le_of_ble_eq_true rfl) dX1_isGraceTooMany_1 ⟨Nat.zero_le _, Nat.zero_le _⟩ (fun z1 hz1 => ?_)
  rcases hz1 with ⟨rfl, hz1⟩ | ⟨rfl, hz1⟩
  · refine r_if_eq (tgt := 16) hx hb dX1_isGraceTooMany_4 (by decide) (by unfold rI; decide) (fun h9 => absurd h9 (by omega)) (fun h4 => ?_)
    refine lv_iload_n hx hb dX1_isGraceTooMany_7 rfl (lv_at hl 1 rfl) ?_
    refine r_iconst hx hb dX1_isGraceTooMany_8 ?_
    refine r_icmp_lt (tgt := 16) hx hb dX1_isGraceTooMany_9 (by decide) (by unfold rI; omega) (by unfold rI; decide) (fun h9 => ?_) (fun h9 => ?_)
    · refine r_iconst hx hb dX1_isGraceTooMany_16 ?_
      exact hret (0) _ _ dX1_isGraceTooMany_17 (by unfold tz; omega)
    · refine r_iconst hx hb dX1_isGraceTooMany_12 ?_
      refine lv_goto (tgt := 17) hx hb dX1_isGraceTooMany_13 (by decide) ?_
      exact hret (1) _ _ dX1_isGraceTooMany_17 (by unfold tz; omega)
  · refine r_if_eq (tgt := 16) hx hb dX1_isGraceTooMany_4 (by decide) (by unfold rI; decide) (fun h4 => ?_) (fun h9 => absurd h9 (by omega))
    refine r_iconst hx hb dX1_isGraceTooMany_16 ?_
    exact hret (0) _ _ dX1_isGraceTooMany_17 (by unfold tz; omega)

theorem f_X1_isSafeSquare : yX1_isSafeSquare.cls ≠ "java/lang/invoke/MethodHandle" ∧ yX1_isSafeSquare.cls ≠ "java/lang/invoke/VarHandle" ∧ (parseMethodDescriptor yX1_isSafeSquare.desc).map (fun d => d.parameters.length) = some 1 := by decide +kernel
set_option maxHeartbeats 4000000 in
set_option maxRecDepth 100000 in
theorem c_X1_isSafeSquare (l : Launch) (D : va_G) (cI cL : ClassId) (tw : Nat) (q : Int) (hq : 0 ≤ q ∧ q ≤ 67) : RO l yX1_isSafeSquare wsX1_isSafeSquare { frames := 0, cells := 0, slots := 0, locals := 0 } D cI cL tw [.int (iI (q))] [] (tz (q % 17 = 4 ∨ q % 17 = 11)) := by
  refine ro_of (cc := cX1_isSafeSquare) (maxL := 2) (rt := .boolean) (own := RX1) (by decide) rfl rfl (Or.inr ⟨rfl, fun z h => by rcases h with ⟨h, _⟩ | ⟨h, _⟩ <;> omega⟩) (Nat.le_of_ble_eq_true rfl) ?_
  intro p e R s mt args below meth c H Q ls S hR hE hP hl hret
  obtain ⟨hx, hb, hml, hown, hts⟩ := id S
  have hl : lv_has ls 2 [(0, .int (iI (q)))] := hl
  refine lv_iload_n hx hb dX1_isSafeSquare_0 rfl (lv_at hl 0 rfl) ?_
  refine r_bipush hx hb dX1_isSafeSquare_1 (by decide) ?_
  refine r_irem hx hb dX1_isSafeSquare_3 (by omega) (by omega) ?_
  refine lv_istore_n (lv' := [(1, .int (iI ((q) % (17)))), (0, .int (iI (q)))]) hx hb dX1_isSafeSquare_4 rfl hl (by decide) rfl (fun ls hl => ?_)
  refine lv_iload_n hx hb dX1_isSafeSquare_5 rfl (lv_at hl 0 rfl) ?_
  refine r_iconst hx hb dX1_isSafeSquare_6 ?_
  refine r_icmp_eq (tgt := 16) hx hb dX1_isSafeSquare_7 (by decide) (by unfold rI; omega) (by unfold rI; decide) (fun h7 => ?_) (fun h7 => ?_)
  · refine r_iconst hx hb dX1_isSafeSquare_16 ?_
    refine lv_goto (tgt := 21) hx hb dX1_isSafeSquare_17 (by decide) ?_
    exact hret (1) _ _ dX1_isSafeSquare_21 (by unfold tz; omega)
  · refine lv_iload_n hx hb dX1_isSafeSquare_10 rfl (lv_at hl 0 rfl) ?_
    refine r_bipush hx hb dX1_isSafeSquare_11 (by decide) ?_
    refine r_icmp_ne (tgt := 20) hx hb dX1_isSafeSquare_13 (by decide) (by unfold rI; omega) (by unfold rI; decide) (fun h13 => ?_) (fun h13 => ?_)
    · refine r_iconst hx hb dX1_isSafeSquare_20 ?_
      exact hret (0) _ _ dX1_isSafeSquare_21 (by unfold tz; omega)
    · refine r_iconst hx hb dX1_isSafeSquare_16 ?_
      refine lv_goto (tgt := 21) hx hb dX1_isSafeSquare_17 (by decide) ?_
      exact hret (1) _ _ dX1_isSafeSquare_21 (by unfold tz; omega)

set_option maxRecDepth 20000 in
theorem mw_X0_positionOf_0 : (.fieldLink RX0 9 "PachisiYard$Board" "positions" "[I" : Cond) ∈ wsX0_positionOf := by decide +kernel
set_option maxRecDepth 20000 in
theorem mu_X0_positionOf_X0 : ∀ w ∈ wsX00, w ∈ wsX0_positionOf := by decide +kernel
theorem f_X0_positionOf : yX0_positionOf.cls ≠ "java/lang/invoke/MethodHandle" ∧ yX0_positionOf.cls ≠ "java/lang/invoke/VarHandle" ∧ (parseMethodDescriptor yX0_positionOf.desc).map (fun d => d.parameters.length) = some 2 := by decide +kernel
set_option maxHeartbeats 4000000 in
set_option maxRecDepth 100000 in
theorem c_X0_positionOf (l : Launch) (D : va_G) (cI cL : ClassId) (tw : Nat) (b : Nat) (pq : Nat) (cq : Nat) (P : Int → Int) (a : Int) (j : Int) (hB : ∀ i, 0 ≤ P i ∧ P i ≤ 72) (ha : 0 ≤ a ∧ a ≤ 3) (hj : 0 ≤ j ∧ j < 4) : RO l yX0_positionOf wsX0_positionOf { frames := 0, cells := 0, slots := 0, locals := 0 } D cI cL tw [.ref b, .int (iI (a)), .int (iI (j))] [(b, .inr (0, [.ref pq, .ref cq])), (pq, .inl (cI, 16, .inl (aI P))), (cq, .inl (cI, 136, .inl (aI (cnt P))))] (fun z : Int => z = P (4 * a + j) ∧ 0 ≤ z ∧ z ≤ 72) := by
  refine ro_of (cc := cX0_positionOf) (maxL := 4) (rt := .int) (own := RX0) (by decide) rfl rfl (Or.inl rfl) (Nat.le_of_ble_eq_true rfl) ?_
  intro p e R s mt args below meth c H Q ls S hR hE hP hl hret
  obtain ⟨hx, hb, hml, hown, hts⟩ := id S
  have hl : lv_has ls 4 [(0, .ref b), (1, .int (iI (a))), (2, .int (iI (j)))] := hl
  refine lv_iload_n hx hb dX0_positionOf_0 rfl (lv_at hl 1 rfl) ?_
  refine r_iconst hx hb dX0_positionOf_1 ?_
  refine r_imul hx hb dX0_positionOf_2 ?_
  refine lv_iload_n hx hb dX0_positionOf_3 rfl (lv_at hl 2 rfl) ?_
  refine r_iadd hx hb dX0_positionOf_4 ?_
  refine lv_istore_n (lv' := [(3, .int (iI (((a) * (4)) + (j)))), (0, .ref b), (1, .int (iI (a))), (2, .int (iI (j)))]) hx hb dX0_positionOf_5 rfl hl (by decide) rfl (fun ls hl => ?_)
  refine lv_iload_n hx hb dX0_positionOf_6 rfl (lv_at hl 0 rfl) ?_
  refine r_if_lt (tgt := 28) hx hb dX0_positionOf_7 (by decide) (by unfold rI; omega) (fun h9 => absurd h9 (by omega)) (fun h7 => ?_)
  refine lv_iload_n hx hb dX0_positionOf_10 rfl (lv_at hl 0 rfl) ?_
  refine lv_aload_n hx hb dX0_positionOf_11 rfl (lv_at hl 1 rfl) ?_
  refine va_get (D := D) (ci := 0) (v := .ref pq) (C := RX0) (T := TX0) (N := 2) hx hb hts mu_X0_positionOf_X0 hown hE.1 hP 0 rfl rfl 0 (by decide) (hts _ mw_X0_positionOf_0) (fun _ h9 => h9) rfl dX0_positionOf_12 ?_
  refine r_alen hx hb hE.1 hP 1 rfl dX0_positionOf_15 ?_
  refine r_top 16 rfl ?_
  refine r_icmp_ge (tgt := 28) hx hb dX0_positionOf_16 (by decide) (by unfold rI; omega) (by unfold rI; decide) (fun h9 => absurd h9 (by omega)) (fun h16 => ?_)
  refine lv_aload_n hx hb dX0_positionOf_19 rfl (lv_at hl 1 rfl) ?_
  refine va_get (D := D) (ci := 0) (v := .ref pq) (C := RX0) (T := TX0) (N := 2) hx hb hts mu_X0_positionOf_X0 hown hE.1 hP 0 rfl rfl 0 (by decide) (hts _ mw_X0_positionOf_0) (fun _ h9 => h9) rfl dX0_positionOf_20 ?_
  refine lv_iload_n hx hb dX0_positionOf_23 rfl (lv_at hl 0 rfl) ?_
  refine r_iald hx hb hE.1 hP 1 rfl (i := ((a) * (4)) + (j)) (by omega) (by omega) (by decide) dX0_positionOf_24 ?_
  obtain ⟨v24, ev24⟩ : ∃ v : Int, v = P (((a) * (4)) + (j)) := ⟨_, rfl⟩
  have gv24 := hB (((a) * (4)) + (j))
  refine r_top v24 ev24.symm ?_
  rw [← ev24] at gv24
  refine lv_goto (tgt := 29) hx hb dX0_positionOf_25 (by decide) ?_
  exact hret (v24) _ _ dX0_positionOf_29 (by exact ⟨by rw [ev24]; exact congrArg P (by omega), gv24⟩)

theorem f_X0_squareAt : yX0_squareAt.cls ≠ "java/lang/invoke/MethodHandle" ∧ yX0_squareAt.cls ≠ "java/lang/invoke/VarHandle" ∧ (parseMethodDescriptor yX0_squareAt.desc).map (fun d => d.parameters.length) = some 2 := by decide +kernel
set_option maxHeartbeats 4000000 in
set_option maxRecDepth 100000 in
theorem c_X0_squareAt (l : Launch) (D : va_G) (cI cL : ClassId) (tw : Nat) (b : Nat) (pq : Nat) (cq : Nat) (a : Int) (q : Int) (ha : 0 ≤ a ∧ a ≤ 3) (hq : 0 ≤ q ∧ q ≤ 100) : RO l yX0_squareAt wsX0_squareAt { frames := 0, cells := 0, slots := 0, locals := 0 } D cI cL tw [.ref b, .int (iI (a)), .int (iI (q))] [(b, .inr (0, [.ref pq, .ref cq]))] (fun z : Int => z = sA a q ∧ -1 ≤ z ∧ z ≤ 67) := by
  refine ro_of (cc := cX0_squareAt) (maxL := 3) (rt := .int) (own := RX0) (by decide) rfl rfl (Or.inl rfl) (Nat.le_of_ble_eq_true rfl) ?_
  intro p e R s mt args below meth c H Q ls S hR hE hP hl hret
  obtain ⟨hx, hb, hml, hown, hts⟩ := id S
  have hl : lv_has ls 3 [(0, .ref b), (1, .int (iI (a))), (2, .int (iI (q)))] := hl
  refine lv_iload_n hx hb dX0_squareAt_0 rfl (lv_at hl 2 rfl) ?_
  refine r_iconst hx hb dX0_squareAt_1 ?_
  refine r_icmp_lt (tgt := 11) hx hb dX0_squareAt_2 (by decide) (by unfold rI; omega) (by unfold rI; decide) (fun h2 => ?_) (fun h2 => ?_)
  · refine r_iconst hx hb dX0_squareAt_11 ?_
    exact hret (-1) _ _ dX0_squareAt_12 (by unfold sA sq; split <;> omega)
  · refine lv_iload_n hx hb dX0_squareAt_5 rfl (lv_at hl 2 rfl) ?_
    refine r_bipush hx hb dX0_squareAt_6 (by decide) ?_
    refine r_icmp_le (tgt := 13) hx hb dX0_squareAt_8 (by decide) (by unfold rI; omega) (by unfold rI; decide) (fun h8 => ?_) (fun h8 => ?_)
    · refine r_bipush hx hb dX0_squareAt_13 (by decide) ?_
      refine lv_iload_n hx hb dX0_squareAt_15 rfl (lv_at hl 1 rfl) ?_
      refine r_imul hx hb dX0_squareAt_16 ?_
      refine r_iconst hx hb dX0_squareAt_17 ?_
      refine r_iadd hx hb dX0_squareAt_18 ?_
      refine lv_iload_n hx hb dX0_squareAt_19 rfl (lv_at hl 2 rfl) ?_
      refine r_iadd hx hb dX0_squareAt_20 ?_
      refine r_bipush hx hb dX0_squareAt_21 (by decide) ?_
      refine r_irem hx hb dX0_squareAt_23 (by omega) (by omega) ?_
      exact hret (((((17) * (a)) + (3)) + (q)) % (68)) _ _ dX0_squareAt_24 (by unfold sA sq; split <;> omega)
    · refine r_iconst hx hb dX0_squareAt_11 ?_
      exact hret (-1) _ _ dX0_squareAt_12 (by unfold sA sq; split <;> omega)

set_option maxRecDepth 20000 in
theorem mw_X0_countOn_0 : (.fieldLink RX0 15 "PachisiYard$Board" "counts" "[I" : Cond) ∈ wsX0_countOn := by decide +kernel
set_option maxRecDepth 20000 in
theorem mu_X0_countOn_X0 : ∀ w ∈ wsX00, w ∈ wsX0_countOn := by decide +kernel
theorem f_X0_countOn : yX0_countOn.cls ≠ "java/lang/invoke/MethodHandle" ∧ yX0_countOn.cls ≠ "java/lang/invoke/VarHandle" ∧ (parseMethodDescriptor yX0_countOn.desc).map (fun d => d.parameters.length) = some 2 := by decide +kernel
set_option maxHeartbeats 4000000 in
set_option maxRecDepth 100000 in
theorem c_X0_countOn (l : Launch) (D : va_G) (cI cL : ClassId) (tw : Nat) (b : Nat) (pq : Nat) (cq : Nat) (P : Int → Int) (q : Int) (t : Int) (hB : ∀ i, 0 ≤ P i ∧ P i ≤ 72) (hq : -1 ≤ q ∧ q ≤ 67) (ht : 0 ≤ t ∧ t ≤ 1) : RO l yX0_countOn wsX0_countOn { frames := 0, cells := 0, slots := 0, locals := 0 } D cI cL tw [.ref b, .int (iI (q)), .int (iI (t))] [(b, .inr (0, [.ref pq, .ref cq])), (pq, .inl (cI, 16, .inl (aI P))), (cq, .inl (cI, 136, .inl (aI (cnt P))))] (fun z : Int => z = stA P q t ∧ 0 ≤ z ∧ z ≤ 16) := by
  refine ro_of (cc := cX0_countOn) (maxL := 4) (rt := .int) (own := RX0) (by decide) rfl rfl (Or.inl rfl) (Nat.le_of_ble_eq_true rfl) ?_
  intro p e R s mt args below meth c H Q ls S hR hE hP hl hret
  obtain ⟨hx, hb, hml, hown, hts⟩ := id S
  have hl : lv_has ls 4 [(0, .ref b), (1, .int (iI (q))), (2, .int (iI (t)))] := hl
  refine lv_iload_n hx hb dX0_countOn_0 rfl (lv_at hl 2 rfl) ?_
  refine r_bipush hx hb dX0_countOn_1 (by decide) ?_
  refine r_imul hx hb dX0_countOn_3 ?_
  refine lv_iload_n hx hb dX0_countOn_4 rfl (lv_at hl 1 rfl) ?_
  refine r_iadd hx hb dX0_countOn_5 ?_
  refine lv_istore_n (lv' := [(3, .int (iI (((t) * (68)) + (q)))), (0, .ref b), (1, .int (iI (q))), (2, .int (iI (t)))]) hx hb dX0_countOn_6 rfl hl (by decide) rfl (fun ls hl => ?_)
  refine lv_iload_n hx hb dX0_countOn_7 rfl (lv_at hl 2 rfl) ?_
  refine r_if_lt (tgt := 33) hx hb dX0_countOn_8 (by decide) (by unfold rI; omega) (fun h8 => ?_) (fun h8 => ?_)
  · refine r_iconst hx hb dX0_countOn_33 ?_
    exact hret (0) _ _ dX0_countOn_34 (by exact ⟨by unfold stA; rw [if_neg (by omega)], by omega⟩)
  · refine lv_iload_n hx hb dX0_countOn_11 rfl (lv_at hl 0 rfl) ?_
    refine r_if_lt (tgt := 33) hx hb dX0_countOn_12 (by decide) (by unfold rI; omega) (fun h9 => absurd h9 (by omega)) (fun h12 => ?_)
    refine lv_iload_n hx hb dX0_countOn_15 rfl (lv_at hl 0 rfl) ?_
    refine lv_aload_n hx hb dX0_countOn_16 rfl (lv_at hl 1 rfl) ?_
    refine va_get (D := D) (ci := 0) (v := .ref cq) (C := RX0) (T := TX0) (N := 2) hx hb hts mu_X0_countOn_X0 hown hE.1 hP 0 rfl rfl 1 (by decide) (hts _ mw_X0_countOn_0) (fun _ h9 => h9) rfl dX0_countOn_17 ?_
    refine r_alen hx hb hE.1 hP 2 rfl dX0_countOn_20 ?_
    refine r_top 136 rfl ?_
    refine r_icmp_ge (tgt := 33) hx hb dX0_countOn_21 (by decide) (by unfold rI; omega) (by unfold rI; decide) (fun h9 => absurd h9 (by omega)) (fun h21 => ?_)
    refine lv_aload_n hx hb dX0_countOn_24 rfl (lv_at hl 1 rfl) ?_
    refine va_get (D := D) (ci := 0) (v := .ref cq) (C := RX0) (T := TX0) (N := 2) hx hb hts mu_X0_countOn_X0 hown hE.1 hP 0 rfl rfl 1 (by decide) (hts _ mw_X0_countOn_0) (fun _ h9 => h9) rfl dX0_countOn_25 ?_
    refine lv_iload_n hx hb dX0_countOn_28 rfl (lv_at hl 0 rfl) ?_
    refine r_iald hx hb hE.1 hP 2 rfl (i := ((t) * (68)) + (q)) (by omega) (by omega) (by decide) dX0_countOn_29 ?_
    obtain ⟨v29, ev29⟩ : ∃ v : Int, v = (cnt P) (((t) * (68)) + (q)) := ⟨_, rfl⟩
    have gv29 := cnt_rng P (((t) * (68)) + (q))
    refine r_top v29 ev29.symm ?_
    rw [← ev29] at gv29
    refine lv_goto (tgt := 34) hx hb dX0_countOn_30 (by decide) ?_
    exact hret (v29) _ _ dX0_countOn_34 (by exact ⟨by rw [ev29, cnt_at P (by omega)]; unfold stA; rw [if_pos (by omega)], gv29⟩)

theorem f_X0_countHome : yX0_countHome.cls ≠ "java/lang/invoke/MethodHandle" ∧ yX0_countHome.cls ≠ "java/lang/invoke/VarHandle" ∧ (parseMethodDescriptor yX0_countHome.desc).map (fun d => d.parameters.length) = some 1 := by decide +kernel
set_option maxHeartbeats 4000000 in
set_option maxRecDepth 100000 in
theorem c_X0_countHome (l : Launch) (D : va_G) (cI cL : ClassId) (tw : Nat) (b : Nat) (pq : Nat) (cq : Nat) (P : Int → Int) (a : Int) (hB : ∀ i, 0 ≤ P i ∧ P i ≤ 72) (ha : 0 ≤ a ∧ a ≤ 3) : RO l yX0_countHome wsX0_countHome { frames := 1, cells := 0, slots := 0, locals := 23 } D cI cL tw [.ref b, .int (iI (a))] [(b, .inr (0, [.ref pq, .ref cq])), (pq, .inl (cI, 16, .inl (aI P))), (cq, .inl (cI, 136, .inl (aI (cnt P))))] (fun z : Int => z = hm P a ∧ 0 ≤ z ∧ z ≤ 4) := by
  refine ro_of (cc := cX0_countHome) (maxL := 4) (rt := .int) (own := RX0) (by decide) rfl rfl (Or.inl rfl) (Nat.le_of_ble_eq_true rfl) ?_
  intro p e R s mt args below meth c H Q ls S hR hE hP hl hret
  obtain ⟨hx, hb, hml, hown, hts⟩ := id S
  have hl : lv_has ls 4 [(0, .ref b), (1, .int (iI (a)))] := hl
  refine r_iconst hx hb dX0_countHome_0 ?_
  refine lv_istore_n (lv' := [(2, .int (iI (0))), (0, .ref b), (1, .int (iI (a)))]) hx hb dX0_countHome_1 rfl hl (by decide) rfl (fun ls hl => ?_)
  refine r_iconst hx hb dX0_countHome_2 ?_
  refine lv_istore_n (lv' := [(3, .int (iI (0))), (2, .int (iI (0))), (0, .ref b), (1, .int (iI (a)))]) hx hb dX0_countHome_3 rfl hl (by decide) rfl (fun ls hl => ?_)
  have lp_4 : ∀ (d_4 : Nat) (n : Int) (j : Int), (d_4 : Int) = 4 - j → (0 ≤ j ∧ j ≤ 4) → (n = sZ (hmN P a) j ∧ 0 ≤ n ∧ n ≤ j) → ∀ ls : Array Slot, lv_has ls 4 [(3, .int (iI (j))), (2, .int (iI (n))), (0, .ref b), (1, .int (iI (a)))] → W p l e R s mt args below meth c H [] 0 0 Q (F0 mt 4 ls []) := by
    intro d_4
    induction d_4 using Nat.strongRecOn with
    | ind d_4 ih_4 =>
    intro n j hd_4 hj hn ls hl
    refine lv_iload_n hx hb dX0_countHome_4 rfl (lv_at hl 0 rfl) ?_
    refine r_iconst hx hb dX0_countHome_5 ?_
    refine r_icmp_ge (tgt := 29) hx hb dX0_countHome_6 (by decide) (by unfold rI; omega) (by unfold rI; decide) (fun h6 => ?_) (fun h6 => ?_)
    · refine lv_iload_n hx hb dX0_countHome_29 rfl (lv_at hl 1 rfl) ?_
      exact hret (n) _ _ dX0_countHome_30 (by have e : j = 4 := (by omega); subst e; exact ⟨hn.1, by omega⟩)
    · refine lv_aload_n hx hb dX0_countHome_9 rfl (lv_at hl 2 rfl) ?_
      refine lv_iload_n hx hb dX0_countHome_10 rfl (lv_at hl 3 rfl) ?_
      refine lv_iload_n hx hb dX0_countHome_11 rfl (lv_at hl 0 rfl) ?_
      refine r_callV (As := [.int (iI (a)), .int (iI (j))]) (rest := []) S (c_X0_positionOf l D cI cL tw (b) (pq) (cq) (P) (a) (j) (hB) (by omega) (by omega)) gX0_countHome_X0_positionOf rfl rfl rfl ⟨rfl, f_X0_positionOf⟩ hR (Nat.le_of_ble_eq_true rfl) (Nat.le_of_ble_eq_true rfl) hE hP [0, 1, 2] rfl 0 rfl rfl rfl hl.1 rfl (Nat.le_of_ble_eq_true rfl) dX0_countHome_12 ⟨Nat.zero_le _, Nat.zero_le _⟩ (fun z12 hz12 => ?_)
      obtain ⟨hz12, rz12⟩ := hz12
      refine r_bipush hx hb dX0_countHome_15 (by decide) ?_
      refine r_icmp_ne (tgt := 23) hx hb dX0_countHome_17 (by decide) (by unfold rI; omega) (by unfold rI; decide) (fun h17 => ?_) (fun h17 => ?_)
      · refine lv_iinc (v := iI (j + 1)) (lv' := [(3, .int (iI (j + 1))), (2, .int (iI (n))), (0, .ref b), (1, .int (iI (a)))]) hx hb dX0_countHome_23 hl (k := 0) rfl (iI_add _ _) (by decide) rfl (fun ls hl => ?_)
        refine lv_goto (tgt := 4) hx hb dX0_countHome_26 (by decide) ?_
        exact ih_4 (4 - (j + 1) : Int).toNat (nlt (by omega) hd_4 (by omega)) (n) (j + 1) (Int.toNat_of_nonneg (by omega)) (by omega) (by refine ⟨?_, by omega⟩; rw [sZ_s _ (by omega), ← hn.1]; unfold hmN; rw [if_neg (by omega)]; try omega) ls (lv_sub hl [0, 1, 2, 3] rfl)
      · refine lv_iinc (v := iI (n + 1)) (lv' := [(2, .int (iI (n + 1))), (3, .int (iI (j))), (0, .ref b), (1, .int (iI (a)))]) hx hb dX0_countHome_20 hl (k := 1) rfl (iI_add _ _) (by decide) rfl (fun ls hl => ?_)
        refine lv_iinc (v := iI (j + 1)) (lv' := [(3, .int (iI (j + 1))), (2, .int (iI (n + 1))), (0, .ref b), (1, .int (iI (a)))]) hx hb dX0_countHome_23 hl (k := 1) rfl (iI_add _ _) (by decide) rfl (fun ls hl => ?_)
        refine lv_goto (tgt := 4) hx hb dX0_countHome_26 (by decide) ?_
        exact ih_4 (4 - (j + 1) : Int).toNat (nlt (by omega) hd_4 (by omega)) (n + 1) (j + 1) (Int.toNat_of_nonneg (by omega)) (by omega) (by refine ⟨?_, by omega⟩; rw [sZ_s _ (by omega), ← hn.1]; unfold hmN; rw [if_pos (by omega)]; try omega) ls (lv_sub hl [0, 1, 2, 3] rfl)
  exact lp_4 (4 - (0) : Int).toNat (0) (0) (Int.toNat_of_nonneg (by omega)) (by omega) (by exact ⟨(sZ_0 _).symm, by omega⟩) ls (lv_sub hl [0, 1, 2, 3] rfl)

theorem f_X0_distanceOf : yX0_distanceOf.cls ≠ "java/lang/invoke/MethodHandle" ∧ yX0_distanceOf.cls ≠ "java/lang/invoke/VarHandle" ∧ (parseMethodDescriptor yX0_distanceOf.desc).map (fun d => d.parameters.length) = some 1 := by decide +kernel
set_option maxHeartbeats 4000000 in
set_option maxRecDepth 100000 in
theorem c_X0_distanceOf (l : Launch) (D : va_G) (cI cL : ClassId) (tw : Nat) (b : Nat) (pq : Nat) (cq : Nat) (P : Int → Int) (a : Int) (hB : ∀ i, 0 ≤ P i ∧ P i ≤ 72) (ha : 0 ≤ a ∧ a ≤ 3) : RO l yX0_distanceOf wsX0_distanceOf { frames := 1, cells := 0, slots := 0, locals := 23 } D cI cL tw [.ref b, .int (iI (a))] [(b, .inr (0, [.ref pq, .ref cq])), (pq, .inl (cI, 16, .inl (aI P))), (cq, .inl (cI, 136, .inl (aI (cnt P))))] (fun z : Int => z = sZ (fun j => 72 - P (4 * a + j)) 4 ∧ 0 ≤ z ∧ z ≤ 288) := by
  refine ro_of (cc := cX0_distanceOf) (maxL := 4) (rt := .int) (own := RX0) (by decide) rfl rfl (Or.inl rfl) (Nat.le_of_ble_eq_true rfl) ?_
  intro p e R s mt args below meth c H Q ls S hR hE hP hl hret
  obtain ⟨hx, hb, hml, hown, hts⟩ := id S
  have hl : lv_has ls 4 [(0, .ref b), (1, .int (iI (a)))] := hl
  refine r_iconst hx hb dX0_distanceOf_0 ?_
  refine lv_istore_n (lv' := [(2, .int (iI (0))), (0, .ref b), (1, .int (iI (a)))]) hx hb dX0_distanceOf_1 rfl hl (by decide) rfl (fun ls hl => ?_)
  refine r_iconst hx hb dX0_distanceOf_2 ?_
  refine lv_istore_n (lv' := [(3, .int (iI (0))), (2, .int (iI (0))), (0, .ref b), (1, .int (iI (a)))]) hx hb dX0_distanceOf_3 rfl hl (by decide) rfl (fun ls hl => ?_)
  have lp_4 : ∀ (d_4 : Nat) (n : Int) (j : Int), (d_4 : Int) = 4 - j → (0 ≤ j ∧ j ≤ 4) → (n = sZ (fun j => 72 - P (4 * a + j)) j ∧ 0 ≤ n ∧ n ≤ 72 * j) → ∀ ls : Array Slot, lv_has ls 4 [(3, .int (iI (j))), (2, .int (iI (n))), (0, .ref b), (1, .int (iI (a)))] → W p l e R s mt args below meth c H [] 0 0 Q (F0 mt 4 ls []) := by
    intro d_4
    induction d_4 using Nat.strongRecOn with
    | ind d_4 ih_4 =>
    intro n j hd_4 hj hn ls hl
    refine lv_iload_n hx hb dX0_distanceOf_4 rfl (lv_at hl 0 rfl) ?_
    refine r_iconst hx hb dX0_distanceOf_5 ?_
    refine r_icmp_ge (tgt := 27) hx hb dX0_distanceOf_6 (by decide) (by unfold rI; omega) (by unfold rI; decide) (fun h6 => ?_) (fun h6 => ?_)
    · refine lv_iload_n hx hb dX0_distanceOf_27 rfl (lv_at hl 1 rfl) ?_
      exact hret (n) _ _ dX0_distanceOf_28 (by have e : j = 4 := (by omega); subst e; exact ⟨hn.1, by omega⟩)
    · refine lv_iload_n hx hb dX0_distanceOf_9 rfl (lv_at hl 1 rfl) ?_
      refine r_bipush hx hb dX0_distanceOf_10 (by decide) ?_
      refine lv_aload_n hx hb dX0_distanceOf_12 rfl (lv_at hl 2 rfl) ?_
      refine lv_iload_n hx hb dX0_distanceOf_13 rfl (lv_at hl 3 rfl) ?_
      refine lv_iload_n hx hb dX0_distanceOf_14 rfl (lv_at hl 0 rfl) ?_
      refine r_callV (As := [.int (iI (a)), .int (iI (j))]) (rest := [.int (iI (72)), .int (iI (n))]) S (c_X0_positionOf l D cI cL tw (b) (pq) (cq) (P) (a) (j) (hB) (by omega) (by omega)) gX0_distanceOf_X0_positionOf rfl rfl rfl ⟨rfl, f_X0_positionOf⟩ hR (Nat.le_of_ble_eq_true rfl) (Nat.le_of_ble_eq_true rfl) hE hP [0, 1, 2] rfl 0 rfl rfl rfl hl.1 rfl (Nat.le_of_ble_eq_true rfl) dX0_distanceOf_15 ⟨Nat.zero_le _, Nat.zero_le _⟩ (fun z15 hz15 => ?_)
      obtain ⟨hz15, rz15⟩ := hz15
      refine r_isub hx hb dX0_distanceOf_18 ?_
      refine r_iadd hx hb dX0_distanceOf_19 ?_
      refine lv_istore_n (lv' := [(2, .int (iI ((n) + ((72) - (z15))))), (3, .int (iI (j))), (0, .ref b), (1, .int (iI (a)))]) hx hb dX0_distanceOf_20 rfl hl (by decide) rfl (fun ls hl => ?_)
      refine lv_iinc (v := iI (j + 1)) (lv' := [(3, .int (iI (j + 1))), (2, .int (iI ((n) + ((72) - (z15))))), (0, .ref b), (1, .int (iI (a)))]) hx hb dX0_distanceOf_21 hl (k := 1) rfl (iI_add _ _) (by decide) rfl (fun ls hl => ?_)
      refine lv_goto (tgt := 4) hx hb dX0_distanceOf_24 (by decide) ?_
      exact ih_4 (4 - (j + 1) : Int).toNat (nlt (by omega) hd_4 (by omega)) ((n) + ((72) - (z15))) (j + 1) (Int.toNat_of_nonneg (by omega)) (by omega) (by refine ⟨?_, by omega⟩; rw [sZ_s _ (by omega), ← hn.1, hz15]) ls (lv_sub hl [0, 1, 2, 3] rfl)
  exact lp_4 (4 - (0) : Int).toNat (0) (0) (Int.toNat_of_nonneg (by omega)) (by omega) (by exact ⟨(sZ_0 _).symm, by omega⟩) ls (lv_sub hl [0, 1, 2, 3] rfl)

set_option maxRecDepth 20000 in
theorem mw_X0_isTeamHome_0 : (.initialized RX1 : Cond) ∈ wsX0_isTeamHome := by decide +kernel
set_option maxRecDepth 20000 in
theorem mw_X0_isTeamHome_1 : (.static yX1_partnerOf : Cond) ∈ wsX0_isTeamHome := by decide +kernel
theorem f_X0_isTeamHome : yX0_isTeamHome.cls ≠ "java/lang/invoke/MethodHandle" ∧ yX0_isTeamHome.cls ≠ "java/lang/invoke/VarHandle" ∧ (parseMethodDescriptor yX0_isTeamHome.desc).map (fun d => d.parameters.length) = some 1 := by decide +kernel
set_option maxHeartbeats 4000000 in
set_option maxRecDepth 100000 in
theorem c_X0_isTeamHome (l : Launch) (D : va_G) (cI cL : ClassId) (tw : Nat) (b : Nat) (pq : Nat) (cq : Nat) (P : Int → Int) (a : Int) (hB : ∀ i, 0 ≤ P i ∧ P i ≤ 72) (ha : 0 ≤ a ∧ a ≤ 3) : RO l yX0_isTeamHome wsX0_isTeamHome { frames := 2, cells := 0, slots := 0, locals := 46 } D cI cL tw [.ref b, .int (iI (a))] [(b, .inr (0, [.ref pq, .ref cq])), (pq, .inl (cI, 16, .inl (aI P))), (cq, .inl (cI, 136, .inl (aI (cnt P))))] (tz (hm P a = 4 ∧ hm P ((a + 2) % 4) = 4)) := by
  refine ro_of (cc := cX0_isTeamHome) (maxL := 2) (rt := .boolean) (own := RX0) (by decide) rfl rfl (Or.inr ⟨rfl, fun z h => by rcases h with ⟨h, _⟩ | ⟨h, _⟩ <;> omega⟩) (Nat.le_of_ble_eq_true rfl) ?_
  intro p e R s mt args below meth c H Q ls S hR hE hP hl hret
  obtain ⟨hx, hb, hml, hown, hts⟩ := id S
  have hl : lv_has ls 2 [(0, .ref b), (1, .int (iI (a)))] := hl
  refine lv_aload_n hx hb dX0_isTeamHome_0 rfl (lv_at hl 0 rfl) ?_
  refine lv_iload_n hx hb dX0_isTeamHome_1 rfl (lv_at hl 1 rfl) ?_
  refine r_callV (As := [.int (iI (a))]) (rest := []) S (c_X0_countHome l D cI cL tw (b) (pq) (cq) (P) (a) (hB) (by omega)) gX0_isTeamHome_X0_countHome rfl rfl rfl ⟨rfl, f_X0_countHome⟩ hR (Nat.le_of_ble_eq_true rfl) (Nat.le_of_ble_eq_true rfl) hE hP [0, 1, 2] rfl 0 rfl rfl rfl hl.1 rfl (Nat.le_of_ble_eq_true rfl) dX0_isTeamHome_2 ⟨Nat.zero_le _, Nat.zero_le _⟩ (fun z2 hz2 => ?_)
  obtain ⟨hz2, rz2⟩ := hz2
  refine r_iconst hx hb dX0_isTeamHome_5 ?_
  refine r_icmp_ne (tgt := 25) hx hb dX0_isTeamHome_6 (by decide) (by unfold rI; omega) (by unfold rI; decide) (fun h6 => ?_) (fun h6 => ?_)
  · refine r_iconst hx hb dX0_isTeamHome_25 ?_
    exact hret (0) _ _ dX0_isTeamHome_26 (by exact Or.inr ⟨rfl, fun h => by omega⟩)
  · refine lv_aload_n hx hb dX0_isTeamHome_9 rfl (lv_at hl 0 rfl) ?_
    refine lv_iload_n hx hb dX0_isTeamHome_10 rfl (lv_at hl 1 rfl) ?_
    refine r_callN (host := RX1) (As := [.int (iI (a))]) (rest := [.ref b]) S (c_X1_partnerOf l D cI cL tw (a) (by omega)) gX0_isTeamHome_X1_partnerOf_n26 rfl rfl rfl f_X1_partnerOf hR (Nat.le_of_ble_eq_true rfl) (Nat.le_of_ble_eq_true rfl) hE (by decide +kernel) mw_X0_isTeamHome_0 mw_X0_isTeamHome_1 rfl hl.1 rfl (Nat.le_of_ble_eq_true rfl) dX0_isTeamHome_11 ⟨Nat.zero_le _, Nat.zero_le _⟩ (fun z11 hz11 => ?_)
    obtain ⟨hz11, rz11⟩ := hz11
    refine r_callV (As := [.int (iI (z11))]) (rest := []) S (c_X0_countHome l D cI cL tw (b) (pq) (cq) (P) (z11) (hB) (by omega)) gX0_isTeamHome_X0_countHome rfl rfl rfl ⟨rfl, f_X0_countHome⟩ hR (Nat.le_of_ble_eq_true rfl) (Nat.le_of_ble_eq_true rfl) hE hP [0, 1, 2] rfl 0 rfl rfl rfl hl.1 rfl (Nat.le_of_ble_eq_true rfl) dX0_isTeamHome_14 ⟨Nat.zero_le _, Nat.zero_le _⟩ (fun z14 hz14 => ?_)
    obtain ⟨hz14, rz14⟩ := hz14
    refine r_iconst hx hb dX0_isTeamHome_17 ?_
    refine r_icmp_ne (tgt := 25) hx hb dX0_isTeamHome_18 (by decide) (by unfold rI; omega) (by unfold rI; decide) (fun h18 => ?_) (fun h18 => ?_)
    · refine r_iconst hx hb dX0_isTeamHome_25 ?_
      exact hret (0) _ _ dX0_isTeamHome_26 (by exact Or.inr ⟨rfl, fun h => by rw [← hz11, ← hz14] at h; omega⟩)
    · refine r_iconst hx hb dX0_isTeamHome_21 ?_
      refine lv_goto (tgt := 26) hx hb dX0_isTeamHome_22 (by decide) ?_
      exact hret (1) _ _ dX0_isTeamHome_26 (by exact Or.inl ⟨rfl, by omega, by rw [← hz11, ← hz14]; omega⟩)

set_option maxRecDepth 20000 in
theorem mw_X0_moverFor_0 : (.initialized RX1 : Cond) ∈ wsX0_moverFor := by decide +kernel
set_option maxRecDepth 20000 in
theorem mw_X0_moverFor_1 : (.static yX1_partnerOf : Cond) ∈ wsX0_moverFor := by decide +kernel
theorem f_X0_moverFor : yX0_moverFor.cls ≠ "java/lang/invoke/MethodHandle" ∧ yX0_moverFor.cls ≠ "java/lang/invoke/VarHandle" ∧ (parseMethodDescriptor yX0_moverFor.desc).map (fun d => d.parameters.length) = some 1 := by decide +kernel
set_option maxHeartbeats 4000000 in
set_option maxRecDepth 100000 in
theorem c_X0_moverFor (l : Launch) (D : va_G) (cI cL : ClassId) (tw : Nat) (b : Nat) (pq : Nat) (cq : Nat) (P : Int → Int) (a : Int) (hB : ∀ i, 0 ≤ P i ∧ P i ≤ 72) (ha : 0 ≤ a ∧ a ≤ 3) : RO l yX0_moverFor wsX0_moverFor { frames := 2, cells := 0, slots := 0, locals := 46 } D cI cL tw [.ref b, .int (iI (a))] [(b, .inr (0, [.ref pq, .ref cq])), (pq, .inl (cI, 16, .inl (aI P))), (cq, .inl (cI, 136, .inl (aI (cnt P))))] (fun z : Int => z = mv P a ∧ 0 ≤ z ∧ z ≤ 3) := by
  refine ro_of (cc := cX0_moverFor) (maxL := 2) (rt := .int) (own := RX0) (by decide) rfl rfl (Or.inl rfl) (Nat.le_of_ble_eq_true rfl) ?_
  intro p e R s mt args below meth c H Q ls S hR hE hP hl hret
  obtain ⟨hx, hb, hml, hown, hts⟩ := id S
  have hl : lv_has ls 2 [(0, .ref b), (1, .int (iI (a)))] := hl
  refine lv_aload_n hx hb dX0_moverFor_0 rfl (lv_at hl 0 rfl) ?_
  refine lv_iload_n hx hb dX0_moverFor_1 rfl (lv_at hl 1 rfl) ?_
  refine r_callV (As := [.int (iI (a))]) (rest := []) S (c_X0_countHome l D cI cL tw (b) (pq) (cq) (P) (a) (hB) (by omega)) gX0_moverFor_X0_countHome rfl rfl rfl ⟨rfl, f_X0_countHome⟩ hR (Nat.le_of_ble_eq_true rfl) (Nat.le_of_ble_eq_true rfl) hE hP [0, 1, 2] rfl 0 rfl rfl rfl hl.1 rfl (Nat.le_of_ble_eq_true rfl) dX0_moverFor_2 ⟨Nat.zero_le _, Nat.zero_le _⟩ (fun z2 hz2 => ?_)
  obtain ⟨hz2, rz2⟩ := hz2
  refine r_iconst hx hb dX0_moverFor_5 ?_
  refine r_icmp_ne (tgt := 16) hx hb dX0_moverFor_6 (by decide) (by unfold rI; omega) (by unfold rI; decide) (fun h6 => ?_) (fun h6 => ?_)
  · refine lv_iload_n hx hb dX0_moverFor_16 rfl (lv_at hl 1 rfl) ?_
    exact hret (a) _ _ dX0_moverFor_17 (by unfold mv; rw [← hz2]; split <;> omega)
  · refine lv_iload_n hx hb dX0_moverFor_9 rfl (lv_at hl 1 rfl) ?_
    refine r_callN (host := RX1) (As := [.int (iI (a))]) (rest := []) S (c_X1_partnerOf l D cI cL tw (a) (by omega)) gX0_moverFor_X1_partnerOf_n26 rfl rfl rfl f_X1_partnerOf hR (Nat.le_of_ble_eq_true rfl) (Nat.le_of_ble_eq_true rfl) hE (by decide +kernel) mw_X0_moverFor_0 mw_X0_moverFor_1 rfl hl.1 rfl (Nat.le_of_ble_eq_true rfl) dX0_moverFor_10 ⟨Nat.zero_le _, Nat.zero_le _⟩ (fun z10 hz10 => ?_)
    obtain ⟨hz10, rz10⟩ := hz10
    refine lv_goto (tgt := 17) hx hb dX0_moverFor_13 (by decide) ?_
    exact hret (z10) _ _ dX0_moverFor_17 (by unfold mv; rw [← hz2]; split <;> omega)

set_option maxRecDepth 20000 in
theorem mw_X0_isWayFree_0 : (.methodLink RX0 60 Lib.Math.min.name : Cond) ∈ wsX0_isWayFree := by decide +kernel
set_option maxRecDepth 20000 in
theorem mw_X0_isWayFree_1 : (.static Lib.Math.min.name : Cond) ∈ wsX0_isWayFree := by decide +kernel
set_option maxRecDepth 20000 in
theorem mw_X0_isWayFree_2 : (.initialized "java/lang/Math" : Cond) ∈ wsX0_isWayFree := by decide +kernel
set_option maxRecDepth 20000 in
theorem mw_X0_isWayFree_3 : (.code Lib.Math.min.name Lib.Math.min.code 2 (some .int) : Cond) ∈ wsX0_isWayFree := by decide +kernel
set_option maxRecDepth 20000 in
theorem mw_X0_isWayFree_4 : (.initialized RX1 : Cond) ∈ wsX0_isWayFree := by decide +kernel
set_option maxRecDepth 20000 in
theorem mw_X0_isWayFree_5 : (.static yX1_otherTeam : Cond) ∈ wsX0_isWayFree := by decide +kernel
theorem f_X0_isWayFree : yX0_isWayFree.cls ≠ "java/lang/invoke/MethodHandle" ∧ yX0_isWayFree.cls ≠ "java/lang/invoke/VarHandle" ∧ (parseMethodDescriptor yX0_isWayFree.desc).map (fun d => d.parameters.length) = some 3 := by decide +kernel
set_option maxHeartbeats 4000000 in
set_option maxRecDepth 100000 in
theorem c_X0_isWayFree (l : Launch) (D : va_G) (cI cL : ClassId) (tw : Nat) (b : Nat) (pq : Nat) (cq : Nat) (P : Int → Int) (a : Int) (s1 : Int) (t : Int) (hB : ∀ i, 0 ≤ P i ∧ P i ≤ 72) (ha : 0 ≤ a ∧ a ≤ 3) (hs : 0 ≤ s1 ∧ s1 ≤ 72) (ht : 0 ≤ t ∧ t ≤ 100) : RO l yX0_isWayFree wsX0_isWayFree { frames := 1, cells := 0, slots := 0, locals := 30 } D cI cL tw [.ref b, .int (iI (a)), .int (iI (s1)), .int (iI (t))] [(b, .inr (0, [.ref pq, .ref cq])), (pq, .inl (cI, 16, .inl (aI P))), (cq, .inl (cI, 136, .inl (aI (cnt P))))] (tz (frW P a s1 t)) := by
  refine ro_of (cc := cX0_isWayFree) (maxL := 6) (rt := .boolean) (own := RX0) (by decide) rfl rfl (Or.inr ⟨rfl, fun z h => by rcases h with ⟨h, _⟩ | ⟨h, _⟩ <;> omega⟩) (Nat.le_of_ble_eq_true rfl) ?_
  intro p e R s mt args below meth c H Q ls S hR hE hP hl hret
  obtain ⟨hx, hb, hml, hown, hts⟩ := id S
  have hl : lv_has ls 6 [(0, .ref b), (1, .int (iI (a))), (2, .int (iI (s1))), (3, .int (iI (t)))] := hl
  refine lv_iload_n hx hb dX0_isWayFree_0 rfl (lv_at hl 3 rfl) ?_
  refine r_bipush hx hb dX0_isWayFree_1 (by decide) ?_
  refine r_mmin S hR (Nat.le_of_ble_eq_true rfl) (Nat.le_of_ble_eq_true rfl) (hts _ mw_X0_isWayFree_0) (hts _ mw_X0_isWayFree_1) (hts _ mw_X0_isWayFree_2) (hts _ mw_X0_isWayFree_3) ⟨Nat.zero_le _, Nat.zero_le _⟩ hl.1 (Nat.le_of_ble_eq_true rfl) (by unfold rI; omega) (by unfold rI; decide) dX0_isWayFree_3 (fun z3 hz3 => ?_)
  refine lv_istore (lv' := [(4, .int (iI (z3))), (0, .ref b), (1, .int (iI (a))), (2, .int (iI (s1))), (3, .int (iI (t)))]) hx hb dX0_isWayFree_6 hl (by decide) rfl (fun ls hl => ?_)
  refine lv_iload_n hx hb dX0_isWayFree_8 rfl (lv_at hl 3 rfl) ?_
  refine r_iconst hx hb dX0_isWayFree_9 ?_
  refine r_iadd hx hb dX0_isWayFree_10 ?_
  refine lv_istore (lv' := [(5, .int (iI ((s1) + (1)))), (4, .int (iI (z3))), (0, .ref b), (1, .int (iI (a))), (2, .int (iI (s1))), (3, .int (iI (t)))]) hx hb dX0_isWayFree_11 hl (by decide) rfl (fun ls hl => ?_)
  have lp_13 : ∀ (d_13 : Nat) (k : Int), (d_13 : Int) = 101 - k → (s1 + 1 ≤ k ∧ k ≤ 101) → (∀ i, s1 < i → i < k → stand P (sq a i) (1 - a % 2) < 2) → ∀ ls : Array Slot, lv_has ls 6 [(5, .int (iI (k))), (4, .int (iI (z3))), (0, .ref b), (1, .int (iI (a))), (2, .int (iI (s1))), (3, .int (iI (t)))] → W p l e R s mt args below meth c H [] 0 0 Q (F0 mt 13 ls []) := by
    intro d_13
    induction d_13 using Nat.strongRecOn with
    | ind d_13 ih_13 =>
    intro k hd_13 hk hall ls hl
    refine lv_iload hx hb dX0_isWayFree_13 (lv_at hl 0 rfl) ?_
    refine lv_iload hx hb dX0_isWayFree_15 (lv_at hl 1 rfl) ?_
    refine r_icmp_gt (tgt := 47) hx hb dX0_isWayFree_17 (by decide) (by unfold rI; omega) (by unfold rI; omega) (fun h17 => ?_) (fun h17 => ?_)
    · refine r_iconst hx hb dX0_isWayFree_47 ?_
      exact hret (1) _ _ dX0_isWayFree_48 (by exact Or.inl ⟨rfl, fun i h1 h2 h3 => hall i h1 (by omega)⟩)
    · refine lv_aload_n hx hb dX0_isWayFree_20 rfl (lv_at hl 2 rfl) ?_
      refine lv_aload_n hx hb dX0_isWayFree_21 rfl (lv_at hl 2 rfl) ?_
      refine lv_iload_n hx hb dX0_isWayFree_22 rfl (lv_at hl 3 rfl) ?_
      refine lv_iload hx hb dX0_isWayFree_23 (lv_at hl 0 rfl) ?_
      refine r_callV (As := [.int (iI (a)), .int (iI (k))]) (rest := [.ref b]) S (c_X0_squareAt l D cI cL tw (b) (pq) (cq) (a) (k) (by omega) (by omega)) gX0_isWayFree_X0_squareAt rfl rfl rfl ⟨rfl, f_X0_squareAt⟩ hR (Nat.le_of_ble_eq_true rfl) (Nat.le_of_ble_eq_true rfl) hE hP [0] rfl 0 rfl rfl rfl hl.1 rfl (Nat.le_of_ble_eq_true rfl) dX0_isWayFree_25 ⟨Nat.zero_le _, Nat.zero_le _⟩ (fun z25 hz25 => ?_)
      obtain ⟨hz25, rz25⟩ := hz25
      refine lv_iload_n hx hb dX0_isWayFree_28 rfl (lv_at hl 3 rfl) ?_
      refine r_callN (host := RX1) (As := [.int (iI (a))]) (rest := [.int (iI (z25)), .ref b]) S (c_X1_otherTeam l D cI cL tw (a) (by omega)) gX0_isWayFree_X1_otherTeam_n65 rfl rfl rfl f_X1_otherTeam hR (Nat.le_of_ble_eq_true rfl) (Nat.le_of_ble_eq_true rfl) hE (by decide +kernel) mw_X0_isWayFree_4 mw_X0_isWayFree_5 rfl hl.1 rfl (Nat.le_of_ble_eq_true rfl) dX0_isWayFree_29 ⟨Nat.zero_le _, Nat.zero_le _⟩ (fun z29 hz29 => ?_)
      obtain ⟨hz29, rz29⟩ := hz29
      refine r_callV (As := [.int (iI (z25)), .int (iI (z29))]) (rest := []) S (c_X0_countOn l D cI cL tw (b) (pq) (cq) (P) (z25) (z29) (hB) (by omega) (by omega)) gX0_isWayFree_X0_countOn rfl rfl rfl ⟨rfl, f_X0_countOn⟩ hR (Nat.le_of_ble_eq_true rfl) (Nat.le_of_ble_eq_true rfl) hE hP [0, 1, 2] rfl 0 rfl rfl rfl hl.1 rfl (Nat.le_of_ble_eq_true rfl) dX0_isWayFree_32 ⟨Nat.zero_le _, Nat.zero_le _⟩ (fun z32 hz32 => ?_)
      obtain ⟨hz32, rz32⟩ := hz32
      have e32 : z32 = stand P (sq a k) (1 - a % 2) := by rw [hz32, hz25, hz29]; unfold sA; rw [if_pos (by omega)]; unfold stA; rw [if_pos (sq_rng a k).1]
      refine r_iconst hx hb dX0_isWayFree_35 ?_
      refine r_icmp_lt (tgt := 41) hx hb dX0_isWayFree_36 (by decide) (by unfold rI; omega) (by unfold rI; decide) (fun h36 => ?_) (fun h36 => ?_)
      · have hst : stand P (sq a k) (1 - a % 2) < 2 := by rw [← e32]; omega
        refine lv_iinc (v := iI (k + 1)) (lv' := [(5, .int (iI (k + 1))), (4, .int (iI (z3))), (0, .ref b), (1, .int (iI (a))), (2, .int (iI (s1))), (3, .int (iI (t)))]) hx hb dX0_isWayFree_41 hl (k := 0) rfl (iI_add _ _) (by decide) rfl (fun ls hl => ?_)
        refine lv_goto (tgt := 13) hx hb dX0_isWayFree_44 (by decide) ?_
        exact ih_13 (101 - (k + 1) : Int).toNat (nlt (by omega) hd_13 (by omega)) (k + 1) (Int.toNat_of_nonneg (by omega)) (by omega) (fun i h1 h2 => if e : i = k then (by subst e; exact hst) else hall i h1 (by omega)) ls (lv_sub hl [0, 1, 2, 3, 4, 5] rfl)
      · refine r_iconst hx hb dX0_isWayFree_39 ?_
        exact hret (0) _ _ dX0_isWayFree_40 (by exact Or.inr ⟨rfl, fun hf => by have := hf k (by omega) (by omega) (by omega); omega⟩)
  exact lp_13 (101 - ((s1) + (1)) : Int).toNat ((s1) + (1)) (Int.toNat_of_nonneg (by omega)) (by omega) (by intro i h1 h2; omega) ls (lv_sub hl [0, 1, 2, 3, 4, 5] rfl)

set_option maxRecDepth 20000 in
theorem mw_X0_isCapture_0 : (.initialized RX1 : Cond) ∈ wsX0_isCapture := by decide +kernel
set_option maxRecDepth 20000 in
theorem mw_X0_isCapture_1 : (.static yX1_otherTeam : Cond) ∈ wsX0_isCapture := by decide +kernel
theorem f_X0_isCapture : yX0_isCapture.cls ≠ "java/lang/invoke/MethodHandle" ∧ yX0_isCapture.cls ≠ "java/lang/invoke/VarHandle" ∧ (parseMethodDescriptor yX0_isCapture.desc).map (fun d => d.parameters.length) = some 2 := by decide +kernel
set_option maxHeartbeats 4000000 in
set_option maxRecDepth 100000 in
theorem c_X0_isCapture (l : Launch) (D : va_G) (cI cL : ClassId) (tw : Nat) (b : Nat) (pq : Nat) (cq : Nat) (P : Int → Int) (a : Int) (t : Int) (hB : ∀ i, 0 ≤ P i ∧ P i ≤ 72) (ha : 0 ≤ a ∧ a ≤ 3) (ht : 0 ≤ t ∧ t ≤ 100) : RO l yX0_isCapture wsX0_isCapture { frames := 1, cells := 0, slots := 0, locals := 23 } D cI cL tw [.ref b, .int (iI (a)), .int (iI (t))] [(b, .inr (0, [.ref pq, .ref cq])), (pq, .inl (cI, 16, .inl (aI P))), (cq, .inl (cI, 136, .inl (aI (cnt P))))] (tz (stA P (sA a t) (1 - a % 2) = 1)) := by
  refine ro_of (cc := cX0_isCapture) (maxL := 3) (rt := .boolean) (own := RX0) (by decide) rfl rfl (Or.inr ⟨rfl, fun z h => by rcases h with ⟨h, _⟩ | ⟨h, _⟩ <;> omega⟩) (Nat.le_of_ble_eq_true rfl) ?_
  intro p e R s mt args below meth c H Q ls S hR hE hP hl hret
  obtain ⟨hx, hb, hml, hown, hts⟩ := id S
  have hl : lv_has ls 3 [(0, .ref b), (1, .int (iI (a))), (2, .int (iI (t)))] := hl
  refine lv_aload_n hx hb dX0_isCapture_0 rfl (lv_at hl 0 rfl) ?_
  refine lv_aload_n hx hb dX0_isCapture_1 rfl (lv_at hl 0 rfl) ?_
  refine lv_iload_n hx hb dX0_isCapture_2 rfl (lv_at hl 1 rfl) ?_
  refine lv_iload_n hx hb dX0_isCapture_3 rfl (lv_at hl 2 rfl) ?_
  refine r_callV (As := [.int (iI (a)), .int (iI (t))]) (rest := [.ref b]) S (c_X0_squareAt l D cI cL tw (b) (pq) (cq) (a) (t) (by omega) (by omega)) gX0_isCapture_X0_squareAt rfl rfl rfl ⟨rfl, f_X0_squareAt⟩ hR (Nat.le_of_ble_eq_true rfl) (Nat.le_of_ble_eq_true rfl) hE hP [0] rfl 0 rfl rfl rfl hl.1 rfl (Nat.le_of_ble_eq_true rfl) dX0_isCapture_4 ⟨Nat.zero_le _, Nat.zero_le _⟩ (fun z4 hz4 => ?_)
  obtain ⟨hz4, rz4⟩ := hz4
  refine lv_iload_n hx hb dX0_isCapture_7 rfl (lv_at hl 1 rfl) ?_
  refine r_callN (host := RX1) (As := [.int (iI (a))]) (rest := [.int (iI (z4)), .ref b]) S (c_X1_otherTeam l D cI cL tw (a) (by omega)) gX0_isCapture_X1_otherTeam_n65 rfl rfl rfl f_X1_otherTeam hR (Nat.le_of_ble_eq_true rfl) (Nat.le_of_ble_eq_true rfl) hE (by decide +kernel) mw_X0_isCapture_0 mw_X0_isCapture_1 rfl hl.1 rfl (Nat.le_of_ble_eq_true rfl) dX0_isCapture_8 ⟨Nat.zero_le _, Nat.zero_le _⟩ (fun z8 hz8 => ?_)
  obtain ⟨hz8, rz8⟩ := hz8
  refine r_callV (As := [.int (iI (z4)), .int (iI (z8))]) (rest := []) S (c_X0_countOn l D cI cL tw (b) (pq) (cq) (P) (z4) (z8) (hB) (by omega) (by omega)) gX0_isCapture_X0_countOn rfl rfl rfl ⟨rfl, f_X0_countOn⟩ hR (Nat.le_of_ble_eq_true rfl) (Nat.le_of_ble_eq_true rfl) hE hP [0, 1, 2] rfl 0 rfl rfl rfl hl.1 rfl (Nat.le_of_ble_eq_true rfl) dX0_isCapture_11 ⟨Nat.zero_le _, Nat.zero_le _⟩ (fun z11 hz11 => ?_)
  obtain ⟨hz11, rz11⟩ := hz11
  refine r_iconst hx hb dX0_isCapture_14 ?_
  refine r_icmp_ne (tgt := 22) hx hb dX0_isCapture_15 (by decide) (by unfold rI; omega) (by unfold rI; decide) (fun h15 => ?_) (fun h15 => ?_)
  · refine r_iconst hx hb dX0_isCapture_22 ?_
    exact hret (0) _ _ dX0_isCapture_23 (by exact Or.inr ⟨rfl, fun q => by rw [hz11, hz4, hz8] at h15; exact h15 q⟩)
  · refine r_iconst hx hb dX0_isCapture_18 ?_
    refine lv_goto (tgt := 23) hx hb dX0_isCapture_19 (by decide) ?_
    exact hret (1) _ _ dX0_isCapture_23 (by exact Or.inl ⟨rfl, by rw [hz11, hz4, hz8] at h15; exact h15⟩)

set_option maxRecDepth 20000 in
theorem mw_X0_targetOf_0 : (.initialized RX1 : Cond) ∈ wsX0_targetOf := by decide +kernel
set_option maxRecDepth 20000 in
theorem mw_X0_targetOf_1 : (.static yX1_worthOf : Cond) ∈ wsX0_targetOf := by decide +kernel
set_option maxRecDepth 20000 in
theorem mw_X0_targetOf_2 : (.static yX1_isSafeSquare : Cond) ∈ wsX0_targetOf := by decide +kernel
set_option maxRecDepth 20000 in
theorem mw_X0_targetOf_3 : (.static yX1_isGrace : Cond) ∈ wsX0_targetOf := by decide +kernel
theorem f_X0_targetOf : yX0_targetOf.cls ≠ "java/lang/invoke/MethodHandle" ∧ yX0_targetOf.cls ≠ "java/lang/invoke/VarHandle" ∧ (parseMethodDescriptor yX0_targetOf.desc).map (fun d => d.parameters.length) = some 3 := by decide +kernel
set_option maxHeartbeats 4000000 in
set_option maxRecDepth 100000 in
theorem c_X0_targetOf (l : Launch) (D : va_G) (cI cL : ClassId) (tw : Nat) (b : Nat) (pq : Nat) (cq : Nat) (P : Int → Int) (a : Int) (j : Int) (m : Int) (hB : ∀ i, 0 ≤ P i ∧ P i ≤ 72) (ha : 0 ≤ a ∧ a ≤ 3) (hj : 0 ≤ j ∧ j < 4) (hm : 0 ≤ m ∧ m ≤ 6) : RO l yX0_targetOf wsX0_targetOf { frames := 2, cells := 0, slots := 0, locals := 55 } D cI cL tw [.ref b, .int (iI (a)), .int (iI (j)), .int (iI (m))] [(b, .inr (0, [.ref pq, .ref cq])), (pq, .inl (cI, 16, .inl (aI P))), (cq, .inl (cI, 136, .inl (aI (cnt P))))] (fun z : Int => z = tX P (4 * a + j) m ∧ -1 ≤ z ∧ z ≤ 72) := by
  refine ro_of (cc := cX0_targetOf) (maxL := 7) (rt := .int) (own := RX0) (by decide) rfl rfl (Or.inl rfl) (Nat.le_of_ble_eq_true rfl) ?_
  intro p e R s mt args below meth c H Q ls S hR hE hP hl hret
  obtain ⟨hx, hb, hml, hown, hts⟩ := id S
  have hl : lv_has ls 7 [(0, .ref b), (1, .int (iI (a))), (2, .int (iI (j))), (3, .int (iI (m)))] := hl
  refine lv_aload_n hx hb dX0_targetOf_0 rfl (lv_at hl 0 rfl) ?_
  refine lv_iload_n hx hb dX0_targetOf_1 rfl (lv_at hl 1 rfl) ?_
  refine lv_iload_n hx hb dX0_targetOf_2 rfl (lv_at hl 2 rfl) ?_
  refine r_callV (As := [.int (iI (a)), .int (iI (j))]) (rest := []) S (c_X0_positionOf l D cI cL tw (b) (pq) (cq) (P) (a) (j) (hB) (by omega) (by omega)) gX0_targetOf_X0_positionOf rfl rfl rfl ⟨rfl, f_X0_positionOf⟩ hR (Nat.le_of_ble_eq_true rfl) (Nat.le_of_ble_eq_true rfl) hE hP [0, 1, 2] rfl 0 rfl rfl rfl hl.1 rfl (Nat.le_of_ble_eq_true rfl) dX0_targetOf_3 ⟨Nat.zero_le _, Nat.zero_le _⟩ (fun z3 hz3 => ?_)
  obtain ⟨hz3, rz3⟩ := hz3
  refine lv_istore (lv' := [(4, .int (iI (z3))), (0, .ref b), (1, .int (iI (a))), (2, .int (iI (j))), (3, .int (iI (m)))]) hx hb dX0_targetOf_6 hl (by decide) rfl (fun ls hl => ?_)
  refine lv_iload hx hb dX0_targetOf_8 (lv_at hl 0 rfl) ?_
  refine r_bipush hx hb dX0_targetOf_10 (by decide) ?_
  refine r_icmp_eq (tgt := 27) hx hb dX0_targetOf_12 (by decide) (by unfold rI; omega) (by unfold rI; decide) (fun h12 => ?_) (fun h12 => ?_)
  · refine r_iconst hx hb dX0_targetOf_27 ?_
    exact hret (-1) _ _ dX0_targetOf_28 (by have e := tX_a (P := P) (k := 4 * a + j) (m := m) (by omega); omega)
  · refine lv_iload hx hb dX0_targetOf_15 (lv_at hl 0 rfl) ?_
    refine r_if_ne (tgt := 29) hx hb dX0_targetOf_17 (by decide) (by unfold rI; omega) (fun h17 => ?_) (fun h17 => ?_)
    · refine lv_iload hx hb dX0_targetOf_29 (lv_at hl 0 rfl) ?_
      refine r_if_ne (tgt := 38) hx hb dX0_targetOf_31 (by decide) (by unfold rI; omega) (fun h31 => ?_) (fun h31 => ?_)
      · refine lv_iload hx hb dX0_targetOf_38 (lv_at hl 0 rfl) ?_
        refine lv_iload_n hx hb dX0_targetOf_40 rfl (lv_at hl 4 rfl) ?_
        refine r_callN (host := RX1) (As := [.int (iI (m))]) (rest := [.int (iI (z3))]) S (c_X1_worthOf l D cI cL tw (m) (by omega)) gX0_targetOf_X1_worthOf_n46 rfl rfl rfl f_X1_worthOf hR (Nat.le_of_ble_eq_true rfl) (Nat.le_of_ble_eq_true rfl) hE (by decide +kernel) mw_X0_targetOf_0 mw_X0_targetOf_1 rfl hl.1 rfl (Nat.le_of_ble_eq_true rfl) dX0_targetOf_41 ⟨Nat.zero_le _, Nat.zero_le _⟩ (fun z41 hz41 => ?_)
        obtain ⟨hz41, rz41⟩ := hz41
        refine r_iadd hx hb dX0_targetOf_44 ?_
        refine lv_istore (lv' := [(5, .int (iI ((z3) + (z41)))), (4, .int (iI (z3))), (0, .ref b), (1, .int (iI (a))), (2, .int (iI (j))), (3, .int (iI (m)))]) hx hb dX0_targetOf_45 hl (by decide) rfl (fun ls hl => ?_)
        refine lv_iload hx hb dX0_targetOf_47 (lv_at hl 0 rfl) ?_
        refine r_bipush hx hb dX0_targetOf_49 (by decide) ?_
        refine r_icmp_gt (tgt := 66) hx hb dX0_targetOf_51 (by decide) (by unfold rI; omega) (by unfold rI; decide) (fun h51 => ?_) (fun h51 => ?_)
        · refine r_iconst hx hb dX0_targetOf_66 ?_
          exact hret (-1) _ _ dX0_targetOf_67 (by have e := tX_b (P := P) (k := 4 * a + j) (m := m) (t := ((z3) + (z41))) (by omega) (by omega); omega)
        · refine lv_aload_n hx hb dX0_targetOf_54 rfl (lv_at hl 2 rfl) ?_
          refine lv_iload_n hx hb dX0_targetOf_55 rfl (lv_at hl 3 rfl) ?_
          refine lv_iload hx hb dX0_targetOf_56 (lv_at hl 1 rfl) ?_
          refine lv_iload hx hb dX0_targetOf_58 (lv_at hl 0 rfl) ?_
          refine r_callV (As := [.int (iI (a)), .int (iI (z3)), .int (iI ((z3) + (z41)))]) (rest := []) S (c_X0_isWayFree l D cI cL tw (b) (pq) (cq) (P) (a) (z3) ((z3) + (z41)) (hB) (by omega) (by omega) (by omega)) gX0_targetOf_X0_isWayFree rfl rfl rfl ⟨rfl, f_X0_isWayFree⟩ hR (Nat.le_of_ble_eq_true rfl) (Nat.le_of_ble_eq_true rfl) hE hP [0, 1, 2] rfl 0 rfl rfl rfl hl.1 rfl (Nat.le_of_ble_eq_true rfl) dX0_targetOf_60 ⟨Nat.zero_le _, Nat.zero_le _⟩ (fun z60 hz60 => ?_)
          rcases hz60 with ⟨rfl, hz60⟩ | ⟨rfl, hz60⟩
          · refine r_if_ne (tgt := 68) hx hb dX0_targetOf_63 (by decide) (by unfold rI; decide) (fun h63 => ?_) (fun h9 => absurd h9 (by omega))
            refine lv_aload_n hx hb dX0_targetOf_68 rfl (lv_at hl 2 rfl) ?_
            refine lv_iload_n hx hb dX0_targetOf_69 rfl (lv_at hl 3 rfl) ?_
            refine lv_iload hx hb dX0_targetOf_70 (lv_at hl 0 rfl) ?_
            refine r_callV (As := [.int (iI (a)), .int (iI ((z3) + (z41)))]) (rest := []) S (c_X0_isCapture l D cI cL tw (b) (pq) (cq) (P) (a) ((z3) + (z41)) (hB) (by omega) (by omega)) gX0_targetOf_X0_isCapture rfl rfl rfl ⟨rfl, f_X0_isCapture⟩ hR (Nat.le_of_ble_eq_true rfl) (Nat.le_of_ble_eq_true rfl) hE hP [0, 1, 2] rfl 0 rfl rfl rfl hl.1 rfl (Nat.le_of_ble_eq_true rfl) dX0_targetOf_72 ⟨Nat.zero_le _, Nat.zero_le _⟩ (fun z72 hz72 => ?_)
            rcases hz72 with ⟨rfl, hz72⟩ | ⟨rfl, hz72⟩
            · refine r_if_eq (tgt := 95) hx hb dX0_targetOf_75 (by decide) (by unfold rI; decide) (fun h9 => absurd h9 (by omega)) (fun h75 => ?_)
              refine lv_aload_n hx hb dX0_targetOf_78 rfl (lv_at hl 2 rfl) ?_
              refine lv_iload_n hx hb dX0_targetOf_79 rfl (lv_at hl 3 rfl) ?_
              refine lv_iload hx hb dX0_targetOf_80 (lv_at hl 0 rfl) ?_
              refine r_callV (As := [.int (iI (a)), .int (iI ((z3) + (z41)))]) (rest := []) S (c_X0_squareAt l D cI cL tw (b) (pq) (cq) (a) ((z3) + (z41)) (by omega) (by omega)) gX0_targetOf_X0_squareAt rfl rfl rfl ⟨rfl, f_X0_squareAt⟩ hR (Nat.le_of_ble_eq_true rfl) (Nat.le_of_ble_eq_true rfl) hE hP [0] rfl 0 rfl rfl rfl hl.1 rfl (Nat.le_of_ble_eq_true rfl) dX0_targetOf_82 ⟨Nat.zero_le _, Nat.zero_le _⟩ (fun z82 hz82 => ?_)
              obtain ⟨hz82, rz82⟩ := hz82
              refine r_callN (host := RX1) (As := [.int (iI (z82))]) (rest := []) S (c_X1_isSafeSquare l D cI cL tw (z82) (by have q1 := (stA_on hz72).1; have q2 := sq_rng a (((z3) + (z41))); omega)) gX0_targetOf_X1_isSafeSquare_n57 rfl rfl rfl f_X1_isSafeSquare hR (Nat.le_of_ble_eq_true rfl) (Nat.le_of_ble_eq_true rfl) hE (by decide +kernel) mw_X0_targetOf_0 mw_X0_targetOf_2 rfl hl.1 rfl (Nat.le_of_ble_eq_true rfl) dX0_targetOf_85 ⟨Nat.zero_le _, Nat.zero_le _⟩ (fun z85 hz85 => ?_)
              rcases hz85 with ⟨rfl, hz85⟩ | ⟨rfl, hz85⟩
              · refine r_if_eq (tgt := 95) hx hb dX0_targetOf_88 (by decide) (by unfold rI; decide) (fun h9 => absurd h9 (by omega)) (fun h88 => ?_)
                refine r_iconst hx hb dX0_targetOf_91 ?_
                refine lv_goto (tgt := 96) hx hb dX0_targetOf_92 (by decide) ?_
                refine lv_istore (lv' := [(6, .int (iI (1))), (5, .int (iI ((z3) + (z41)))), (4, .int (iI (z3))), (0, .ref b), (1, .int (iI (a))), (2, .int (iI (j))), (3, .int (iI (m)))]) hx hb dX0_targetOf_96 hl (by decide) rfl (fun ls hl => ?_)
                refine lv_iload hx hb dX0_targetOf_98 (lv_at hl 0 rfl) ?_
                refine r_if_eq (tgt := 107) hx hb dX0_targetOf_100 (by decide) (by unfold rI; decide) (fun h9 => absurd h9 (by omega)) (fun h100 => ?_)
                refine r_iconst hx hb dX0_targetOf_103 ?_
                refine lv_goto (tgt := 109) hx hb dX0_targetOf_104 (by decide) ?_
                exact hret (-1) _ _ dX0_targetOf_109 (by have e0 := tgt_is (P := P) (k := 4 * a + j) (m := m) (t := ((z3) + (z41))) (by omega) (by omega); have e := tX_e e0 (a := a) (by omega) hz72 (by rw [← hz82]; exact hz85); omega)
              · refine r_if_eq (tgt := 95) hx hb dX0_targetOf_88 (by decide) (by unfold rI; decide) (fun h88 => ?_) (fun h9 => absurd h9 (by omega))
                refine r_iconst hx hb dX0_targetOf_95 ?_
                refine lv_istore (lv' := [(6, .int (iI (0))), (5, .int (iI ((z3) + (z41)))), (4, .int (iI (z3))), (0, .ref b), (1, .int (iI (a))), (2, .int (iI (j))), (3, .int (iI (m)))]) hx hb dX0_targetOf_96 hl (by decide) rfl (fun ls hl => ?_)
                refine lv_iload hx hb dX0_targetOf_98 (lv_at hl 0 rfl) ?_
                refine r_if_eq (tgt := 107) hx hb dX0_targetOf_100 (by decide) (by unfold rI; decide) (fun h100 => ?_) (fun h9 => absurd h9 (by omega))
                refine lv_iload hx hb dX0_targetOf_107 (lv_at hl 1 rfl) ?_
                exact hret ((z3) + (z41)) _ _ dX0_targetOf_109 (by have e0 := tgt_is (P := P) (k := 4 * a + j) (m := m) (t := ((z3) + (z41))) (by omega) (by omega); have e := tX_f e0 (a := a) (by omega) hm (by omega) (by rw [← hz3]; exact hz60) (Or.inr (by rw [← hz82]; exact hz85)); omega)
            · refine r_if_eq (tgt := 95) hx hb dX0_targetOf_75 (by decide) (by unfold rI; decide) (fun h75 => ?_) (fun h9 => absurd h9 (by omega))
              refine r_iconst hx hb dX0_targetOf_95 ?_
              refine lv_istore (lv' := [(6, .int (iI (0))), (5, .int (iI ((z3) + (z41)))), (4, .int (iI (z3))), (0, .ref b), (1, .int (iI (a))), (2, .int (iI (j))), (3, .int (iI (m)))]) hx hb dX0_targetOf_96 hl (by decide) rfl (fun ls hl => ?_)
              refine lv_iload hx hb dX0_targetOf_98 (lv_at hl 0 rfl) ?_
              refine r_if_eq (tgt := 107) hx hb dX0_targetOf_100 (by decide) (by unfold rI; decide) (fun h100 => ?_) (fun h9 => absurd h9 (by omega))
              refine lv_iload hx hb dX0_targetOf_107 (lv_at hl 1 rfl) ?_
              exact hret ((z3) + (z41)) _ _ dX0_targetOf_109 (by have e0 := tgt_is (P := P) (k := 4 * a + j) (m := m) (t := ((z3) + (z41))) (by omega) (by omega); have e := tX_f e0 (a := a) (by omega) hm (by omega) (by rw [← hz3]; exact hz60) (Or.inl hz72); omega)
          · refine r_if_ne (tgt := 68) hx hb dX0_targetOf_63 (by decide) (by unfold rI; decide) (fun h9 => absurd h9 (by omega)) (fun h63 => ?_)
            refine r_iconst hx hb dX0_targetOf_66 ?_
            exact hret (-1) _ _ dX0_targetOf_67 (by have e0 := tgt_is (P := P) (k := 4 * a + j) (m := m) (t := ((z3) + (z41))) (by omega) (by omega); have e := tX_d e0 (a := a) (by omega) (by rw [← hz3]; exact hz60); omega)
      · refine r_iconst hx hb dX0_targetOf_34 ?_
        refine lv_goto (tgt := 45) hx hb dX0_targetOf_35 (by decide) ?_
        refine lv_istore (lv' := [(5, .int (iI (1))), (4, .int (iI (z3))), (0, .ref b), (1, .int (iI (a))), (2, .int (iI (j))), (3, .int (iI (m)))]) hx hb dX0_targetOf_45 hl (by decide) rfl (fun ls hl => ?_)
        refine lv_iload hx hb dX0_targetOf_47 (lv_at hl 0 rfl) ?_
        refine r_bipush hx hb dX0_targetOf_49 (by decide) ?_
        refine r_icmp_gt (tgt := 66) hx hb dX0_targetOf_51 (by decide) (by unfold rI; decide) (by unfold rI; decide) (fun h9 => absurd h9 (by omega)) (fun h51 => ?_)
        refine lv_aload_n hx hb dX0_targetOf_54 rfl (lv_at hl 2 rfl) ?_
        refine lv_iload_n hx hb dX0_targetOf_55 rfl (lv_at hl 3 rfl) ?_
        refine lv_iload hx hb dX0_targetOf_56 (lv_at hl 1 rfl) ?_
        refine lv_iload hx hb dX0_targetOf_58 (lv_at hl 0 rfl) ?_
        refine r_callV (As := [.int (iI (a)), .int (iI (z3)), .int (iI (1))]) (rest := []) S (c_X0_isWayFree l D cI cL tw (b) (pq) (cq) (P) (a) (z3) (1) (hB) (by omega) (by omega) (by omega)) gX0_targetOf_X0_isWayFree rfl rfl rfl ⟨rfl, f_X0_isWayFree⟩ hR (Nat.le_of_ble_eq_true rfl) (Nat.le_of_ble_eq_true rfl) hE hP [0, 1, 2] rfl 0 rfl rfl rfl hl.1 rfl (Nat.le_of_ble_eq_true rfl) dX0_targetOf_60 ⟨Nat.zero_le _, Nat.zero_le _⟩ (fun z60 hz60 => ?_)
        rcases hz60 with ⟨rfl, hz60⟩ | ⟨rfl, hz60⟩
        · refine r_if_ne (tgt := 68) hx hb dX0_targetOf_63 (by decide) (by unfold rI; decide) (fun h63 => ?_) (fun h9 => absurd h9 (by omega))
          refine lv_aload_n hx hb dX0_targetOf_68 rfl (lv_at hl 2 rfl) ?_
          refine lv_iload_n hx hb dX0_targetOf_69 rfl (lv_at hl 3 rfl) ?_
          refine lv_iload hx hb dX0_targetOf_70 (lv_at hl 0 rfl) ?_
          refine r_callV (As := [.int (iI (a)), .int (iI (1))]) (rest := []) S (c_X0_isCapture l D cI cL tw (b) (pq) (cq) (P) (a) (1) (hB) (by omega) (by omega)) gX0_targetOf_X0_isCapture rfl rfl rfl ⟨rfl, f_X0_isCapture⟩ hR (Nat.le_of_ble_eq_true rfl) (Nat.le_of_ble_eq_true rfl) hE hP [0, 1, 2] rfl 0 rfl rfl rfl hl.1 rfl (Nat.le_of_ble_eq_true rfl) dX0_targetOf_72 ⟨Nat.zero_le _, Nat.zero_le _⟩ (fun z72 hz72 => ?_)
          rcases hz72 with ⟨rfl, hz72⟩ | ⟨rfl, hz72⟩
          · refine r_if_eq (tgt := 95) hx hb dX0_targetOf_75 (by decide) (by unfold rI; decide) (fun h9 => absurd h9 (by omega)) (fun h75 => ?_)
            refine lv_aload_n hx hb dX0_targetOf_78 rfl (lv_at hl 2 rfl) ?_
            refine lv_iload_n hx hb dX0_targetOf_79 rfl (lv_at hl 3 rfl) ?_
            refine lv_iload hx hb dX0_targetOf_80 (lv_at hl 0 rfl) ?_
            refine r_callV (As := [.int (iI (a)), .int (iI (1))]) (rest := []) S (c_X0_squareAt l D cI cL tw (b) (pq) (cq) (a) (1) (by omega) (by omega)) gX0_targetOf_X0_squareAt rfl rfl rfl ⟨rfl, f_X0_squareAt⟩ hR (Nat.le_of_ble_eq_true rfl) (Nat.le_of_ble_eq_true rfl) hE hP [0] rfl 0 rfl rfl rfl hl.1 rfl (Nat.le_of_ble_eq_true rfl) dX0_targetOf_82 ⟨Nat.zero_le _, Nat.zero_le _⟩ (fun z82 hz82 => ?_)
            obtain ⟨hz82, rz82⟩ := hz82
            refine r_callN (host := RX1) (As := [.int (iI (z82))]) (rest := []) S (c_X1_isSafeSquare l D cI cL tw (z82) (by have q1 := (stA_on hz72).1; have q2 := sq_rng a ((1)); omega)) gX0_targetOf_X1_isSafeSquare_n57 rfl rfl rfl f_X1_isSafeSquare hR (Nat.le_of_ble_eq_true rfl) (Nat.le_of_ble_eq_true rfl) hE (by decide +kernel) mw_X0_targetOf_0 mw_X0_targetOf_2 rfl hl.1 rfl (Nat.le_of_ble_eq_true rfl) dX0_targetOf_85 ⟨Nat.zero_le _, Nat.zero_le _⟩ (fun z85 hz85 => ?_)
            rcases hz85 with ⟨rfl, hz85⟩ | ⟨rfl, hz85⟩
            · refine r_if_eq (tgt := 95) hx hb dX0_targetOf_88 (by decide) (by unfold rI; decide) (fun h9 => absurd h9 (by omega)) (fun h88 => ?_)
              refine r_iconst hx hb dX0_targetOf_91 ?_
              refine lv_goto (tgt := 96) hx hb dX0_targetOf_92 (by decide) ?_
              refine lv_istore (lv' := [(6, .int (iI (1))), (5, .int (iI (1))), (4, .int (iI (z3))), (0, .ref b), (1, .int (iI (a))), (2, .int (iI (j))), (3, .int (iI (m)))]) hx hb dX0_targetOf_96 hl (by decide) rfl (fun ls hl => ?_)
              refine lv_iload hx hb dX0_targetOf_98 (lv_at hl 0 rfl) ?_
              refine r_if_eq (tgt := 107) hx hb dX0_targetOf_100 (by decide) (by unfold rI; decide) (fun h9 => absurd h9 (by omega)) (fun h100 => ?_)
              refine r_iconst hx hb dX0_targetOf_103 ?_
              refine lv_goto (tgt := 109) hx hb dX0_targetOf_104 (by decide) ?_
              exact hret (-1) _ _ dX0_targetOf_109 (by have e0 := tgt_is (P := P) (k := 4 * a + j) (m := m) (t := (1)) (by omega) (by omega); have e := tX_e e0 (a := a) (by omega) hz72 (by rw [← hz82]; exact hz85); omega)
            · refine r_if_eq (tgt := 95) hx hb dX0_targetOf_88 (by decide) (by unfold rI; decide) (fun h88 => ?_) (fun h9 => absurd h9 (by omega))
              refine r_iconst hx hb dX0_targetOf_95 ?_
              refine lv_istore (lv' := [(6, .int (iI (0))), (5, .int (iI (1))), (4, .int (iI (z3))), (0, .ref b), (1, .int (iI (a))), (2, .int (iI (j))), (3, .int (iI (m)))]) hx hb dX0_targetOf_96 hl (by decide) rfl (fun ls hl => ?_)
              refine lv_iload hx hb dX0_targetOf_98 (lv_at hl 0 rfl) ?_
              refine r_if_eq (tgt := 107) hx hb dX0_targetOf_100 (by decide) (by unfold rI; decide) (fun h100 => ?_) (fun h9 => absurd h9 (by omega))
              refine lv_iload hx hb dX0_targetOf_107 (lv_at hl 1 rfl) ?_
              exact hret (1) _ _ dX0_targetOf_109 (by have e0 := tgt_is (P := P) (k := 4 * a + j) (m := m) (t := (1)) (by omega) (by omega); have e := tX_f e0 (a := a) (by omega) hm (by omega) (by rw [← hz3]; exact hz60) (Or.inr (by rw [← hz82]; exact hz85)); omega)
          · refine r_if_eq (tgt := 95) hx hb dX0_targetOf_75 (by decide) (by unfold rI; decide) (fun h75 => ?_) (fun h9 => absurd h9 (by omega))
            refine r_iconst hx hb dX0_targetOf_95 ?_
            refine lv_istore (lv' := [(6, .int (iI (0))), (5, .int (iI (1))), (4, .int (iI (z3))), (0, .ref b), (1, .int (iI (a))), (2, .int (iI (j))), (3, .int (iI (m)))]) hx hb dX0_targetOf_96 hl (by decide) rfl (fun ls hl => ?_)
            refine lv_iload hx hb dX0_targetOf_98 (lv_at hl 0 rfl) ?_
            refine r_if_eq (tgt := 107) hx hb dX0_targetOf_100 (by decide) (by unfold rI; decide) (fun h100 => ?_) (fun h9 => absurd h9 (by omega))
            refine lv_iload hx hb dX0_targetOf_107 (lv_at hl 1 rfl) ?_
            exact hret (1) _ _ dX0_targetOf_109 (by have e0 := tgt_is (P := P) (k := 4 * a + j) (m := m) (t := (1)) (by omega) (by omega); have e := tX_f e0 (a := a) (by omega) hm (by omega) (by rw [← hz3]; exact hz60) (Or.inl hz72); omega)
        · refine r_if_ne (tgt := 68) hx hb dX0_targetOf_63 (by decide) (by unfold rI; decide) (fun h9 => absurd h9 (by omega)) (fun h63 => ?_)
          refine r_iconst hx hb dX0_targetOf_66 ?_
          exact hret (-1) _ _ dX0_targetOf_67 (by have e0 := tgt_is (P := P) (k := 4 * a + j) (m := m) (t := (1)) (by omega) (by omega); have e := tX_d e0 (a := a) (by omega) (by rw [← hz3]; exact hz60); omega)
    · refine lv_iload_n hx hb dX0_targetOf_20 rfl (lv_at hl 4 rfl) ?_
      refine r_callN (host := RX1) (As := [.int (iI (m))]) (rest := []) S (c_X1_isGrace l D cI cL tw (m) (by omega)) gX0_targetOf_X1_isGrace_n42 rfl rfl rfl f_X1_isGrace hR (Nat.le_of_ble_eq_true rfl) (Nat.le_of_ble_eq_true rfl) hE (by decide +kernel) mw_X0_targetOf_0 mw_X0_targetOf_3 rfl hl.1 rfl (Nat.le_of_ble_eq_true rfl) dX0_targetOf_21 ⟨Nat.zero_le _, Nat.zero_le _⟩ (fun z21 hz21 => ?_)
      rcases hz21 with ⟨rfl, hz21⟩ | ⟨rfl, hz21⟩
      · refine r_if_ne (tgt := 29) hx hb dX0_targetOf_24 (by decide) (by unfold rI; decide) (fun h24 => ?_) (fun h9 => absurd h9 (by omega))
        refine lv_iload hx hb dX0_targetOf_29 (lv_at hl 0 rfl) ?_
        refine r_if_ne (tgt := 38) hx hb dX0_targetOf_31 (by decide) (by unfold rI; omega) (fun h31 => ?_) (fun h31 => ?_)
        · refine lv_iload hx hb dX0_targetOf_38 (lv_at hl 0 rfl) ?_
          refine lv_iload_n hx hb dX0_targetOf_40 rfl (lv_at hl 4 rfl) ?_
          refine r_callN (host := RX1) (As := [.int (iI (m))]) (rest := [.int (iI (z3))]) S (c_X1_worthOf l D cI cL tw (m) (by omega)) gX0_targetOf_X1_worthOf_n46 rfl rfl rfl f_X1_worthOf hR (Nat.le_of_ble_eq_true rfl) (Nat.le_of_ble_eq_true rfl) hE (by decide +kernel) mw_X0_targetOf_0 mw_X0_targetOf_1 rfl hl.1 rfl (Nat.le_of_ble_eq_true rfl) dX0_targetOf_41 ⟨Nat.zero_le _, Nat.zero_le _⟩ (fun z41 hz41 => ?_)
          obtain ⟨hz41, rz41⟩ := hz41
          refine r_iadd hx hb dX0_targetOf_44 ?_
          refine lv_istore (lv' := [(5, .int (iI ((z3) + (z41)))), (4, .int (iI (z3))), (0, .ref b), (1, .int (iI (a))), (2, .int (iI (j))), (3, .int (iI (m)))]) hx hb dX0_targetOf_45 hl (by decide) rfl (fun ls hl => ?_)
          refine lv_iload hx hb dX0_targetOf_47 (lv_at hl 0 rfl) ?_
          refine r_bipush hx hb dX0_targetOf_49 (by decide) ?_
          refine r_icmp_gt (tgt := 66) hx hb dX0_targetOf_51 (by decide) (by unfold rI; omega) (by unfold rI; decide) (fun h51 => ?_) (fun h51 => ?_)
          · refine r_iconst hx hb dX0_targetOf_66 ?_
            exact hret (-1) _ _ dX0_targetOf_67 (by have e := tX_b (P := P) (k := 4 * a + j) (m := m) (t := ((z3) + (z41))) (by omega) (by omega); omega)
          · refine lv_aload_n hx hb dX0_targetOf_54 rfl (lv_at hl 2 rfl) ?_
            refine lv_iload_n hx hb dX0_targetOf_55 rfl (lv_at hl 3 rfl) ?_
            refine lv_iload hx hb dX0_targetOf_56 (lv_at hl 1 rfl) ?_
            refine lv_iload hx hb dX0_targetOf_58 (lv_at hl 0 rfl) ?_
            refine r_callV (As := [.int (iI (a)), .int (iI (z3)), .int (iI ((z3) + (z41)))]) (rest := []) S (c_X0_isWayFree l D cI cL tw (b) (pq) (cq) (P) (a) (z3) ((z3) + (z41)) (hB) (by omega) (by omega) (by omega)) gX0_targetOf_X0_isWayFree rfl rfl rfl ⟨rfl, f_X0_isWayFree⟩ hR (Nat.le_of_ble_eq_true rfl) (Nat.le_of_ble_eq_true rfl) hE hP [0, 1, 2] rfl 0 rfl rfl rfl hl.1 rfl (Nat.le_of_ble_eq_true rfl) dX0_targetOf_60 ⟨Nat.zero_le _, Nat.zero_le _⟩ (fun z60 hz60 => ?_)
            rcases hz60 with ⟨rfl, hz60⟩ | ⟨rfl, hz60⟩
            · refine r_if_ne (tgt := 68) hx hb dX0_targetOf_63 (by decide) (by unfold rI; decide) (fun h63 => ?_) (fun h9 => absurd h9 (by omega))
              refine lv_aload_n hx hb dX0_targetOf_68 rfl (lv_at hl 2 rfl) ?_
              refine lv_iload_n hx hb dX0_targetOf_69 rfl (lv_at hl 3 rfl) ?_
              refine lv_iload hx hb dX0_targetOf_70 (lv_at hl 0 rfl) ?_
              refine r_callV (As := [.int (iI (a)), .int (iI ((z3) + (z41)))]) (rest := []) S (c_X0_isCapture l D cI cL tw (b) (pq) (cq) (P) (a) ((z3) + (z41)) (hB) (by omega) (by omega)) gX0_targetOf_X0_isCapture rfl rfl rfl ⟨rfl, f_X0_isCapture⟩ hR (Nat.le_of_ble_eq_true rfl) (Nat.le_of_ble_eq_true rfl) hE hP [0, 1, 2] rfl 0 rfl rfl rfl hl.1 rfl (Nat.le_of_ble_eq_true rfl) dX0_targetOf_72 ⟨Nat.zero_le _, Nat.zero_le _⟩ (fun z72 hz72 => ?_)
              rcases hz72 with ⟨rfl, hz72⟩ | ⟨rfl, hz72⟩
              · refine r_if_eq (tgt := 95) hx hb dX0_targetOf_75 (by decide) (by unfold rI; decide) (fun h9 => absurd h9 (by omega)) (fun h75 => ?_)
                refine lv_aload_n hx hb dX0_targetOf_78 rfl (lv_at hl 2 rfl) ?_
                refine lv_iload_n hx hb dX0_targetOf_79 rfl (lv_at hl 3 rfl) ?_
                refine lv_iload hx hb dX0_targetOf_80 (lv_at hl 0 rfl) ?_
                refine r_callV (As := [.int (iI (a)), .int (iI ((z3) + (z41)))]) (rest := []) S (c_X0_squareAt l D cI cL tw (b) (pq) (cq) (a) ((z3) + (z41)) (by omega) (by omega)) gX0_targetOf_X0_squareAt rfl rfl rfl ⟨rfl, f_X0_squareAt⟩ hR (Nat.le_of_ble_eq_true rfl) (Nat.le_of_ble_eq_true rfl) hE hP [0] rfl 0 rfl rfl rfl hl.1 rfl (Nat.le_of_ble_eq_true rfl) dX0_targetOf_82 ⟨Nat.zero_le _, Nat.zero_le _⟩ (fun z82 hz82 => ?_)
                obtain ⟨hz82, rz82⟩ := hz82
                refine r_callN (host := RX1) (As := [.int (iI (z82))]) (rest := []) S (c_X1_isSafeSquare l D cI cL tw (z82) (by have q1 := (stA_on hz72).1; have q2 := sq_rng a (((z3) + (z41))); omega)) gX0_targetOf_X1_isSafeSquare_n57 rfl rfl rfl f_X1_isSafeSquare hR (Nat.le_of_ble_eq_true rfl) (Nat.le_of_ble_eq_true rfl) hE (by decide +kernel) mw_X0_targetOf_0 mw_X0_targetOf_2 rfl hl.1 rfl (Nat.le_of_ble_eq_true rfl) dX0_targetOf_85 ⟨Nat.zero_le _, Nat.zero_le _⟩ (fun z85 hz85 => ?_)
                rcases hz85 with ⟨rfl, hz85⟩ | ⟨rfl, hz85⟩
                · refine r_if_eq (tgt := 95) hx hb dX0_targetOf_88 (by decide) (by unfold rI; decide) (fun h9 => absurd h9 (by omega)) (fun h88 => ?_)
                  refine r_iconst hx hb dX0_targetOf_91 ?_
                  refine lv_goto (tgt := 96) hx hb dX0_targetOf_92 (by decide) ?_
                  refine lv_istore (lv' := [(6, .int (iI (1))), (5, .int (iI ((z3) + (z41)))), (4, .int (iI (z3))), (0, .ref b), (1, .int (iI (a))), (2, .int (iI (j))), (3, .int (iI (m)))]) hx hb dX0_targetOf_96 hl (by decide) rfl (fun ls hl => ?_)
                  refine lv_iload hx hb dX0_targetOf_98 (lv_at hl 0 rfl) ?_
                  refine r_if_eq (tgt := 107) hx hb dX0_targetOf_100 (by decide) (by unfold rI; decide) (fun h9 => absurd h9 (by omega)) (fun h100 => ?_)
                  refine r_iconst hx hb dX0_targetOf_103 ?_
                  refine lv_goto (tgt := 109) hx hb dX0_targetOf_104 (by decide) ?_
                  exact hret (-1) _ _ dX0_targetOf_109 (by have e0 := tgt_is (P := P) (k := 4 * a + j) (m := m) (t := ((z3) + (z41))) (by omega) (by omega); have e := tX_e e0 (a := a) (by omega) hz72 (by rw [← hz82]; exact hz85); omega)
                · refine r_if_eq (tgt := 95) hx hb dX0_targetOf_88 (by decide) (by unfold rI; decide) (fun h88 => ?_) (fun h9 => absurd h9 (by omega))
                  refine r_iconst hx hb dX0_targetOf_95 ?_
                  refine lv_istore (lv' := [(6, .int (iI (0))), (5, .int (iI ((z3) + (z41)))), (4, .int (iI (z3))), (0, .ref b), (1, .int (iI (a))), (2, .int (iI (j))), (3, .int (iI (m)))]) hx hb dX0_targetOf_96 hl (by decide) rfl (fun ls hl => ?_)
                  refine lv_iload hx hb dX0_targetOf_98 (lv_at hl 0 rfl) ?_
                  refine r_if_eq (tgt := 107) hx hb dX0_targetOf_100 (by decide) (by unfold rI; decide) (fun h100 => ?_) (fun h9 => absurd h9 (by omega))
                  refine lv_iload hx hb dX0_targetOf_107 (lv_at hl 1 rfl) ?_
                  exact hret ((z3) + (z41)) _ _ dX0_targetOf_109 (by have e0 := tgt_is (P := P) (k := 4 * a + j) (m := m) (t := ((z3) + (z41))) (by omega) (by omega); have e := tX_f e0 (a := a) (by omega) hm (by omega) (by rw [← hz3]; exact hz60) (Or.inr (by rw [← hz82]; exact hz85)); omega)
              · refine r_if_eq (tgt := 95) hx hb dX0_targetOf_75 (by decide) (by unfold rI; decide) (fun h75 => ?_) (fun h9 => absurd h9 (by omega))
                refine r_iconst hx hb dX0_targetOf_95 ?_
                refine lv_istore (lv' := [(6, .int (iI (0))), (5, .int (iI ((z3) + (z41)))), (4, .int (iI (z3))), (0, .ref b), (1, .int (iI (a))), (2, .int (iI (j))), (3, .int (iI (m)))]) hx hb dX0_targetOf_96 hl (by decide) rfl (fun ls hl => ?_)
                refine lv_iload hx hb dX0_targetOf_98 (lv_at hl 0 rfl) ?_
                refine r_if_eq (tgt := 107) hx hb dX0_targetOf_100 (by decide) (by unfold rI; decide) (fun h100 => ?_) (fun h9 => absurd h9 (by omega))
                refine lv_iload hx hb dX0_targetOf_107 (lv_at hl 1 rfl) ?_
                exact hret ((z3) + (z41)) _ _ dX0_targetOf_109 (by have e0 := tgt_is (P := P) (k := 4 * a + j) (m := m) (t := ((z3) + (z41))) (by omega) (by omega); have e := tX_f e0 (a := a) (by omega) hm (by omega) (by rw [← hz3]; exact hz60) (Or.inl hz72); omega)
            · refine r_if_ne (tgt := 68) hx hb dX0_targetOf_63 (by decide) (by unfold rI; decide) (fun h9 => absurd h9 (by omega)) (fun h63 => ?_)
              refine r_iconst hx hb dX0_targetOf_66 ?_
              exact hret (-1) _ _ dX0_targetOf_67 (by have e0 := tgt_is (P := P) (k := 4 * a + j) (m := m) (t := ((z3) + (z41))) (by omega) (by omega); have e := tX_d e0 (a := a) (by omega) (by rw [← hz3]; exact hz60); omega)
        · refine r_iconst hx hb dX0_targetOf_34 ?_
          refine lv_goto (tgt := 45) hx hb dX0_targetOf_35 (by decide) ?_
          refine lv_istore (lv' := [(5, .int (iI (1))), (4, .int (iI (z3))), (0, .ref b), (1, .int (iI (a))), (2, .int (iI (j))), (3, .int (iI (m)))]) hx hb dX0_targetOf_45 hl (by decide) rfl (fun ls hl => ?_)
          refine lv_iload hx hb dX0_targetOf_47 (lv_at hl 0 rfl) ?_
          refine r_bipush hx hb dX0_targetOf_49 (by decide) ?_
          refine r_icmp_gt (tgt := 66) hx hb dX0_targetOf_51 (by decide) (by unfold rI; decide) (by unfold rI; decide) (fun h9 => absurd h9 (by omega)) (fun h51 => ?_)
          refine lv_aload_n hx hb dX0_targetOf_54 rfl (lv_at hl 2 rfl) ?_
          refine lv_iload_n hx hb dX0_targetOf_55 rfl (lv_at hl 3 rfl) ?_
          refine lv_iload hx hb dX0_targetOf_56 (lv_at hl 1 rfl) ?_
          refine lv_iload hx hb dX0_targetOf_58 (lv_at hl 0 rfl) ?_
          refine r_callV (As := [.int (iI (a)), .int (iI (z3)), .int (iI (1))]) (rest := []) S (c_X0_isWayFree l D cI cL tw (b) (pq) (cq) (P) (a) (z3) (1) (hB) (by omega) (by omega) (by omega)) gX0_targetOf_X0_isWayFree rfl rfl rfl ⟨rfl, f_X0_isWayFree⟩ hR (Nat.le_of_ble_eq_true rfl) (Nat.le_of_ble_eq_true rfl) hE hP [0, 1, 2] rfl 0 rfl rfl rfl hl.1 rfl (Nat.le_of_ble_eq_true rfl) dX0_targetOf_60 ⟨Nat.zero_le _, Nat.zero_le _⟩ (fun z60 hz60 => ?_)
          rcases hz60 with ⟨rfl, hz60⟩ | ⟨rfl, hz60⟩
          · refine r_if_ne (tgt := 68) hx hb dX0_targetOf_63 (by decide) (by unfold rI; decide) (fun h63 => ?_) (fun h9 => absurd h9 (by omega))
            refine lv_aload_n hx hb dX0_targetOf_68 rfl (lv_at hl 2 rfl) ?_
            refine lv_iload_n hx hb dX0_targetOf_69 rfl (lv_at hl 3 rfl) ?_
            refine lv_iload hx hb dX0_targetOf_70 (lv_at hl 0 rfl) ?_
            refine r_callV (As := [.int (iI (a)), .int (iI (1))]) (rest := []) S (c_X0_isCapture l D cI cL tw (b) (pq) (cq) (P) (a) (1) (hB) (by omega) (by omega)) gX0_targetOf_X0_isCapture rfl rfl rfl ⟨rfl, f_X0_isCapture⟩ hR (Nat.le_of_ble_eq_true rfl) (Nat.le_of_ble_eq_true rfl) hE hP [0, 1, 2] rfl 0 rfl rfl rfl hl.1 rfl (Nat.le_of_ble_eq_true rfl) dX0_targetOf_72 ⟨Nat.zero_le _, Nat.zero_le _⟩ (fun z72 hz72 => ?_)
            rcases hz72 with ⟨rfl, hz72⟩ | ⟨rfl, hz72⟩
            · refine r_if_eq (tgt := 95) hx hb dX0_targetOf_75 (by decide) (by unfold rI; decide) (fun h9 => absurd h9 (by omega)) (fun h75 => ?_)
              refine lv_aload_n hx hb dX0_targetOf_78 rfl (lv_at hl 2 rfl) ?_
              refine lv_iload_n hx hb dX0_targetOf_79 rfl (lv_at hl 3 rfl) ?_
              refine lv_iload hx hb dX0_targetOf_80 (lv_at hl 0 rfl) ?_
              refine r_callV (As := [.int (iI (a)), .int (iI (1))]) (rest := []) S (c_X0_squareAt l D cI cL tw (b) (pq) (cq) (a) (1) (by omega) (by omega)) gX0_targetOf_X0_squareAt rfl rfl rfl ⟨rfl, f_X0_squareAt⟩ hR (Nat.le_of_ble_eq_true rfl) (Nat.le_of_ble_eq_true rfl) hE hP [0] rfl 0 rfl rfl rfl hl.1 rfl (Nat.le_of_ble_eq_true rfl) dX0_targetOf_82 ⟨Nat.zero_le _, Nat.zero_le _⟩ (fun z82 hz82 => ?_)
              obtain ⟨hz82, rz82⟩ := hz82
              refine r_callN (host := RX1) (As := [.int (iI (z82))]) (rest := []) S (c_X1_isSafeSquare l D cI cL tw (z82) (by have q1 := (stA_on hz72).1; have q2 := sq_rng a ((1)); omega)) gX0_targetOf_X1_isSafeSquare_n57 rfl rfl rfl f_X1_isSafeSquare hR (Nat.le_of_ble_eq_true rfl) (Nat.le_of_ble_eq_true rfl) hE (by decide +kernel) mw_X0_targetOf_0 mw_X0_targetOf_2 rfl hl.1 rfl (Nat.le_of_ble_eq_true rfl) dX0_targetOf_85 ⟨Nat.zero_le _, Nat.zero_le _⟩ (fun z85 hz85 => ?_)
              rcases hz85 with ⟨rfl, hz85⟩ | ⟨rfl, hz85⟩
              · refine r_if_eq (tgt := 95) hx hb dX0_targetOf_88 (by decide) (by unfold rI; decide) (fun h9 => absurd h9 (by omega)) (fun h88 => ?_)
                refine r_iconst hx hb dX0_targetOf_91 ?_
                refine lv_goto (tgt := 96) hx hb dX0_targetOf_92 (by decide) ?_
                refine lv_istore (lv' := [(6, .int (iI (1))), (5, .int (iI (1))), (4, .int (iI (z3))), (0, .ref b), (1, .int (iI (a))), (2, .int (iI (j))), (3, .int (iI (m)))]) hx hb dX0_targetOf_96 hl (by decide) rfl (fun ls hl => ?_)
                refine lv_iload hx hb dX0_targetOf_98 (lv_at hl 0 rfl) ?_
                refine r_if_eq (tgt := 107) hx hb dX0_targetOf_100 (by decide) (by unfold rI; decide) (fun h9 => absurd h9 (by omega)) (fun h100 => ?_)
                refine r_iconst hx hb dX0_targetOf_103 ?_
                refine lv_goto (tgt := 109) hx hb dX0_targetOf_104 (by decide) ?_
                exact hret (-1) _ _ dX0_targetOf_109 (by have e0 := tgt_is (P := P) (k := 4 * a + j) (m := m) (t := (1)) (by omega) (by omega); have e := tX_e e0 (a := a) (by omega) hz72 (by rw [← hz82]; exact hz85); omega)
              · refine r_if_eq (tgt := 95) hx hb dX0_targetOf_88 (by decide) (by unfold rI; decide) (fun h88 => ?_) (fun h9 => absurd h9 (by omega))
                refine r_iconst hx hb dX0_targetOf_95 ?_
                refine lv_istore (lv' := [(6, .int (iI (0))), (5, .int (iI (1))), (4, .int (iI (z3))), (0, .ref b), (1, .int (iI (a))), (2, .int (iI (j))), (3, .int (iI (m)))]) hx hb dX0_targetOf_96 hl (by decide) rfl (fun ls hl => ?_)
                refine lv_iload hx hb dX0_targetOf_98 (lv_at hl 0 rfl) ?_
                refine r_if_eq (tgt := 107) hx hb dX0_targetOf_100 (by decide) (by unfold rI; decide) (fun h100 => ?_) (fun h9 => absurd h9 (by omega))
                refine lv_iload hx hb dX0_targetOf_107 (lv_at hl 1 rfl) ?_
                exact hret (1) _ _ dX0_targetOf_109 (by have e0 := tgt_is (P := P) (k := 4 * a + j) (m := m) (t := (1)) (by omega) (by omega); have e := tX_f e0 (a := a) (by omega) hm (by omega) (by rw [← hz3]; exact hz60) (Or.inr (by rw [← hz82]; exact hz85)); omega)
            · refine r_if_eq (tgt := 95) hx hb dX0_targetOf_75 (by decide) (by unfold rI; decide) (fun h75 => ?_) (fun h9 => absurd h9 (by omega))
              refine r_iconst hx hb dX0_targetOf_95 ?_
              refine lv_istore (lv' := [(6, .int (iI (0))), (5, .int (iI (1))), (4, .int (iI (z3))), (0, .ref b), (1, .int (iI (a))), (2, .int (iI (j))), (3, .int (iI (m)))]) hx hb dX0_targetOf_96 hl (by decide) rfl (fun ls hl => ?_)
              refine lv_iload hx hb dX0_targetOf_98 (lv_at hl 0 rfl) ?_
              refine r_if_eq (tgt := 107) hx hb dX0_targetOf_100 (by decide) (by unfold rI; decide) (fun h100 => ?_) (fun h9 => absurd h9 (by omega))
              refine lv_iload hx hb dX0_targetOf_107 (lv_at hl 1 rfl) ?_
              exact hret (1) _ _ dX0_targetOf_109 (by have e0 := tgt_is (P := P) (k := 4 * a + j) (m := m) (t := (1)) (by omega) (by omega); have e := tX_f e0 (a := a) (by omega) hm (by omega) (by rw [← hz3]; exact hz60) (Or.inl hz72); omega)
          · refine r_if_ne (tgt := 68) hx hb dX0_targetOf_63 (by decide) (by unfold rI; decide) (fun h9 => absurd h9 (by omega)) (fun h63 => ?_)
            refine r_iconst hx hb dX0_targetOf_66 ?_
            exact hret (-1) _ _ dX0_targetOf_67 (by have e0 := tgt_is (P := P) (k := 4 * a + j) (m := m) (t := (1)) (by omega) (by omega); have e := tX_d e0 (a := a) (by omega) (by rw [← hz3]; exact hz60); omega)
      · refine r_if_ne (tgt := 29) hx hb dX0_targetOf_24 (by decide) (by unfold rI; decide) (fun h9 => absurd h9 (by omega)) (fun h24 => ?_)
        refine r_iconst hx hb dX0_targetOf_27 ?_
        exact hret (-1) _ _ dX0_targetOf_28 (by have e := tX_a (P := P) (k := 4 * a + j) (m := m) (by omega); omega)
