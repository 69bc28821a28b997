theorem f_X2_isIn : yX2_isIn.cls ≠ "java/lang/invoke/MethodHandle" ∧ yX2_isIn.cls ≠ "java/lang/invoke/VarHandle" ∧ (parseMethodDescriptor yX2_isIn.desc).map (fun d => d.parameters.length) = some 3 := by decide +kernel
set_option maxHeartbeats 4000000 in
set_option maxRecDepth 100000 in
theorem c_X2_isIn (l : Launch) (D : va_G) (cI cL : ClassId) (tw : Nat) (v : Int) (lo : Int) (hi : Int) (hv : -2147483648 ≤ v ∧ v < 2147483648) (h1 : -1000 ≤ lo ∧ lo ≤ 1000) (h2 : -1000 ≤ hi ∧ hi ≤ 1000) : RO l yX2_isIn wsX2_isIn { frames := 0, cells := 0, slots := 0, locals := 0 } D cI cL tw [.int (iI (v)), .int (iI (lo)), .int (iI (hi))] [] (tz (lo ≤ v ∧ v ≤ hi)) := by
  refine ro_of (cc := cX2_isIn) (maxL := 3) (rt := .boolean) (own := RX2) (by decide) rfl rfl (Or.inr ⟨rfl, fun z h => by rcases h with ⟨h, _⟩ | ⟨h, _⟩ <;> omega⟩) (Nat.le_of_ble_eq_true rfl) ?_
  intro p e R s mt args below meth c H Q ls S hR hE hP hl hret
  obtain ⟨hx, hb, hml, hown, hts⟩ := id S
  have hl : lv_has ls 3 [(0, .int (iI (v))), (1, .int (iI (lo))), (2, .int (iI (hi)))] := hl
  refine lv_iload_n hx hb dX2_isIn_0 rfl (lv_at hl 0 rfl) ?_
  refine lv_iload_n hx hb dX2_isIn_1 rfl (lv_at hl 1 rfl) ?_
  refine r_icmp_lt (tgt := 14) hx hb dX2_isIn_2 (by decide) (by unfold rI; omega) (by unfold rI; omega) (fun h2 => ?_) (fun h2 => ?_)
  · refine r_iconst hx hb dX2_isIn_14 ?_
    exact hret (0) _ _ dX2_isIn_15 (by unfold tz; omega)
  · refine lv_iload_n hx hb dX2_isIn_5 rfl (lv_at hl 0 rfl) ?_
    refine lv_iload_n hx hb dX2_isIn_6 rfl (lv_at hl 2 rfl) ?_
    refine r_icmp_gt (tgt := 14) hx hb dX2_isIn_7 (by decide) (by unfold rI; omega) (by unfold rI; omega) (fun h7 => ?_) (fun h7 => ?_)
    · refine r_iconst hx hb dX2_isIn_14 ?_
      exact hret (0) _ _ dX2_isIn_15 (by unfold tz; omega)
    · refine r_iconst hx hb dX2_isIn_10 ?_
      refine lv_goto (tgt := 15) hx hb dX2_isIn_11 (by decide) ?_
      exact hret (1) _ _ dX2_isIn_15 (by unfold tz; omega)

theorem f_X2_worth : yX2_worth.cls ≠ "java/lang/invoke/MethodHandle" ∧ yX2_worth.cls ≠ "java/lang/invoke/VarHandle" ∧ (parseMethodDescriptor yX2_worth.desc).map (fun d => d.parameters.length) = some 1 := by decide +kernel
set_option maxHeartbeats 4000000 in
set_option maxRecDepth 100000 in
theorem c_X2_worth (l : Launch) (D : va_G) (cI cL : ClassId) (tw : Nat) (m : Int) (hm : 0 ≤ m ∧ m ≤ 6) : RO l yX2_worth wsX2_worth { frames := 0, cells := 0, slots := 0, locals := 0 } D cI cL tw [.int (iI (m))] [] (fun z : Int => z = wo m ∧ 2 ≤ z ∧ z ≤ 25) := by
  refine ro_of (cc := cX2_worth) (maxL := 1) (rt := .int) (own := RX2) (by decide) rfl rfl (Or.inl rfl) (Nat.le_of_ble_eq_true rfl) ?_
  intro p e R s mt args below meth c H Q ls S hR hE hP hl hret
  obtain ⟨hx, hb, hml, hown, hts⟩ := id S
  have hl : lv_has ls 1 [(0, .int (iI (m)))] := hl
  refine lv_iload_n hx hb dX2_worth_0 rfl (lv_at hl 0 rfl) ?_
  refine r_if_ne (tgt := 9) hx hb dX2_worth_1 (by decide) (by unfold rI; omega) (fun h1 => ?_) (fun h1 => ?_)
  · refine lv_iload_n hx hb dX2_worth_9 rfl (lv_at hl 0 rfl) ?_
    refine r_iconst hx hb dX2_worth_10 ?_
    refine r_icmp_ne (tgt := 19) hx hb dX2_worth_11 (by decide) (by unfold rI; omega) (by unfold rI; decide) (fun h11 => ?_) (fun h11 => ?_)
    · refine lv_iload_n hx hb dX2_worth_19 rfl (lv_at hl 0 rfl) ?_
      exact hret (m) _ _ dX2_worth_20 (by unfold wo; (repeat' split) <;> omega)
    · refine r_bipush hx hb dX2_worth_14 (by decide) ?_
      refine lv_goto (tgt := 20) hx hb dX2_worth_16 (by decide) ?_
      exact hret (10) _ _ dX2_worth_20 (by unfold wo; (repeat' split) <;> omega)
  · refine r_bipush hx hb dX2_worth_4 (by decide) ?_
    refine lv_goto (tgt := 20) hx hb dX2_worth_6 (by decide) ?_
    exact hret (25) _ _ dX2_worth_20 (by unfold wo; (repeat' split) <;> omega)

theorem f_X2_isGrace : yX2_isGrace.cls ≠ "java/lang/invoke/MethodHandle" ∧ yX2_isGrace.cls ≠ "java/lang/invoke/VarHandle" ∧ (parseMethodDescriptor yX2_isGrace.desc).map (fun d => d.parameters.length) = some 1 := by decide +kernel
set_option maxHeartbeats 4000000 in
set_option maxRecDepth 100000 in
theorem c_X2_isGrace (l : Launch) (D : va_G) (cI cL : ClassId) (tw : Nat) (m : Int) (hm : 0 ≤ m ∧ m ≤ 6) : RO l yX2_isGrace wsX2_isGrace { frames := 0, cells := 0, slots := 0, locals := 0 } D cI cL tw [.int (iI (m))] [] (tz (m ≤ 1 ∨ m = 6)) := by
  refine ro_of (cc := cX2_isGrace) (maxL := 1) (rt := .boolean) (own := RX2) (by decide) rfl rfl (Or.inr ⟨rfl, fun z h => by rcases h with ⟨h, _⟩ | ⟨h, _⟩ <;> omega⟩) (Nat.le_of_ble_eq_true rfl) ?_
  intro p e R s mt args below meth c H Q ls S hR hE hP hl hret
  obtain ⟨hx, hb, hml, hown, hts⟩ := id S
  have hl : lv_has ls 1 [(0, .int (iI (m)))] := hl
  refine lv_iload_n hx hb dX2_isGrace_0 rfl (lv_at hl 0 rfl) ?_
  refine r_iconst hx hb dX2_isGrace_1 ?_
  refine r_icmp_lt (tgt := 11) hx hb dX2_isGrace_2 (by decide) (by unfold rI; omega) (by unfold rI; decide) (fun h2 => ?_) (fun h2 => ?_)
  · refine r_iconst hx hb dX2_isGrace_11 ?_
    refine lv_goto (tgt := 16) hx hb dX2_isGrace_12 (by decide) ?_
    exact hret (1) _ _ dX2_isGrace_16 (by unfold tz; omega)
  · refine lv_iload_n hx hb dX2_isGrace_5 rfl (lv_at hl 0 rfl) ?_
    refine r_bipush hx hb dX2_isGrace_6 (by decide) ?_
    refine r_icmp_ne (tgt := 15) hx hb dX2_isGrace_8 (by decide) (by unfold rI; omega) (by unfold rI; decide) (fun h8 => ?_) (fun h8 => ?_)
    · refine r_iconst hx hb dX2_isGrace_15 ?_
      exact hret (0) _ _ dX2_isGrace_16 (by unfold tz; omega)
    · refine r_iconst hx hb dX2_isGrace_11 ?_
      refine lv_goto (tgt := 16) hx hb dX2_isGrace_12 (by decide) ?_
      exact hret (1) _ _ dX2_isGrace_16 (by unfold tz; omega)

theorem f_X2_squareOf : yX2_squareOf.cls ≠ "java/lang/invoke/MethodHandle" ∧ yX2_squareOf.cls ≠ "java/lang/invoke/VarHandle" ∧ (parseMethodDescriptor yX2_squareOf.desc).map (fun d => d.parameters.length) = some 2 := by decide +kernel
set_option maxHeartbeats 4000000 in
set_option maxRecDepth 100000 in
theorem c_X2_squareOf (l : Launch) (D : va_G) (cI cL : ClassId) (tw : Nat) (a : Int) (q : Int) (ha : 0 ≤ a ∧ a ≤ 3) (hq : 0 ≤ q ∧ q ≤ 100) : RO l yX2_squareOf wsX2_squareOf { frames := 0, cells := 0, slots := 0, locals := 0 } D cI cL tw [.int (iI (a)), .int (iI (q))] [] (fun z : Int => z = sq a q ∧ 0 ≤ z ∧ z ≤ 67) := by
  refine ro_of (cc := cX2_squareOf) (maxL := 2) (rt := .int) (own := RX2) (by decide) rfl rfl (Or.inl rfl) (Nat.le_of_ble_eq_true rfl) ?_
  intro p e R s mt args below meth c H Q ls S hR hE hP hl hret
  obtain ⟨hx, hb, hml, hown, hts⟩ := id S
  have hl : lv_has ls 2 [(0, .int (iI (a))), (1, .int (iI (q)))] := hl
  refine r_bipush hx hb dX2_squareOf_0 (by decide) ?_
  refine lv_iload_n hx hb dX2_squareOf_2 rfl (lv_at hl 0 rfl) ?_
  refine r_imul hx hb dX2_squareOf_3 ?_
  refine r_iconst hx hb dX2_squareOf_4 ?_
  refine r_iadd hx hb dX2_squareOf_5 ?_
  refine lv_iload_n hx hb dX2_squareOf_6 rfl (lv_at hl 1 rfl) ?_
  refine r_iadd hx hb dX2_squareOf_7 ?_
  refine r_bipush hx hb dX2_squareOf_8 (by decide) ?_
  refine r_irem hx hb dX2_squareOf_10 (by omega) (by omega) ?_
  exact hret (((((17) * (a)) + (3)) + (q)) % (68)) _ _ dX2_squareOf_11 (by unfold sq; omega)

theorem f_X2_isSafeOne : yX2_isSafeOne.cls ≠ "java/lang/invoke/MethodHandle" ∧ yX2_isSafeOne.cls ≠ "java/lang/invoke/VarHandle" ∧ (parseMethodDescriptor yX2_isSafeOne.desc).map (fun d => d.parameters.length) = some 1 := by decide +kernel
set_option maxHeartbeats 4000000 in
set_option maxRecDepth 100000 in
theorem c_X2_isSafeOne (l : Launch) (D : va_G) (cI cL : ClassId) (tw : Nat) (q : Int) (hq : 0 ≤ q ∧ q ≤ 67) : RO l yX2_isSafeOne wsX2_isSafeOne { frames := 0, cells := 0, slots := 0, locals := 0 } D cI cL tw [.int (iI (q))] [] (tz (q % 17 = 4 ∨ q % 17 = 11)) := by
  refine ro_of (cc := cX2_isSafeOne) (maxL := 1) (rt := .boolean) (own := RX2) (by decide) rfl rfl (Or.inr ⟨rfl, fun z h => by rcases h with ⟨h, _⟩ | ⟨h, _⟩ <;> omega⟩) (Nat.le_of_ble_eq_true rfl) ?_
  intro p e R s mt args below meth c H Q ls S hR hE hP hl hret
  obtain ⟨hx, hb, hml, hown, hts⟩ := id S
  have hl : lv_has ls 1 [(0, .int (iI (q)))] := hl
  refine lv_iload_n hx hb dX2_isSafeOne_0 rfl (lv_at hl 0 rfl) ?_
  refine r_bipush hx hb dX2_isSafeOne_1 (by decide) ?_
  refine r_irem hx hb dX2_isSafeOne_3 (by omega) (by omega) ?_
  refine r_iconst hx hb dX2_isSafeOne_4 ?_
  refine r_icmp_eq (tgt := 17) hx hb dX2_isSafeOne_5 (by decide) (by unfold rI; omega) (by unfold rI; decide) (fun h5 => ?_) (fun h5 => ?_)
  · refine r_iconst hx hb dX2_isSafeOne_17 ?_
    refine lv_goto (tgt := 22) hx hb dX2_isSafeOne_18 (by decide) ?_
    exact hret (1) _ _ dX2_isSafeOne_22 (by unfold tz; omega)
  · refine lv_iload_n hx hb dX2_isSafeOne_8 rfl (lv_at hl 0 rfl) ?_
    refine r_bipush hx hb dX2_isSafeOne_9 (by decide) ?_
    refine r_irem hx hb dX2_isSafeOne_11 (by omega) (by omega) ?_
    refine r_bipush hx hb dX2_isSafeOne_12 (by decide) ?_
    refine r_icmp_ne (tgt := 21) hx hb dX2_isSafeOne_14 (by decide) (by unfold rI; omega) (by unfold rI; decide) (fun h14 => ?_) (fun h14 => ?_)
    · refine r_iconst hx hb dX2_isSafeOne_21 ?_
      exact hret (0) _ _ dX2_isSafeOne_22 (by unfold tz; omega)
    · refine r_iconst hx hb dX2_isSafeOne_17 ?_
      refine lv_goto (tgt := 22) hx hb dX2_isSafeOne_18 (by decide) ?_
      exact hret (1) _ _ dX2_isSafeOne_22 (by unfold tz; omega)

set_option maxRecDepth 20000 in
theorem mw_X2_stand_0 : (.fieldLink RX2 7 "PachisiYardModel" "at" "[I" : Cond) ∈ wsX2_stand := by decide +kernel
set_option maxRecDepth 20000 in
theorem mu_X2_stand_X2 : ∀ w ∈ wsX20, w ∈ wsX2_stand := by decide +kernel
theorem f_X2_stand : yX2_stand.cls ≠ "java/lang/invoke/MethodHandle" ∧ yX2_stand.cls ≠ "java/lang/invoke/VarHandle" ∧ (parseMethodDescriptor yX2_stand.desc).map (fun d => d.parameters.length) = some 2 := by decide +kernel
set_option maxHeartbeats 4000000 in
set_option maxRecDepth 100000 in
theorem c_X2_stand (l : Launch) (D : va_G) (cI cL : ClassId) (tw : Nat) (g0 : Nat) (g1 : Nat) (g2 : Nat) (g3 : Nat) (tu : Int) (ph : Int) (mo : Int) (gc : Int) (th : Int) (P : Int → Int) (C : Int → Int) (q : Int) (t : Int) (hB : ∀ i, 0 ≤ P i ∧ P i ≤ 72) (hq : 0 ≤ q ∧ q ≤ 67) (ht : 0 ≤ t ∧ t ≤ 1) : RO l yX2_stand wsX2_stand { frames := 1, cells := 0, slots := 0, locals := 22 } D cI cL tw [.ref g0, .int (iI (q)), .int (iI (t))] [(g0, .inr (2, [.ref g1, .int (iI (tu)), .int (iI (ph)), .int (iI (mo)), .int (iI (gc)), .ref g2, .ref g3, .int (iI (th))])), (g1, .inl (cI, 16, .inl (aI P))), (g2, .inl (cI, 4, .inl (aI C))), (g3, .inl (cI, 7, .inl (aI wyI)))] (fun z : Int => z = stand P q t ∧ 0 ≤ z ∧ z ≤ 16) := by
  refine ro_of (cc := cX2_stand) (maxL := 6) (rt := .int) (own := RX2) (by decide) rfl rfl (Or.inl rfl) (Nat.le_of_ble_eq_true rfl) ?_
  intro p e R s mt args below meth c H Q ls S hR hE hP hl hret
  obtain ⟨hx, hb, hml, hown, hts⟩ := id S
  have hl : lv_has ls 6 [(0, .ref g0), (1, .int (iI (q))), (2, .int (iI (t)))] := hl
  refine r_iconst hx hb dX2_stand_0 ?_
  refine lv_istore_n (lv' := [(3, .int (iI (0))), (0, .ref g0), (1, .int (iI (q))), (2, .int (iI (t)))]) hx hb dX2_stand_1 rfl hl (by decide) rfl (fun ls hl => ?_)
  refine r_iconst hx hb dX2_stand_2 ?_
  refine lv_istore (lv' := [(4, .int (iI (0))), (3, .int (iI (0))), (0, .ref g0), (1, .int (iI (q))), (2, .int (iI (t)))]) hx hb dX2_stand_3 hl (by decide) rfl (fun ls hl => ?_)
  have lp_5 : ∀ (d_5 : Nat) (n : Int) (k : Int), (d_5 : Int) = 16 - k → (0 ≤ k ∧ k ≤ 16) → (n = sZ (onN P q t) k ∧ 0 ≤ n ∧ n ≤ k) → ∀ ls : Array Slot, lv_has ls 6 [(4, .int (iI (k))), (3, .int (iI (n))), (0, .ref g0), (1, .int (iI (q))), (2, .int (iI (t)))] → W p l e R s mt args below meth c H [] 0 0 Q (F0 mt 5 ls []) := by
    intro d_5
    induction d_5 using Nat.strongRecOn with
    | ind d_5 ih_5 =>
    intro n k hd_5 hk hn ls hl
    refine lv_iload hx hb dX2_stand_5 (lv_at hl 0 rfl) ?_
    refine r_bipush hx hb dX2_stand_7 (by decide) ?_
    refine r_icmp_ge (tgt := 82) hx hb dX2_stand_9 (by decide) (by unfold rI; omega) (by unfold rI; decide) (fun h9 => ?_) (fun h9 => ?_)
    · refine lv_iload_n hx hb dX2_stand_82 rfl (lv_at hl 1 rfl) ?_
      exact hret (n) _ _ dX2_stand_83 (by have e : k = 16 := (by omega); subst e; exact ⟨hn.1, by omega⟩)
    · refine lv_aload_n hx hb dX2_stand_12 rfl (lv_at hl 2 rfl) ?_
      refine va_get (D := D) (ci := 2) (v := .ref g1) (C := RX2) (T := TX2) (N := 8) hx hb hts mu_X2_stand_X2 hown hE.1 hP 0 rfl rfl 0 (by decide) (hts _ mw_X2_stand_0) (fun _ h9 => h9) rfl dX2_stand_13 ?_
      refine lv_iload hx hb dX2_stand_16 (lv_at hl 0 rfl) ?_
      refine r_iald hx hb hE.1 hP 1 rfl (i := k) (by omega) (by omega) (by decide) dX2_stand_18 ?_
      obtain ⟨v18, ev18⟩ : ∃ v : Int, v = P (k) := ⟨_, rfl⟩
      have gv18 := hB (k)
      refine r_top v18 ev18.symm ?_
      rw [← ev18] at gv18
      refine r_iconst hx hb dX2_stand_19 ?_
      refine r_bipush hx hb dX2_stand_20 (by decide) ?_
      refine r_callS (As := [.int (iI (v18)), .int (iI (1)), .int (iI (64))]) (rest := []) S (c_X2_isIn l D cI cL tw (v18) (1) (64) (by omega) (by omega) (by omega)) gX2_stand_X2_isIn rfl rfl rfl f_X2_isIn hR (Nat.le_of_ble_eq_true rfl) (Nat.le_of_ble_eq_true rfl) hE rfl hl.1 rfl (Nat.le_of_ble_eq_true rfl) dX2_stand_22 ⟨Nat.zero_le _, Nat.zero_le _⟩ (fun z22 hz22 => ?_)
      rcases hz22 with ⟨rfl, hz22⟩ | ⟨rfl, hz22⟩
      · refine r_if_eq (tgt := 42) hx hb dX2_stand_25 (by decide) (by unfold rI; decide) (fun h9 => absurd h9 (by omega)) (fun h25 => ?_)
        refine lv_iload hx hb dX2_stand_28 (lv_at hl 0 rfl) ?_
        refine r_iconst hx hb dX2_stand_30 ?_
        refine r_idiv hx hb dX2_stand_31 (by omega) (by omega) ?_
        refine r_iconst hx hb dX2_stand_32 ?_
        refine r_irem hx hb dX2_stand_33 (by omega) (by omega) ?_
        refine lv_iload_n hx hb dX2_stand_34 rfl (lv_at hl 4 rfl) ?_
        refine r_icmp_ne (tgt := 42) hx hb dX2_stand_35 (by decide) (by unfold rI; omega) (by unfold rI; omega) (fun h35 => ?_) (fun h35 => ?_)
        · refine r_iconst hx hb dX2_stand_42 ?_
          refine lv_istore (lv' := [(5, .int (iI (0))), (4, .int (iI (k))), (3, .int (iI (n))), (0, .ref g0), (1, .int (iI (q))), (2, .int (iI (t)))]) hx hb dX2_stand_43 hl (by decide) rfl (fun ls hl => ?_)
          refine lv_iload_n hx hb dX2_stand_45 rfl (lv_at hl 2 rfl) ?_
          refine lv_iload hx hb dX2_stand_46 (lv_at hl 0 rfl) ?_
          refine r_if_eq (tgt := 73) hx hb dX2_stand_48 (by decide) (by unfold rI; decide) (fun h48 => ?_) (fun h9 => absurd h9 (by omega))
          refine r_iconst hx hb dX2_stand_73 ?_
          refine r_iadd hx hb dX2_stand_74 ?_
          refine lv_istore_n (lv' := [(3, .int (iI ((n) + (0)))), (5, .int (iI (0))), (4, .int (iI (k))), (0, .ref g0), (1, .int (iI (q))), (2, .int (iI (t)))]) hx hb dX2_stand_75 rfl hl (by decide) rfl (fun ls hl => ?_)
          refine lv_iinc (v := iI (k + 1)) (lv' := [(4, .int (iI (k + 1))), (3, .int (iI ((n) + (0)))), (5, .int (iI (0))), (0, .ref g0), (1, .int (iI (q))), (2, .int (iI (t)))]) hx hb dX2_stand_76 hl (k := 2) rfl (iI_add _ _) (by decide) rfl (fun ls hl => ?_)
          refine lv_goto (tgt := 5) hx hb dX2_stand_79 (by decide) ?_
          exact ih_5 (16 - (k + 1) : Int).toNat (nlt (by omega) hd_5 (by omega)) ((n) + (0)) (k + 1) (Int.toNat_of_nonneg (by omega)) (by omega) (by refine ⟨?_, by omega⟩; rw [sZ_s _ (by omega), ← hn.1]; unfold onN; rw [if_neg (by omega)]) ls (lv_sub hl [0, 1, 3, 4, 5] rfl)
        · refine r_iconst hx hb dX2_stand_38 ?_
          refine lv_goto (tgt := 43) hx hb dX2_stand_39 (by decide) ?_
          refine lv_istore (lv' := [(5, .int (iI (1))), (4, .int (iI (k))), (3, .int (iI (n))), (0, .ref g0), (1, .int (iI (q))), (2, .int (iI (t)))]) hx hb dX2_stand_43 hl (by decide) rfl (fun ls hl => ?_)
          refine lv_iload_n hx hb dX2_stand_45 rfl (lv_at hl 2 rfl) ?_
          refine lv_iload hx hb dX2_stand_46 (lv_at hl 0 rfl) ?_
          refine r_if_eq (tgt := 73) hx hb dX2_stand_48 (by decide) (by unfold rI; decide) (fun h9 => absurd h9 (by omega)) (fun h48 => ?_)
          refine lv_iload hx hb dX2_stand_51 (lv_at hl 1 rfl) ?_
          refine r_iconst hx hb dX2_stand_53 ?_
          refine r_idiv hx hb dX2_stand_54 (by omega) (by omega) ?_
          refine lv_aload_n hx hb dX2_stand_55 rfl (lv_at hl 3 rfl) ?_
          refine va_get (D := D) (ci := 2) (v := .ref g1) (C := RX2) (T := TX2) (N := 8) hx hb hts mu_X2_stand_X2 hown hE.1 hP 0 rfl rfl 0 (by decide) (hts _ mw_X2_stand_0) (fun _ h9 => h9) rfl dX2_stand_56 ?_
          refine lv_iload hx hb dX2_stand_59 (lv_at hl 1 rfl) ?_
          refine r_iald hx hb hE.1 hP 1 rfl (i := k) (by omega) (by omega) (by decide) dX2_stand_61 ?_
          obtain ⟨v61, ev61⟩ : ∃ v : Int, v = P (k) := ⟨_, rfl⟩
          have gv61 := hB (k)
          refine r_top v61 ev61.symm ?_
          rw [← ev61] at gv61
          refine r_callS (As := [.int (iI ((k) / (4))), .int (iI (v61))]) (rest := [.int (iI (n))]) S (c_X2_squareOf l D cI cL tw ((k) / (4)) (v61) (by omega) (by omega)) gX2_stand_X2_squareOf rfl rfl rfl f_X2_squareOf hR (Nat.le_of_ble_eq_true rfl) (Nat.le_of_ble_eq_true rfl) hE rfl hl.1 rfl (Nat.le_of_ble_eq_true rfl) dX2_stand_62 ⟨Nat.zero_le _, Nat.zero_le _⟩ (fun z62 hz62 => ?_)
          obtain ⟨hz62, rz62⟩ := hz62
          refine lv_iload_n hx hb dX2_stand_65 rfl (lv_at hl 4 rfl) ?_
          refine r_icmp_ne (tgt := 73) hx hb dX2_stand_66 (by decide) (by unfold rI; omega) (by unfold rI; omega) (fun h66 => ?_) (fun h66 => ?_)
          · refine r_iconst hx hb dX2_stand_73 ?_
            refine r_iadd hx hb dX2_stand_74 ?_
            refine lv_istore_n (lv' := [(3, .int (iI ((n) + (0)))), (5, .int (iI (1))), (4, .int (iI (k))), (0, .ref g0), (1, .int (iI (q))), (2, .int (iI (t)))]) hx hb dX2_stand_75 rfl hl (by decide) rfl (fun ls hl => ?_)
            refine lv_iinc (v := iI (k + 1)) (lv' := [(4, .int (iI (k + 1))), (3, .int (iI ((n) + (0)))), (5, .int (iI (1))), (0, .ref g0), (1, .int (iI (q))), (2, .int (iI (t)))]) hx hb dX2_stand_76 hl (k := 2) rfl (iI_add _ _) (by decide) rfl (fun ls hl => ?_)
            refine lv_goto (tgt := 5) hx hb dX2_stand_79 (by decide) ?_
            exact ih_5 (16 - (k + 1) : Int).toNat (nlt (by omega) hd_5 (by omega)) ((n) + (0)) (k + 1) (Int.toNat_of_nonneg (by omega)) (by omega) (by rw [ev61] at hz62; refine ⟨?_, by omega⟩; rw [sZ_s _ (by omega), ← hn.1]; unfold onN; rw [if_neg (by omega)]) ls (lv_sub hl [0, 1, 3, 4, 5] rfl)
          · refine r_iconst hx hb dX2_stand_69 ?_
            refine lv_goto (tgt := 74) hx hb dX2_stand_70 (by decide) ?_
            refine r_iadd hx hb dX2_stand_74 ?_
            refine lv_istore_n (lv' := [(3, .int (iI ((n) + (1)))), (5, .int (iI (1))), (4, .int (iI (k))), (0, .ref g0), (1, .int (iI (q))), (2, .int (iI (t)))]) hx hb dX2_stand_75 rfl hl (by decide) rfl (fun ls hl => ?_)
            refine lv_iinc (v := iI (k + 1)) (lv' := [(4, .int (iI (k + 1))), (3, .int (iI ((n) + (1)))), (5, .int (iI (1))), (0, .ref g0), (1, .int (iI (q))), (2, .int (iI (t)))]) hx hb dX2_stand_76 hl (k := 2) rfl (iI_add _ _) (by decide) rfl (fun ls hl => ?_)
            refine lv_goto (tgt := 5) hx hb dX2_stand_79 (by decide) ?_
            exact ih_5 (16 - (k + 1) : Int).toNat (nlt (by omega) hd_5 (by omega)) ((n) + (1)) (k + 1) (Int.toNat_of_nonneg (by omega)) (by omega) (by rw [ev61] at hz62; refine ⟨?_, by omega⟩; rw [sZ_s _ (by omega), ← hn.1]; unfold onN; rw [if_pos (by omega)]) ls (lv_sub hl [0, 1, 3, 4, 5] rfl)
      · refine r_if_eq (tgt := 42) hx hb dX2_stand_25 (by decide) (by unfold rI; decide) (fun h25 => ?_) (fun h9 => absurd h9 (by omega))
        refine r_iconst hx hb dX2_stand_42 ?_
        refine lv_istore (lv' := [(5, .int (iI (0))), (4, .int (iI (k))), (3, .int (iI (n))), (0, .ref g0), (1, .int (iI (q))), (2, .int (iI (t)))]) hx hb dX2_stand_43 hl (by decide) rfl (fun ls hl => ?_)
        refine lv_iload_n hx hb dX2_stand_45 rfl (lv_at hl 2 rfl) ?_
        refine lv_iload hx hb dX2_stand_46 (lv_at hl 0 rfl) ?_
        refine r_if_eq (tgt := 73) hx hb dX2_stand_48 (by decide) (by unfold rI; decide) (fun h48 => ?_) (fun h9 => absurd h9 (by omega))
        refine r_iconst hx hb dX2_stand_73 ?_
        refine r_iadd hx hb dX2_stand_74 ?_
        refine lv_istore_n (lv' := [(3, .int (iI ((n) + (0)))), (5, .int (iI (0))), (4, .int (iI (k))), (0, .ref g0), (1, .int (iI (q))), (2, .int (iI (t)))]) hx hb dX2_stand_75 rfl hl (by decide) rfl (fun ls hl => ?_)
        refine lv_iinc (v := iI (k + 1)) (lv' := [(4, .int (iI (k + 1))), (3, .int (iI ((n) + (0)))), (5, .int (iI (0))), (0, .ref g0), (1, .int (iI (q))), (2, .int (iI (t)))]) hx hb dX2_stand_76 hl (k := 2) rfl (iI_add _ _) (by decide) rfl (fun ls hl => ?_)
        refine lv_goto (tgt := 5) hx hb dX2_stand_79 (by decide) ?_
        exact ih_5 (16 - (k + 1) : Int).toNat (nlt (by omega) hd_5 (by omega)) ((n) + (0)) (k + 1) (Int.toNat_of_nonneg (by omega)) (by omega) (by refine ⟨?_, by omega⟩; rw [sZ_s _ (by omega), ← hn.1]; unfold onN; rw [if_neg (by omega)]) ls (lv_sub hl [0, 1, 3, 4, 5] rfl)
  exact lp_5 (16 - (0) : Int).toNat (0) (0) (Int.toNat_of_nonneg (by omega)) (by omega) (by exact ⟨(sZ_0 _).symm, by omega⟩) ls (lv_sub hl [0, 1, 2, 3, 4] rfl)

set_option maxRecDepth 20000 in
theorem mw_X2_homes_0 : (.fieldLink RX2 7 "PachisiYardModel" "at" "[I" : Cond) ∈ wsX2_homes := by decide +kernel
set_option maxRecDepth 20000 in
theorem mu_X2_homes_X2 : ∀ w ∈ wsX20, w ∈ wsX2_homes := by decide +kernel
theorem f_X2_homes : yX2_homes.cls ≠ "java/lang/invoke/MethodHandle" ∧ yX2_homes.cls ≠ "java/lang/invoke/VarHandle" ∧ (parseMethodDescriptor yX2_homes.desc).map (fun d => d.parameters.length) = some 1 := by decide +kernel
set_option maxHeartbeats 4000000 in
set_option maxRecDepth 100000 in
theorem c_X2_homes (l : Launch) (D : va_G) (cI cL : ClassId) (tw : Nat) (g0 : Nat) (g1 : Nat) (g2 : Nat) (g3 : Nat) (tu : Int) (ph : Int) (mo : Int) (gc : Int) (th : Int) (P : Int → Int) (C : Int → Int) (a : Int) (hB : ∀ i, 0 ≤ P i ∧ P i ≤ 72) (ha : 0 ≤ a ∧ a ≤ 3) : RO l yX2_homes wsX2_homes { frames := 0, cells := 0, slots := 0, locals := 0 } D cI cL tw [.ref g0, .int (iI (a))] [(g0, .inr (2, [.ref g1, .int (iI (tu)), .int (iI (ph)), .int (iI (mo)), .int (iI (gc)), .ref g2, .ref g3, .int (iI (th))])), (g1, .inl (cI, 16, .inl (aI P))), (g2, .inl (cI, 4, .inl (aI C))), (g3, .inl (cI, 7, .inl (aI wyI)))] (fun z : Int => z = hm P a ∧ 0 ≤ z ∧ z ≤ 4) := by
  refine ro_of (cc := cX2_homes) (maxL := 4) (rt := .int) (own := RX2) (by decide) rfl rfl (Or.inl rfl) (Nat.le_of_ble_eq_true rfl) ?_
  intro p e R s mt args below meth c H Q ls S hR hE hP hl hret
  obtain ⟨hx, hb, hml, hown, hts⟩ := id S
  have hl : lv_has ls 4 [(0, .ref g0), (1, .int (iI (a)))] := hl
  refine r_iconst hx hb dX2_homes_0 ?_
  refine lv_istore_n (lv' := [(2, .int (iI (0))), (0, .ref g0), (1, .int (iI (a)))]) hx hb dX2_homes_1 rfl hl (by decide) rfl (fun ls hl => ?_)
  refine r_iconst hx hb dX2_homes_2 ?_
  refine lv_iload_n hx hb dX2_homes_3 rfl (lv_at hl 2 rfl) ?_
  refine r_imul hx hb dX2_homes_4 ?_
  refine lv_istore_n (lv' := [(3, .int (iI ((4) * (a)))), (2, .int (iI (0))), (0, .ref g0), (1, .int (iI (a)))]) hx hb dX2_homes_5 rfl hl (by decide) rfl (fun ls hl => ?_)
  have lp_6 : ∀ (d_6 : Nat) (n : Int) (k : Int), (d_6 : Int) = 4 * a + 4 - k → (4 * a ≤ k ∧ k ≤ 4 * a + 4) → (n = sZ (hmN P a) (k - 4 * a) ∧ 0 ≤ n ∧ n ≤ k - 4 * a) → ∀ ls : Array Slot, lv_has ls 4 [(3, .int (iI (k))), (2, .int (iI (n))), (0, .ref g0), (1, .int (iI (a)))] → W p l e R s mt args below meth c H [] 0 0 Q (F0 mt 6 ls []) := by
    intro d_6
    induction d_6 using Nat.strongRecOn with
    | ind d_6 ih_6 =>
    intro n k hd_6 hk hn ls hl
    refine lv_iload_n hx hb dX2_homes_6 rfl (lv_at hl 0 rfl) ?_
    refine r_iconst hx hb dX2_homes_7 ?_
    refine lv_iload_n hx hb dX2_homes_8 rfl (lv_at hl 3 rfl) ?_
    refine r_imul hx hb dX2_homes_9 ?_
    refine r_iconst hx hb dX2_homes_10 ?_
    refine r_iadd hx hb dX2_homes_11 ?_
    refine r_icmp_ge (tgt := 40) hx hb dX2_homes_12 (by decide) (by unfold rI; omega) (by unfold rI; omega) (fun h12 => ?_) (fun h12 => ?_)
    · refine lv_iload_n hx hb dX2_homes_40 rfl (lv_at hl 1 rfl) ?_
      exact hret (n) _ _ dX2_homes_41 (by have e : k = 4 * a + 4 := (by omega); subst e; refine ⟨?_, by omega⟩; rw [hn.1, show 4 * a + 4 - 4 * a = (4 : Int) by omega]; rfl)
    · refine lv_iload_n hx hb dX2_homes_15 rfl (lv_at hl 1 rfl) ?_
      refine lv_aload_n hx hb dX2_homes_16 rfl (lv_at hl 2 rfl) ?_
      refine va_get (D := D) (ci := 2) (v := .ref g1) (C := RX2) (T := TX2) (N := 8) hx hb hts mu_X2_homes_X2 hown hE.1 hP 0 rfl rfl 0 (by decide) (hts _ mw_X2_homes_0) (fun _ h9 => h9) rfl dX2_homes_17 ?_
      refine lv_iload_n hx hb dX2_homes_20 rfl (lv_at hl 0 rfl) ?_
      refine r_iald hx hb hE.1 hP 1 rfl (i := k) (by omega) (by omega) (by decide) dX2_homes_21 ?_
      obtain ⟨v21, ev21⟩ : ∃ v : Int, v = P (k) := ⟨_, rfl⟩
      have gv21 := hB (k)
      refine r_top v21 ev21.symm ?_
      rw [← ev21] at gv21
      refine r_bipush hx hb dX2_homes_22 (by decide) ?_
      refine r_icmp_ne (tgt := 31) hx hb dX2_homes_24 (by decide) (by unfold rI; omega) (by unfold rI; decide) (fun h24 => ?_) (fun h24 => ?_)
      · refine r_iconst hx hb dX2_homes_31 ?_
        refine r_iadd hx hb dX2_homes_32 ?_
        refine lv_istore_n (lv' := [(2, .int (iI ((n) + (0)))), (3, .int (iI (k))), (0, .ref g0), (1, .int (iI (a)))]) hx hb dX2_homes_33 rfl hl (by decide) rfl (fun ls hl => ?_)
        refine lv_iinc (v := iI (k + 1)) (lv' := [(3, .int (iI (k + 1))), (2, .int (iI ((n) + (0)))), (0, .ref g0), (1, .int (iI (a)))]) hx hb dX2_homes_34 hl (k := 1) rfl (iI_add _ _) (by decide) rfl (fun ls hl => ?_)
        refine lv_goto (tgt := 6) hx hb dX2_homes_37 (by decide) ?_
        exact ih_6 (4 * a + 4 - (k + 1) : Int).toNat (nlt (by omega) hd_6 (by omega)) ((n) + (0)) (k + 1) (Int.toNat_of_nonneg (by omega)) (by omega) (by refine ⟨?_, by omega⟩; rw [show k + 1 - 4 * a = (k - 4 * a) + 1 by omega, sZ_s _ (by omega), ← hn.1]; unfold hmN; rw [show 4 * a + (k - 4 * a) = k by omega, if_neg (by omega)]) ls (lv_sub hl [0, 1, 2, 3] rfl)
      · refine r_iconst hx hb dX2_homes_27 ?_
        refine lv_goto (tgt := 32) hx hb dX2_homes_28 (by decide) ?_
        refine r_iadd hx hb dX2_homes_32 ?_
        refine lv_istore_n (lv' := [(2, .int (iI ((n) + (1)))), (3, .int (iI (k))), (0, .ref g0), (1, .int (iI (a)))]) hx hb dX2_homes_33 rfl hl (by decide) rfl (fun ls hl => ?_)
        refine lv_iinc (v := iI (k + 1)) (lv' := [(3, .int (iI (k + 1))), (2, .int (iI ((n) + (1)))), (0, .ref g0), (1, .int (iI (a)))]) hx hb dX2_homes_34 hl (k := 1) rfl (iI_add _ _) (by decide) rfl (fun ls hl => ?_)
        refine lv_goto (tgt := 6) hx hb dX2_homes_37 (by decide) ?_
        exact ih_6 (4 * a + 4 - (k + 1) : Int).toNat (nlt (by omega) hd_6 (by omega)) ((n) + (1)) (k + 1) (Int.toNat_of_nonneg (by omega)) (by omega) (by refine ⟨?_, by omega⟩; rw [show k + 1 - 4 * a = (k - 4 * a) + 1 by omega, sZ_s _ (by omega), ← hn.1]; unfold hmN; rw [show 4 * a + (k - 4 * a) = k by omega, if_pos (by omega)]) ls (lv_sub hl [0, 1, 2, 3] rfl)
  exact lp_6 (4 * a + 4 - ((4) * (a)) : Int).toNat (0) ((4) * (a)) (Int.toNat_of_nonneg (by omega)) (by omega) (by refine ⟨?_, by omega⟩; rw [show (4 : Int) * a - 4 * a = 0 by omega]; rfl) ls (lv_sub hl [0, 1, 2, 3] rfl)

theorem f_X2_movesFor : yX2_movesFor.cls ≠ "java/lang/invoke/MethodHandle" ∧ yX2_movesFor.cls ≠ "java/lang/invoke/VarHandle" ∧ (parseMethodDescriptor yX2_movesFor.desc).map (fun d => d.parameters.length) = some 1 := by decide +kernel
set_option maxHeartbeats 4000000 in
set_option maxRecDepth 100000 in
theorem c_X2_movesFor (l : Launch) (D : va_G) (cI cL : ClassId) (tw : Nat) (g0 : Nat) (g1 : Nat) (g2 : Nat) (g3 : Nat) (tu : Int) (ph : Int) (mo : Int) (gc : Int) (th : Int) (P : Int → Int) (C : Int → Int) (a : Int) (hB : ∀ i, 0 ≤ P i ∧ P i ≤ 72) (ha : 0 ≤ a ∧ a ≤ 3) : RO l yX2_movesFor wsX2_movesFor { frames := 1, cells := 0, slots := 0, locals := 23 } D cI cL tw [.ref g0, .int (iI (a))] [(g0, .inr (2, [.ref g1, .int (iI (tu)), .int (iI (ph)), .int (iI (mo)), .int (iI (gc)), .ref g2, .ref g3, .int (iI (th))])), (g1, .inl (cI, 16, .inl (aI P))), (g2, .inl (cI, 4, .inl (aI C))), (g3, .inl (cI, 7, .inl (aI wyI)))] (fun z : Int => z = mv P a ∧ 0 ≤ z ∧ z ≤ 3) := by
  refine ro_of (cc := cX2_movesFor) (maxL := 2) (rt := .int) (own := RX2) (by decide) rfl rfl (Or.inl rfl) (Nat.le_of_ble_eq_true rfl) ?_
  intro p e R s mt args below meth c H Q ls S hR hE hP hl hret
  obtain ⟨hx, hb, hml, hown, hts⟩ := id S
  have hl : lv_has ls 2 [(0, .ref g0), (1, .int (iI (a)))] := hl
  refine lv_aload_n hx hb dX2_movesFor_0 rfl (lv_at hl 0 rfl) ?_
  refine lv_iload_n hx hb dX2_movesFor_1 rfl (lv_at hl 1 rfl) ?_
  refine r_callV (As := [.int (iI (a))]) (rest := []) S (c_X2_homes l D cI cL tw (g0) (g1) (g2) (g3) (tu) (ph) (mo) (gc) (th) (P) (C) (a) (hB) (by omega)) gX2_movesFor_X2_homes rfl rfl rfl ⟨rfl, f_X2_homes⟩ hR (Nat.le_of_ble_eq_true rfl) (Nat.le_of_ble_eq_true rfl) hE hP [0, 1, 2, 3] rfl 0 rfl rfl rfl hl.1 rfl (Nat.le_of_ble_eq_true rfl) dX2_movesFor_2 ⟨Nat.zero_le _, Nat.zero_le _⟩ (fun z2 hz2 => ?_)
  obtain ⟨hz2, rz2⟩ := hz2
  refine r_iconst hx hb dX2_movesFor_5 ?_
  refine r_icmp_ne (tgt := 17) hx hb dX2_movesFor_6 (by decide) (by unfold rI; omega) (by unfold rI; decide) (fun h6 => ?_) (fun h6 => ?_)
  · refine lv_iload_n hx hb dX2_movesFor_17 rfl (lv_at hl 1 rfl) ?_
    exact hret (a) _ _ dX2_movesFor_18 (by unfold mv; rw [← hz2]; split <;> omega)
  · refine lv_iload_n hx hb dX2_movesFor_9 rfl (lv_at hl 1 rfl) ?_
    refine r_iconst hx hb dX2_movesFor_10 ?_
    refine r_iadd hx hb dX2_movesFor_11 ?_
    refine r_iconst hx hb dX2_movesFor_12 ?_
    refine r_irem hx hb dX2_movesFor_13 (by omega) (by omega) ?_
    refine lv_goto (tgt := 18) hx hb dX2_movesFor_14 (by decide) ?_
    exact hret (((a) + (2)) % (4)) _ _ dX2_movesFor_18 (by unfold mv; rw [← hz2]; split <;> omega)

theorem f_X2_isWon : yX2_isWon.cls ≠ "java/lang/invoke/MethodHandle" ∧ yX2_isWon.cls ≠ "java/lang/invoke/VarHandle" ∧ (parseMethodDescriptor yX2_isWon.desc).map (fun d => d.parameters.length) = some 1 := by decide +kernel
set_option maxHeartbeats 4000000 in
set_option maxRecDepth 100000 in
theorem c_X2_isWon (l : Launch) (D : va_G) (cI cL : ClassId) (tw : Nat) (g0 : Nat) (g1 : Nat) (g2 : Nat) (g3 : Nat) (tu : Int) (ph : Int) (mo : Int) (gc : Int) (th : Int) (P : Int → Int) (C : Int → Int) (t : Int) (hB : ∀ i, 0 ≤ P i ∧ P i ≤ 72) (ht : 0 ≤ t ∧ t ≤ 1) : RO l yX2_isWon wsX2_isWon { frames := 1, cells := 0, slots := 0, locals := 23 } D cI cL tw [.ref g0, .int (iI (t))] [(g0, .inr (2, [.ref g1, .int (iI (tu)), .int (iI (ph)), .int (iI (mo)), .int (iI (gc)), .ref g2, .ref g3, .int (iI (th))])), (g1, .inl (cI, 16, .inl (aI P))), (g2, .inl (cI, 4, .inl (aI C))), (g3, .inl (cI, 7, .inl (aI wyI)))] (tz (hm P t = 4 ∧ hm P (t + 2) = 4)) := by
  refine ro_of (cc := cX2_isWon) (maxL := 2) (rt := .boolean) (own := RX2) (by decide) rfl rfl (Or.inr ⟨rfl, fun z h => by rcases h with ⟨h, _⟩ | ⟨h, _⟩ <;> omega⟩) (Nat.le_of_ble_eq_true rfl) ?_
  intro p e R s mt args below meth c H Q ls S hR hE hP hl hret
  obtain ⟨hx, hb, hml, hown, hts⟩ := id S
  have hl : lv_has ls 2 [(0, .ref g0), (1, .int (iI (t)))] := hl
  refine lv_aload_n hx hb dX2_isWon_0 rfl (lv_at hl 0 rfl) ?_
  refine lv_iload_n hx hb dX2_isWon_1 rfl (lv_at hl 1 rfl) ?_
  refine r_callV (As := [.int (iI (t))]) (rest := []) S (c_X2_homes l D cI cL tw (g0) (g1) (g2) (g3) (tu) (ph) (mo) (gc) (th) (P) (C) (t) (hB) (by omega)) gX2_isWon_X2_homes rfl rfl rfl ⟨rfl, f_X2_homes⟩ hR (Nat.le_of_ble_eq_true rfl) (Nat.le_of_ble_eq_true rfl) hE hP [0, 1, 2, 3] rfl 0 rfl rfl rfl hl.1 rfl (Nat.le_of_ble_eq_true rfl) dX2_isWon_2 ⟨Nat.zero_le _, Nat.zero_le _⟩ (fun z2 hz2 => ?_)
  obtain ⟨hz2, rz2⟩ := hz2
  refine r_iconst hx hb dX2_isWon_5 ?_
  refine r_icmp_ne (tgt := 24) hx hb dX2_isWon_6 (by decide) (by unfold rI; omega) (by unfold rI; decide) (fun h6 => ?_) (fun h6 => ?_)
  · refine r_iconst hx hb dX2_isWon_24 ?_
    exact hret (0) _ _ dX2_isWon_25 (by exact Or.inr ⟨rfl, fun h => by omega⟩)
  · refine lv_aload_n hx hb dX2_isWon_9 rfl (lv_at hl 0 rfl) ?_
    refine lv_iload_n hx hb dX2_isWon_10 rfl (lv_at hl 1 rfl) ?_
    refine r_iconst hx hb dX2_isWon_11 ?_
    refine r_iadd hx hb dX2_isWon_12 ?_
    refine r_callV (As := [.int (iI ((t) + (2)))]) (rest := []) S (c_X2_homes l D cI cL tw (g0) (g1) (g2) (g3) (tu) (ph) (mo) (gc) (th) (P) (C) ((t) + (2)) (hB) (by omega)) gX2_isWon_X2_homes rfl rfl rfl ⟨rfl, f_X2_homes⟩ hR (Nat.le_of_ble_eq_true rfl) (Nat.le_of_ble_eq_true rfl) hE hP [0, 1, 2, 3] rfl 0 rfl rfl rfl hl.1 rfl (Nat.le_of_ble_eq_true rfl) dX2_isWon_13 ⟨Nat.zero_le _, Nat.zero_le _⟩ (fun z13 hz13 => ?_)
    obtain ⟨hz13, rz13⟩ := hz13
    refine r_iconst hx hb dX2_isWon_16 ?_
    refine r_icmp_ne (tgt := 24) hx hb dX2_isWon_17 (by decide) (by unfold rI; omega) (by unfold rI; decide) (fun h17 => ?_) (fun h17 => ?_)
    · refine r_iconst hx hb dX2_isWon_24 ?_
      exact hret (0) _ _ dX2_isWon_25 (by exact Or.inr ⟨rfl, fun h => by rw [← hz13] at h; omega⟩)
    · refine r_iconst hx hb dX2_isWon_20 ?_
      refine lv_goto (tgt := 25) hx hb dX2_isWon_21 (by decide) ?_
      exact hret (1) _ _ dX2_isWon_25 (by exact Or.inl ⟨rfl, by omega, by rw [← hz13]; omega⟩)

set_option maxRecDepth 20000 in
theorem mw_X2_target_0 : (.fieldLink RX2 7 "PachisiYardModel" "at" "[I" : Cond) ∈ wsX2_target := by decide +kernel
set_option maxRecDepth 20000 in
theorem mu_X2_target_X2 : ∀ w ∈ wsX20, w ∈ wsX2_target := by decide +kernel
theorem f_X2_target : yX2_target.cls ≠ "java/lang/invoke/MethodHandle" ∧ yX2_target.cls ≠ "java/lang/invoke/VarHandle" ∧ (parseMethodDescriptor yX2_target.desc).map (fun d => d.parameters.length) = some 2 := by decide +kernel
set_option maxHeartbeats 4000000 in
set_option maxRecDepth 100000 in
theorem c_X2_target (l : Launch) (D : va_G) (cI cL : ClassId) (tw : Nat) (g0 : Nat) (g1 : Nat) (g2 : Nat) (g3 : Nat) (tu : Int) (ph : Int) (mo : Int) (gc : Int) (th : Int) (P : Int → Int) (C : Int → Int) (k : Int) (m : Int) (hB : ∀ i, 0 ≤ P i ∧ P i ≤ 72) (hk : 0 ≤ k ∧ k < 16) (hm : 0 ≤ m ∧ m ≤ 6) : RO l yX2_target wsX2_target { frames := 1, cells := 0, slots := 0, locals := 20 } D cI cL tw [.ref g0, .int (iI (k)), .int (iI (m))] [(g0, .inr (2, [.ref g1, .int (iI (tu)), .int (iI (ph)), .int (iI (mo)), .int (iI (gc)), .ref g2, .ref g3, .int (iI (th))])), (g1, .inl (cI, 16, .inl (aI P))), (g2, .inl (cI, 4, .inl (aI C))), (g3, .inl (cI, 7, .inl (aI wyI)))] (fun z : Int => z = tgt P k m ∧ 0 ≤ z ∧ z ≤ 72) := by
  refine ro_of (cc := cX2_target) (maxL := 4) (rt := .int) (own := RX2) (by decide) rfl rfl (Or.inl rfl) (Nat.le_of_ble_eq_true rfl) ?_
  intro p e R s mt args below meth c H Q ls S hR hE hP hl hret
  obtain ⟨hx, hb, hml, hown, hts⟩ := id S
  have hl : lv_has ls 4 [(0, .ref g0), (1, .int (iI (k))), (2, .int (iI (m)))] := hl
  refine lv_aload_n hx hb dX2_target_0 rfl (lv_at hl 0 rfl) ?_
  refine va_get (D := D) (ci := 2) (v := .ref g1) (C := RX2) (T := TX2) (N := 8) hx hb hts mu_X2_target_X2 hown hE.1 hP 0 rfl rfl 0 (by decide) (hts _ mw_X2_target_0) (fun _ h9 => h9) rfl dX2_target_1 ?_
  refine lv_iload_n hx hb dX2_target_4 rfl (lv_at hl 1 rfl) ?_
  refine r_iald hx hb hE.1 hP 1 rfl (i := k) (by omega) (by omega) (by decide) dX2_target_5 ?_
  obtain ⟨v5, ev5⟩ : ∃ v : Int, v = P (k) := ⟨_, rfl⟩
  have gv5 := hB (k)
  refine r_top v5 ev5.symm ?_
  rw [← ev5] at gv5
  refine lv_istore_n (lv' := [(3, .int (iI (v5))), (0, .ref g0), (1, .int (iI (k))), (2, .int (iI (m)))]) hx hb dX2_target_6 rfl hl (by decide) rfl (fun ls hl => ?_)
  refine lv_iload_n hx hb dX2_target_7 rfl (lv_at hl 0 rfl) ?_
  refine r_if_ne (tgt := 26) hx hb dX2_target_8 (by decide) (by unfold rI; omega) (fun h8 => ?_) (fun h8 => ?_)
  · refine lv_iload_n hx hb dX2_target_26 rfl (lv_at hl 0 rfl) ?_
    refine lv_iload_n hx hb dX2_target_27 rfl (lv_at hl 3 rfl) ?_
    refine r_callS (As := [.int (iI (m))]) (rest := [.int (iI (v5))]) S (c_X2_worth l D cI cL tw (m) (by omega)) gX2_target_X2_worth rfl rfl rfl f_X2_worth hR (Nat.le_of_ble_eq_true rfl) (Nat.le_of_ble_eq_true rfl) hE rfl hl.1 rfl (Nat.le_of_ble_eq_true rfl) dX2_target_28 ⟨Nat.zero_le _, Nat.zero_le _⟩ (fun z28 hz28 => ?_)
    obtain ⟨hz28, rz28⟩ := hz28
    refine r_iadd hx hb dX2_target_31 ?_
    refine r_bipush hx hb dX2_target_32 (by decide) ?_
    refine r_icmp_gt (tgt := 52) hx hb dX2_target_34 (by decide) (by unfold rI; omega) (by unfold rI; decide) (fun h34 => ?_) (fun h34 => ?_)
    · refine r_iconst hx hb dX2_target_52 ?_
      exact hret (0) _ _ dX2_target_53 (by have e := tgt_n (P := P) (k := k) (m := m) (by omega) (by omega); omega)
    · refine lv_iload_n hx hb dX2_target_37 rfl (lv_at hl 0 rfl) ?_
      refine r_bipush hx hb dX2_target_38 (by decide) ?_
      refine r_icmp_ge (tgt := 52) hx hb dX2_target_40 (by decide) (by unfold rI; omega) (by unfold rI; decide) (fun h40 => ?_) (fun h40 => ?_)
      · refine r_iconst hx hb dX2_target_52 ?_
        exact hret (0) _ _ dX2_target_53 (by have e := tgt_n (P := P) (k := k) (m := m) (by omega) (by omega); omega)
      · refine lv_iload_n hx hb dX2_target_43 rfl (lv_at hl 0 rfl) ?_
        refine lv_iload_n hx hb dX2_target_44 rfl (lv_at hl 3 rfl) ?_
        refine r_callS (As := [.int (iI (m))]) (rest := [.int (iI (v5))]) S (c_X2_worth l D cI cL tw (m) (by omega)) gX2_target_X2_worth rfl rfl rfl f_X2_worth hR (Nat.le_of_ble_eq_true rfl) (Nat.le_of_ble_eq_true rfl) hE rfl hl.1 rfl (Nat.le_of_ble_eq_true rfl) dX2_target_45 ⟨Nat.zero_le _, Nat.zero_le _⟩ (fun z45 hz45 => ?_)
        obtain ⟨hz45, rz45⟩ := hz45
        refine r_iadd hx hb dX2_target_48 ?_
        refine lv_goto (tgt := 53) hx hb dX2_target_49 (by decide) ?_
        exact hret ((v5) + (z45)) _ _ dX2_target_53 (by have e := tgt_g (P := P) (k := k) (m := m) (by omega) (by omega); omega)
  · refine lv_iload_n hx hb dX2_target_11 rfl (lv_at hl 3 rfl) ?_
    refine r_callS (As := [.int (iI (m))]) (rest := []) S (c_X2_isGrace l D cI cL tw (m) (by omega)) gX2_target_X2_isGrace rfl rfl rfl f_X2_isGrace hR (Nat.le_of_ble_eq_true rfl) (Nat.le_of_ble_eq_true rfl) hE rfl hl.1 rfl (Nat.le_of_ble_eq_true rfl) dX2_target_12 ⟨Nat.zero_le _, Nat.zero_le _⟩ (fun z12 hz12 => ?_)
    rcases hz12 with ⟨rfl, hz12⟩ | ⟨rfl, hz12⟩
    · refine r_if_eq (tgt := 22) hx hb dX2_target_15 (by decide) (by unfold rI; decide) (fun h9 => absurd h9 (by omega)) (fun h15 => ?_)
      refine r_iconst hx hb dX2_target_18 ?_
      refine lv_goto (tgt := 53) hx hb dX2_target_19 (by decide) ?_
      exact hret (1) _ _ dX2_target_53 (by have e := tgt_y (P := P) (k := k) (m := m) (by omega); rw [if_pos hz12] at e; omega)
    · refine r_if_eq (tgt := 22) hx hb dX2_target_15 (by decide) (by unfold rI; decide) (fun h15 => ?_) (fun h9 => absurd h9 (by omega))
      refine r_iconst hx hb dX2_target_22 ?_
      refine lv_goto (tgt := 53) hx hb dX2_target_23 (by decide) ?_
      exact hret (0) _ _ dX2_target_53 (by have e := tgt_y (P := P) (k := k) (m := m) (by omega); rw [if_neg hz12] at e; omega)

set_option maxRecDepth 20000 in
theorem mw_X2_can_0 : (.fieldLink RX2 7 "PachisiYardModel" "at" "[I" : Cond) ∈ wsX2_can := by decide +kernel
set_option maxRecDepth 20000 in
theorem mu_X2_can_X2 : ∀ w ∈ wsX20, w ∈ wsX2_can := by decide +kernel
theorem f_X2_can : yX2_can.cls ≠ "java/lang/invoke/MethodHandle" ∧ yX2_can.cls ≠ "java/lang/invoke/VarHandle" ∧ (parseMethodDescriptor yX2_can.desc).map (fun d => d.parameters.length) = some 2 := by decide +kernel
set_option maxHeartbeats 4000000 in
set_option maxRecDepth 100000 in
theorem c_X2_can (l : Launch) (D : va_G) (cI cL : ClassId) (tw : Nat) (g0 : Nat) (g1 : Nat) (g2 : Nat) (g3 : Nat) (tu : Int) (ph : Int) (mo : Int) (gc : Int) (th : Int) (P : Int → Int) (C : Int → Int) (k : Int) (m : Int) (hB : ∀ i, 0 ≤ P i ∧ P i ≤ 72) (hk : 0 ≤ k ∧ k < 16) (hm : 0 ≤ m ∧ m ≤ 6) : RO l yX2_can wsX2_can { frames := 2, cells := 0, slots := 0, locals := 47 } D cI cL tw [.ref g0, .int (iI (k)), .int (iI (m))] [(g0, .inr (2, [.ref g1, .int (iI (tu)), .int (iI (ph)), .int (iI (mo)), .int (iI (gc)), .ref g2, .ref g3, .int (iI (th))])), (g1, .inl (cI, 16, .inl (aI P))), (g2, .inl (cI, 4, .inl (aI C))), (g3, .inl (cI, 7, .inl (aI wyI)))] (fun z : Int => z = can P k m ∧ 0 ≤ z ∧ z ≤ 2) := by
  refine ro_of (cc := cX2_can) (maxL := 8) (rt := .int) (own := RX2) (by decide) rfl rfl (Or.inl rfl) (Nat.le_of_ble_eq_true rfl) ?_
  intro p e R s mt args below meth c H Q ls S hR hE hP hl hret
  obtain ⟨hx, hb, hml, hown, hts⟩ := id S
  have hl : lv_has ls 8 [(0, .ref g0), (1, .int (iI (k))), (2, .int (iI (m)))] := hl
  refine lv_aload_n hx hb dX2_can_0 rfl (lv_at hl 0 rfl) ?_
  refine lv_iload_n hx hb dX2_can_1 rfl (lv_at hl 1 rfl) ?_
  refine lv_iload_n hx hb dX2_can_2 rfl (lv_at hl 2 rfl) ?_
  refine r_callV (As := [.int (iI (k)), .int (iI (m))]) (rest := []) S (c_X2_target l D cI cL tw (g0) (g1) (g2) (g3) (tu) (ph) (mo) (gc) (th) (P) (C) (k) (m) (hB) (by omega) (by omega)) gX2_can_X2_target rfl rfl rfl ⟨rfl, f_X2_target⟩ hR (Nat.le_of_ble_eq_true rfl) (Nat.le_of_ble_eq_true rfl) hE hP [0, 1, 2, 3] rfl 0 rfl rfl rfl hl.1 rfl (Nat.le_of_ble_eq_true rfl) dX2_can_3 ⟨Nat.zero_le _, Nat.zero_le _⟩ (fun z3 hz3 => ?_)
  obtain ⟨hz3, rz3⟩ := hz3
  refine lv_istore_n (lv' := [(3, .int (iI (z3))), (0, .ref g0), (1, .int (iI (k))), (2, .int (iI (m)))]) hx hb dX2_can_6 rfl hl (by decide) rfl (fun ls hl => ?_)
  refine lv_iload_n hx hb dX2_can_7 rfl (lv_at hl 2 rfl) ?_
  refine r_iconst hx hb dX2_can_8 ?_
  refine r_idiv hx hb dX2_can_9 (by omega) (by omega) ?_
  refine lv_istore (lv' := [(4, .int (iI ((k) / (4)))), (3, .int (iI (z3))), (0, .ref g0), (1, .int (iI (k))), (2, .int (iI (m)))]) hx hb dX2_can_10 hl (by decide) rfl (fun ls hl => ?_)
  refine r_iconst hx hb dX2_can_12 ?_
  refine lv_iload hx hb dX2_can_13 (lv_at hl 0 rfl) ?_
  refine r_iconst hx hb dX2_can_15 ?_
  refine r_irem hx hb dX2_can_16 (by omega) (by omega) ?_
  refine r_isub hx hb dX2_can_17 ?_
  refine lv_istore (lv' := [(5, .int (iI ((1) - (((k) / (4)) % (2))))), (4, .int (iI ((k) / (4)))), (3, .int (iI (z3))), (0, .ref g0), (1, .int (iI (k))), (2, .int (iI (m)))]) hx hb dX2_can_18 hl (by decide) rfl (fun ls hl => ?_)
  refine lv_iload_n hx hb dX2_can_20 rfl (lv_at hl 2 rfl) ?_
  refine r_if_le (tgt := 28) hx hb dX2_can_21 (by decide) (by unfold rI; omega) (fun h21 => ?_) (fun h21 => ?_)
  · refine r_iconst hx hb dX2_can_28 ?_
    refine lv_istore (lv' := [(6, .int (iI (0))), (5, .int (iI ((1) - (((k) / (4)) % (2))))), (4, .int (iI ((k) / (4)))), (3, .int (iI (z3))), (0, .ref g0), (1, .int (iI (k))), (2, .int (iI (m)))]) hx hb dX2_can_29 hl (by decide) rfl (fun ls hl => ?_)
    refine lv_aload_n hx hb dX2_can_31 rfl (lv_at hl 4 rfl) ?_
    refine va_get (D := D) (ci := 2) (v := .ref g1) (C := RX2) (T := TX2) (N := 8) hx hb hts mu_X2_can_X2 hown hE.1 hP 0 rfl rfl 0 (by decide) (hts _ mw_X2_can_0) (fun _ h9 => h9) rfl dX2_can_32 ?_
    refine lv_iload_n hx hb dX2_can_35 rfl (lv_at hl 5 rfl) ?_
    refine r_iald hx hb hE.1 hP 1 rfl (i := k) (by omega) (by omega) (by decide) dX2_can_36 ?_
    obtain ⟨v36, ev36⟩ : ∃ v : Int, v = P (k) := ⟨_, rfl⟩
    have gv36 := hB (k)
    refine r_top v36 ev36.symm ?_
    rw [← ev36] at gv36
    refine r_iconst hx hb dX2_can_37 ?_
    refine r_iadd hx hb dX2_can_38 ?_
    refine lv_istore (lv' := [(7, .int (iI ((v36) + (1)))), (6, .int (iI (0))), (5, .int (iI ((1) - (((k) / (4)) % (2))))), (4, .int (iI ((k) / (4)))), (3, .int (iI (z3))), (0, .ref g0), (1, .int (iI (k))), (2, .int (iI (m)))]) hx hb dX2_can_39 hl (by decide) rfl (fun ls hl => ?_)
    have lp_41 : ∀ (d_41 : Nat) (fr : Int) (x : Int), (d_41 : Int) = 74 - x → (P k + 1 ≤ x ∧ x ≤ 73 ∧ (x = P k + 1 ∨ x ≤ z3 + 1 ∧ x ≤ 65)) → ((fr = 1 ∧ 0 < z3 ∧ ∀ i, P k < i → i < x → stand P (sq (k / 4) i) (1 - k / 4 % 2) < 2) ∨ (fr = 0 ∧ ¬ (0 < z3 ∧ ∀ i, P k < i → i < x → stand P (sq (k / 4) i) (1 - k / 4 % 2) < 2))) → ∀ ls : Array Slot, lv_has ls 8 [(7, .int (iI (x))), (6, .int (iI (fr))), (5, .int (iI ((1) - (((k) / (4)) % (2))))), (4, .int (iI ((k) / (4)))), (3, .int (iI (z3))), (0, .ref g0), (1, .int (iI (k))), (2, .int (iI (m)))] → W p l e R s mt args below meth c H [] 0 0 Q (F0 mt 41 ls []) := by
      intro d_41
      induction d_41 using Nat.strongRecOn with
      | ind d_41 ih_41 =>
      intro fr x hd_41 hx9 hf ls hl
      refine lv_iload hx hb dX2_can_41 (lv_at hl 0 rfl) ?_
      refine lv_iload_n hx hb dX2_can_43 rfl (lv_at hl 4 rfl) ?_
      refine r_icmp_gt (tgt := 87) hx hb dX2_can_44 (by decide) (by unfold rI; omega) (by unfold rI; omega) (fun h44 => ?_) (fun h44 => ?_)
      · refine lv_iload hx hb dX2_can_87 (lv_at hl 1 rfl) ?_
        refine r_if_eq (tgt := 98) hx hb dX2_can_89 (by decide) (by unfold rI; omega) (fun h89 => ?_) (fun h89 => ?_)
        · refine lv_iload hx hb dX2_can_98 (lv_at hl 1 rfl) ?_
          refine r_if_eq (tgt := 107) hx hb dX2_can_100 (by decide) (by unfold rI; omega) (fun h100 => ?_) (fun h9 => absurd h9 (by omega))
          refine r_iconst hx hb dX2_can_107 ?_
          exact hret (0) _ _ dX2_can_108 (by have e : can P k m = 0 := (by by_cases q : 0 < tgt P k m; (exact can_b (fun h => by rcases hf with hf | hf; (exact absurd hf.1 (by omega)); exact hf.2 ⟨by omega, fun i h1 h2 => h i (by omega) (by omega) (by omega)⟩)); exact can_0 (by omega)); omega)
        · refine lv_iload_n hx hb dX2_can_92 rfl (lv_at hl 4 rfl) ?_
          refine r_bipush hx hb dX2_can_93 (by decide) ?_
          refine r_icmp_le (tgt := 109) hx hb dX2_can_95 (by decide) (by unfold rI; omega) (by unfold rI; decide) (fun h95 => ?_) (fun h95 => ?_)
          · refine lv_iload hx hb dX2_can_109 (lv_at hl 3 rfl) ?_
            refine lv_iload_n hx hb dX2_can_111 rfl (lv_at hl 4 rfl) ?_
            refine r_callS (As := [.int (iI ((k) / (4))), .int (iI (z3))]) (rest := []) S (c_X2_squareOf l D cI cL tw ((k) / (4)) (z3) (by omega) (by omega)) gX2_can_X2_squareOf rfl rfl rfl f_X2_squareOf hR (Nat.le_of_ble_eq_true rfl) (Nat.le_of_ble_eq_true rfl) hE rfl hl.1 rfl (Nat.le_of_ble_eq_true rfl) dX2_can_112 ⟨Nat.zero_le _, Nat.zero_le _⟩ (fun z112 hz112 => ?_)
            obtain ⟨hz112, rz112⟩ := hz112
            refine lv_istore (lv' := [(7, .int (iI (z112))), (6, .int (iI (fr))), (5, .int (iI ((1) - (((k) / (4)) % (2))))), (4, .int (iI ((k) / (4)))), (3, .int (iI (z3))), (0, .ref g0), (1, .int (iI (k))), (2, .int (iI (m)))]) hx hb dX2_can_115 hl (by decide) rfl (fun ls hl => ?_)
            refine lv_aload_n hx hb dX2_can_117 rfl (lv_at hl 5 rfl) ?_
            refine lv_iload hx hb dX2_can_118 (lv_at hl 0 rfl) ?_
            refine lv_iload hx hb dX2_can_120 (lv_at hl 2 rfl) ?_
            refine r_callV (As := [.int (iI (z112)), .int (iI ((1) - (((k) / (4)) % (2))))]) (rest := []) S (c_X2_stand l D cI cL tw (g0) (g1) (g2) (g3) (tu) (ph) (mo) (gc) (th) (P) (C) (z112) ((1) - (((k) / (4)) % (2))) (hB) (by omega) (by omega)) gX2_can_X2_stand rfl rfl rfl ⟨rfl, f_X2_stand⟩ hR (Nat.le_of_ble_eq_true rfl) (Nat.le_of_ble_eq_true rfl) hE hP [0, 1, 2, 3] rfl 0 rfl rfl rfl hl.1 rfl (Nat.le_of_ble_eq_true rfl) dX2_can_122 ⟨Nat.zero_le _, Nat.zero_le _⟩ (fun z122 hz122 => ?_)
            obtain ⟨hz122, rz122⟩ := hz122
            refine r_if_ne (tgt := 132) hx hb dX2_can_125 (by decide) (by unfold rI; omega) (fun h125 => ?_) (fun h125 => ?_)
            · refine lv_iload hx hb dX2_can_132 (lv_at hl 0 rfl) ?_
              refine r_callS (As := [.int (iI (z112))]) (rest := []) S (c_X2_isSafeOne l D cI cL tw (z112) (by omega)) gX2_can_X2_isSafeOne rfl rfl rfl f_X2_isSafeOne hR (Nat.le_of_ble_eq_true rfl) (Nat.le_of_ble_eq_true rfl) hE rfl hl.1 rfl (Nat.le_of_ble_eq_true rfl) dX2_can_134 ⟨Nat.zero_le _, Nat.zero_le _⟩ (fun z134 hz134 => ?_)
              rcases hz134 with ⟨rfl, hz134⟩ | ⟨rfl, hz134⟩
              · refine r_if_eq (tgt := 144) hx hb dX2_can_137 (by decide) (by unfold rI; decide) (fun h9 => absurd h9 (by omega)) (fun h137 => ?_)
                refine r_iconst hx hb dX2_can_140 ?_
                refine lv_goto (tgt := 145) hx hb dX2_can_141 (by decide) ?_
                exact hret (0) _ _ dX2_can_145 (by have e := can_safe (P := P) (k := k) (m := m) (by omega) (by rw [← hz3, ← hz112, ← hz122]; omega) (by rw [← hz3, ← hz112]; omega); omega)
              · refine r_if_eq (tgt := 144) hx hb dX2_can_137 (by decide) (by unfold rI; decide) (fun h137 => ?_) (fun h9 => absurd h9 (by omega))
                refine r_iconst hx hb dX2_can_144 ?_
                exact hret (2) _ _ dX2_can_145 (by have hf1 : 0 < z3 ∧ ∀ i, P k < i → i < x → stand P (sq (k / 4) i) (1 - k / 4 % 2) < 2 := (by rcases hf with hf | hf; (exact hf.2); exact absurd hf.1 (by omega)); have hfr : frW P (k / 4) (P k) (tgt P k m) := (fun i h1 h2 h3 => hf1.2 i h1 (by omega)); have e := can_cap hfr (by omega) (by omega) (by rw [← hz3, ← hz112, ← hz122]; omega) (by rw [← hz3, ← hz112]; omega); omega)
            · refine r_iconst hx hb dX2_can_128 ?_
              refine lv_goto (tgt := 145) hx hb dX2_can_129 (by decide) ?_
              exact hret (1) _ _ dX2_can_145 (by have hf1 : 0 < z3 ∧ ∀ i, P k < i → i < x → stand P (sq (k / 4) i) (1 - k / 4 % 2) < 2 := (by rcases hf with hf | hf; (exact hf.2); exact absurd hf.1 (by omega)); have hfr : frW P (k / 4) (P k) (tgt P k m) := (fun i h1 h2 h3 => hf1.2 i h1 (by omega)); have e := can_free hfr (by omega) (by rw [← hz3, ← hz112, ← hz122]; omega); omega)
          · refine lv_iload hx hb dX2_can_98 (lv_at hl 1 rfl) ?_
            refine r_if_eq (tgt := 107) hx hb dX2_can_100 (by decide) (by unfold rI; omega) (fun h9 => absurd h9 (by omega)) (fun h100 => ?_)
            refine r_iconst hx hb dX2_can_103 ?_
            refine lv_goto (tgt := 108) hx hb dX2_can_104 (by decide) ?_
            exact hret (1) _ _ dX2_can_108 (by have hf1 : 0 < z3 ∧ ∀ i, P k < i → i < x → stand P (sq (k / 4) i) (1 - k / 4 % 2) < 2 := (by rcases hf with hf | hf; (exact hf.2); exact absurd hf.1 (by omega)); have hfr : frW P (k / 4) (P k) (tgt P k m) := (fun i h1 h2 h3 => hf1.2 i h1 (by omega)); have e := can_far hfr (by omega); omega)
      · refine lv_iload hx hb dX2_can_47 (lv_at hl 0 rfl) ?_
        refine r_bipush hx hb dX2_can_49 (by decide) ?_
        refine r_icmp_gt (tgt := 87) hx hb dX2_can_51 (by decide) (by unfold rI; omega) (by unfold rI; decide) (fun h51 => ?_) (fun h51 => ?_)
        · refine lv_iload hx hb dX2_can_87 (lv_at hl 1 rfl) ?_
          refine r_if_eq (tgt := 98) hx hb dX2_can_89 (by decide) (by unfold rI; omega) (fun h89 => ?_) (fun h89 => ?_)
          · refine lv_iload hx hb dX2_can_98 (lv_at hl 1 rfl) ?_
            refine r_if_eq (tgt := 107) hx hb dX2_can_100 (by decide) (by unfold rI; omega) (fun h100 => ?_) (fun h9 => absurd h9 (by omega))
            refine r_iconst hx hb dX2_can_107 ?_
            exact hret (0) _ _ dX2_can_108 (by have e : can P k m = 0 := (by by_cases q : 0 < tgt P k m; (exact can_b (fun h => by rcases hf with hf | hf; (exact absurd hf.1 (by omega)); exact hf.2 ⟨by omega, fun i h1 h2 => h i (by omega) (by omega) (by omega)⟩)); exact can_0 (by omega)); omega)
          · refine lv_iload_n hx hb dX2_can_92 rfl (lv_at hl 4 rfl) ?_
            refine r_bipush hx hb dX2_can_93 (by decide) ?_
            refine r_icmp_le (tgt := 109) hx hb dX2_can_95 (by decide) (by unfold rI; omega) (by unfold rI; decide) (fun h95 => ?_) (fun h95 => ?_)
            · refine lv_iload hx hb dX2_can_109 (lv_at hl 3 rfl) ?_
              refine lv_iload_n hx hb dX2_can_111 rfl (lv_at hl 4 rfl) ?_
              refine r_callS (As := [.int (iI ((k) / (4))), .int (iI (z3))]) (rest := []) S (c_X2_squareOf l D cI cL tw ((k) / (4)) (z3) (by omega) (by omega)) gX2_can_X2_squareOf rfl rfl rfl f_X2_squareOf hR (Nat.le_of_ble_eq_true rfl) (Nat.le_of_ble_eq_true rfl) hE rfl hl.1 rfl (Nat.le_of_ble_eq_true rfl) dX2_can_112 ⟨Nat.zero_le _, Nat.zero_le _⟩ (fun z112 hz112 => ?_)
              obtain ⟨hz112, rz112⟩ := hz112
              refine lv_istore (lv' := [(7, .int (iI (z112))), (6, .int (iI (fr))), (5, .int (iI ((1) - (((k) / (4)) % (2))))), (4, .int (iI ((k) / (4)))), (3, .int (iI (z3))), (0, .ref g0), (1, .int (iI (k))), (2, .int (iI (m)))]) hx hb dX2_can_115 hl (by decide) rfl (fun ls hl => ?_)
              refine lv_aload_n hx hb dX2_can_117 rfl (lv_at hl 5 rfl) ?_
              refine lv_iload hx hb dX2_can_118 (lv_at hl 0 rfl) ?_
              refine lv_iload hx hb dX2_can_120 (lv_at hl 2 rfl) ?_
              refine r_callV (As := [.int (iI (z112)), .int (iI ((1) - (((k) / (4)) % (2))))]) (rest := []) S (c_X2_stand l D cI cL tw (g0) (g1) (g2) (g3) (tu) (ph) (mo) (gc) (th) (P) (C) (z112) ((1) - (((k) / (4)) % (2))) (hB) (by omega) (by omega)) gX2_can_X2_stand rfl rfl rfl ⟨rfl, f_X2_stand⟩ hR (Nat.le_of_ble_eq_true rfl) (Nat.le_of_ble_eq_true rfl) hE hP [0, 1, 2, 3] rfl 0 rfl rfl rfl hl.1 rfl (Nat.le_of_ble_eq_true rfl) dX2_can_122 ⟨Nat.zero_le _, Nat.zero_le _⟩ (fun z122 hz122 => ?_)
              obtain ⟨hz122, rz122⟩ := hz122
              refine r_if_ne (tgt := 132) hx hb dX2_can_125 (by decide) (by unfold rI; omega) (fun h125 => ?_) (fun h125 => ?_)
              · refine lv_iload hx hb dX2_can_132 (lv_at hl 0 rfl) ?_
                refine r_callS (As := [.int (iI (z112))]) (rest := []) S (c_X2_isSafeOne l D cI cL tw (z112) (by omega)) gX2_can_X2_isSafeOne rfl rfl rfl f_X2_isSafeOne hR (Nat.le_of_ble_eq_true rfl) (Nat.le_of_ble_eq_true rfl) hE rfl hl.1 rfl (Nat.le_of_ble_eq_true rfl) dX2_can_134 ⟨Nat.zero_le _, Nat.zero_le _⟩ (fun z134 hz134 => ?_)
                rcases hz134 with ⟨rfl, hz134⟩ | ⟨rfl, hz134⟩
                · refine r_if_eq (tgt := 144) hx hb dX2_can_137 (by decide) (by unfold rI; decide) (fun h9 => absurd h9 (by omega)) (fun h137 => ?_)
                  refine r_iconst hx hb dX2_can_140 ?_
                  refine lv_goto (tgt := 145) hx hb dX2_can_141 (by decide) ?_
                  exact hret (0) _ _ dX2_can_145 (by have e := can_safe (P := P) (k := k) (m := m) (by omega) (by rw [← hz3, ← hz112, ← hz122]; omega) (by rw [← hz3, ← hz112]; omega); omega)
                · refine r_if_eq (tgt := 144) hx hb dX2_can_137 (by decide) (by unfold rI; decide) (fun h137 => ?_) (fun h9 => absurd h9 (by omega))
                  refine r_iconst hx hb dX2_can_144 ?_
                  exact hret (2) _ _ dX2_can_145 (by have hf1 : 0 < z3 ∧ ∀ i, P k < i → i < x → stand P (sq (k / 4) i) (1 - k / 4 % 2) < 2 := (by rcases hf with hf | hf; (exact hf.2); exact absurd hf.1 (by omega)); have hfr : frW P (k / 4) (P k) (tgt P k m) := (fun i h1 h2 h3 => hf1.2 i h1 (by omega)); have e := can_cap hfr (by omega) (by omega) (by rw [← hz3, ← hz112, ← hz122]; omega) (by rw [← hz3, ← hz112]; omega); omega)
              · refine r_iconst hx hb dX2_can_128 ?_
                refine lv_goto (tgt := 145) hx hb dX2_can_129 (by decide) ?_
                exact hret (1) _ _ dX2_can_145 (by have hf1 : 0 < z3 ∧ ∀ i, P k < i → i < x → stand P (sq (k / 4) i) (1 - k / 4 % 2) < 2 := (by rcases hf with hf | hf; (exact hf.2); exact absurd hf.1 (by omega)); have hfr : frW P (k / 4) (P k) (tgt P k m) := (fun i h1 h2 h3 => hf1.2 i h1 (by omega)); have e := can_free hfr (by omega) (by rw [← hz3, ← hz112, ← hz122]; omega); omega)
            · refine lv_iload hx hb dX2_can_98 (lv_at hl 1 rfl) ?_
              refine r_if_eq (tgt := 107) hx hb dX2_can_100 (by decide) (by unfold rI; omega) (fun h9 => absurd h9 (by omega)) (fun h100 => ?_)
              refine r_iconst hx hb dX2_can_103 ?_
              refine lv_goto (tgt := 108) hx hb dX2_can_104 (by decide) ?_
              exact hret (1) _ _ dX2_can_108 (by have hf1 : 0 < z3 ∧ ∀ i, P k < i → i < x → stand P (sq (k / 4) i) (1 - k / 4 % 2) < 2 := (by rcases hf with hf | hf; (exact hf.2); exact absurd hf.1 (by omega)); have hfr : frW P (k / 4) (P k) (tgt P k m) := (fun i h1 h2 h3 => hf1.2 i h1 (by omega)); have e := can_far hfr (by omega); omega)
        · refine lv_iload hx hb dX2_can_54 (lv_at hl 1 rfl) ?_
          refine lv_aload_n hx hb dX2_can_56 rfl (lv_at hl 5 rfl) ?_
          refine lv_iload hx hb dX2_can_57 (lv_at hl 3 rfl) ?_
          refine lv_iload hx hb dX2_can_59 (lv_at hl 0 rfl) ?_
          refine r_callS (As := [.int (iI ((k) / (4))), .int (iI (x))]) (rest := [.ref g0, .int (iI (fr))]) S (c_X2_squareOf l D cI cL tw ((k) / (4)) (x) (by omega) (by omega)) gX2_can_X2_squareOf rfl rfl rfl f_X2_squareOf hR (Nat.le_of_ble_eq_true rfl) (Nat.le_of_ble_eq_true rfl) hE rfl hl.1 rfl (Nat.le_of_ble_eq_true rfl) dX2_can_61 ⟨Nat.zero_le _, Nat.zero_le _⟩ (fun z61 hz61 => ?_)
          obtain ⟨hz61, rz61⟩ := hz61
          refine lv_iload hx hb dX2_can_64 (lv_at hl 2 rfl) ?_
          refine r_callV (As := [.int (iI (z61)), .int (iI ((1) - (((k) / (4)) % (2))))]) (rest := [.int (iI (fr))]) S (c_X2_stand l D cI cL tw (g0) (g1) (g2) (g3) (tu) (ph) (mo) (gc) (th) (P) (C) (z61) ((1) - (((k) / (4)) % (2))) (hB) (by omega) (by omega)) gX2_can_X2_stand rfl rfl rfl ⟨rfl, f_X2_stand⟩ hR (Nat.le_of_ble_eq_true rfl) (Nat.le_of_ble_eq_true rfl) hE hP [0, 1, 2, 3] rfl 0 rfl rfl rfl hl.1 rfl (Nat.le_of_ble_eq_true rfl) dX2_can_66 ⟨Nat.zero_le _, Nat.zero_le _⟩ (fun z66 hz66 => ?_)
          obtain ⟨hz66, rz66⟩ := hz66
          refine r_iconst hx hb dX2_can_69 ?_
          refine r_icmp_ge (tgt := 77) hx hb dX2_can_70 (by decide) (by unfold rI; omega) (by unfold rI; decide) (fun h70 => ?_) (fun h70 => ?_)
          · refine r_iconst hx hb dX2_can_77 ?_
            refine r_iand hx hb (z := 0) dX2_can_78 (bit_and0 _) ?_
            refine lv_istore (lv' := [(6, .int (iI (0))), (7, .int (iI (x))), (5, .int (iI ((1) - (((k) / (4)) % (2))))), (4, .int (iI ((k) / (4)))), (3, .int (iI (z3))), (0, .ref g0), (1, .int (iI (k))), (2, .int (iI (m)))]) hx hb dX2_can_79 hl (by decide) rfl (fun ls hl => ?_)
            refine lv_iinc (v := iI (x + 1)) (lv' := [(7, .int (iI (x + 1))), (6, .int (iI (0))), (5, .int (iI ((1) - (((k) / (4)) % (2))))), (4, .int (iI ((k) / (4)))), (3, .int (iI (z3))), (0, .ref g0), (1, .int (iI (k))), (2, .int (iI (m)))]) hx hb dX2_can_81 hl (k := 1) rfl (iI_add _ _) (by decide) rfl (fun ls hl => ?_)
            refine lv_goto (tgt := 41) hx hb dX2_can_84 (by decide) ?_
            exact ih_41 (74 - (x + 1) : Int).toNat (nlt (by omega) hd_41 (by omega)) (0) (x + 1) (Int.toNat_of_nonneg (by omega)) (by omega) (by refine Or.inr ⟨rfl, fun h => ?_⟩; have q := h.2 x (by omega) (by omega); rw [← hz61, ← hz66] at q; omega) ls (lv_sub hl [0, 1, 2, 3, 4, 5, 6, 7] rfl)
          · refine r_iconst hx hb dX2_can_73 ?_
            refine lv_goto (tgt := 78) hx hb dX2_can_74 (by decide) ?_
            refine r_iand hx hb (z := fr) dX2_can_78 (bit_and1 (by omega)) ?_
            refine lv_istore (lv' := [(6, .int (iI (fr))), (7, .int (iI (x))), (5, .int (iI ((1) - (((k) / (4)) % (2))))), (4, .int (iI ((k) / (4)))), (3, .int (iI (z3))), (0, .ref g0), (1, .int (iI (k))), (2, .int (iI (m)))]) hx hb dX2_can_79 hl (by decide) rfl (fun ls hl => ?_)
            refine lv_iinc (v := iI (x + 1)) (lv' := [(7, .int (iI (x + 1))), (6, .int (iI (fr))), (5, .int (iI ((1) - (((k) / (4)) % (2))))), (4, .int (iI ((k) / (4)))), (3, .int (iI (z3))), (0, .ref g0), (1, .int (iI (k))), (2, .int (iI (m)))]) hx hb dX2_can_81 hl (k := 1) rfl (iI_add _ _) (by decide) rfl (fun ls hl => ?_)
            refine lv_goto (tgt := 41) hx hb dX2_can_84 (by decide) ?_
            exact ih_41 (74 - (x + 1) : Int).toNat (nlt (by omega) hd_41 (by omega)) (fr) (x + 1) (Int.toNat_of_nonneg (by omega)) (by omega) (by rcases hf with ⟨q1, q2, q3⟩ | ⟨q1, q2⟩; (exact Or.inl ⟨by omega, q2, fun i h1 h2 => if e : i = x then (by subst e; rw [← hz61, ← hz66]; omega) else q3 i h1 (by omega)⟩); exact Or.inr ⟨by omega, fun h => q2 ⟨h.1, fun i h1 h2 => h.2 i h1 (by omega)⟩⟩) ls (lv_sub hl [0, 1, 2, 3, 4, 5, 6, 7] rfl)
    exact lp_41 (74 - ((v36) + (1)) : Int).toNat (0) ((v36) + (1)) (Int.toNat_of_nonneg (by omega)) (by omega) ((Or.inr ⟨rfl, fun h => by omega⟩)) ls (lv_sub hl [0, 1, 2, 3, 4, 5, 6, 7] rfl)
  · refine r_iconst hx hb dX2_can_24 ?_
    refine lv_goto (tgt := 29) hx hb dX2_can_25 (by decide) ?_
    refine lv_istore (lv' := [(6, .int (iI (1))), (5, .int (iI ((1) - (((k) / (4)) % (2))))), (4, .int (iI ((k) / (4)))), (3, .int (iI (z3))), (0, .ref g0), (1, .int (iI (k))), (2, .int (iI (m)))]) hx hb dX2_can_29 hl (by decide) rfl (fun ls hl => ?_)
    refine lv_aload_n hx hb dX2_can_31 rfl (lv_at hl 4 rfl) ?_
    refine va_get (D := D) (ci := 2) (v := .ref g1) (C := RX2) (T := TX2) (N := 8) hx hb hts mu_X2_can_X2 hown hE.1 hP 0 rfl rfl 0 (by decide) (hts _ mw_X2_can_0) (fun _ h9 => h9) rfl dX2_can_32 ?_
    refine lv_iload_n hx hb dX2_can_35 rfl (lv_at hl 5 rfl) ?_
    refine r_iald hx hb hE.1 hP 1 rfl (i := k) (by omega) (by omega) (by decide) dX2_can_36 ?_
    obtain ⟨v36, ev36⟩ : ∃ v : Int, v = P (k) := ⟨_, rfl⟩
    have gv36 := hB (k)
    refine r_top v36 ev36.symm ?_
    rw [← ev36] at gv36
    refine r_iconst hx hb dX2_can_37 ?_
    refine r_iadd hx hb dX2_can_38 ?_
    refine lv_istore (lv' := [(7, .int (iI ((v36) + (1)))), (6, .int (iI (1))), (5, .int (iI ((1) - (((k) / (4)) % (2))))), (4, .int (iI ((k) / (4)))), (3, .int (iI (z3))), (0, .ref g0), (1, .int (iI (k))), (2, .int (iI (m)))]) hx hb dX2_can_39 hl (by decide) rfl (fun ls hl => ?_)
    have lp_41 : ∀ (d_41 : Nat) (fr : Int) (x : Int), (d_41 : Int) = 74 - x → (P k + 1 ≤ x ∧ x ≤ 73 ∧ (x = P k + 1 ∨ x ≤ z3 + 1 ∧ x ≤ 65)) → ((fr = 1 ∧ 0 < z3 ∧ ∀ i, P k < i → i < x → stand P (sq (k / 4) i) (1 - k / 4 % 2) < 2) ∨ (fr = 0 ∧ ¬ (0 < z3 ∧ ∀ i, P k < i → i < x → stand P (sq (k / 4) i) (1 - k / 4 % 2) < 2))) → ∀ ls : Array Slot, lv_has ls 8 [(7, .int (iI (x))), (6, .int (iI (fr))), (5, .int (iI ((1) - (((k) / (4)) % (2))))), (4, .int (iI ((k) / (4)))), (3, .int (iI (z3))), (0, .ref g0), (1, .int (iI (k))), (2, .int (iI (m)))] → W p l e R s mt args below meth c H [] 0 0 Q (F0 mt 41 ls []) := by
      intro d_41
      induction d_41 using Nat.strongRecOn with
      | ind d_41 ih_41 =>
      intro fr x hd_41 hx9 hf ls hl
      refine lv_iload hx hb dX2_can_41 (lv_at hl 0 rfl) ?_
      refine lv_iload_n hx hb dX2_can_43 rfl (lv_at hl 4 rfl) ?_
      refine r_icmp_gt (tgt := 87) hx hb dX2_can_44 (by decide) (by unfold rI; omega) (by unfold rI; omega) (fun h44 => ?_) (fun h44 => ?_)
      · refine lv_iload hx hb dX2_can_87 (lv_at hl 1 rfl) ?_
        refine r_if_eq (tgt := 98) hx hb dX2_can_89 (by decide) (by unfold rI; omega) (fun h89 => ?_) (fun h89 => ?_)
        · refine lv_iload hx hb dX2_can_98 (lv_at hl 1 rfl) ?_
          refine r_if_eq (tgt := 107) hx hb dX2_can_100 (by decide) (by unfold rI; omega) (fun h100 => ?_) (fun h9 => absurd h9 (by omega))
          refine r_iconst hx hb dX2_can_107 ?_
          exact hret (0) _ _ dX2_can_108 (by have e : can P k m = 0 := (by by_cases q : 0 < tgt P k m; (exact can_b (fun h => by rcases hf with hf | hf; (exact absurd hf.1 (by omega)); exact hf.2 ⟨by omega, fun i h1 h2 => h i (by omega) (by omega) (by omega)⟩)); exact can_0 (by omega)); omega)
        · refine lv_iload_n hx hb dX2_can_92 rfl (lv_at hl 4 rfl) ?_
          refine r_bipush hx hb dX2_can_93 (by decide) ?_
          refine r_icmp_le (tgt := 109) hx hb dX2_can_95 (by decide) (by unfold rI; omega) (by unfold rI; decide) (fun h95 => ?_) (fun h95 => ?_)
          · refine lv_iload hx hb dX2_can_109 (lv_at hl 3 rfl) ?_
            refine lv_iload_n hx hb dX2_can_111 rfl (lv_at hl 4 rfl) ?_
            refine r_callS (As := [.int (iI ((k) / (4))), .int (iI (z3))]) (rest := []) S (c_X2_squareOf l D cI cL tw ((k) / (4)) (z3) (by omega) (by omega)) gX2_can_X2_squareOf rfl rfl rfl f_X2_squareOf hR (Nat.le_of_ble_eq_true rfl) (Nat.le_of_ble_eq_true rfl) hE rfl hl.1 rfl (Nat.le_of_ble_eq_true rfl) dX2_can_112 ⟨Nat.zero_le _, Nat.zero_le _⟩ (fun z112 hz112 => ?_)
            obtain ⟨hz112, rz112⟩ := hz112
            refine lv_istore (lv' := [(7, .int (iI (z112))), (6, .int (iI (fr))), (5, .int (iI ((1) - (((k) / (4)) % (2))))), (4, .int (iI ((k) / (4)))), (3, .int (iI (z3))), (0, .ref g0), (1, .int (iI (k))), (2, .int (iI (m)))]) hx hb dX2_can_115 hl (by decide) rfl (fun ls hl => ?_)
            refine lv_aload_n hx hb dX2_can_117 rfl (lv_at hl 5 rfl) ?_
            refine lv_iload hx hb dX2_can_118 (lv_at hl 0 rfl) ?_
            refine lv_iload hx hb dX2_can_120 (lv_at hl 2 rfl) ?_
            refine r_callV (As := [.int (iI (z112)), .int (iI ((1) - (((k) / (4)) % (2))))]) (rest := []) S (c_X2_stand l D cI cL tw (g0) (g1) (g2) (g3) (tu) (ph) (mo) (gc) (th) (P) (C) (z112) ((1) - (((k) / (4)) % (2))) (hB) (by omega) (by omega)) gX2_can_X2_stand rfl rfl rfl ⟨rfl, f_X2_stand⟩ hR (Nat.le_of_ble_eq_true rfl) (Nat.le_of_ble_eq_true rfl) hE hP [0, 1, 2, 3] rfl 0 rfl rfl rfl hl.1 rfl (Nat.le_of_ble_eq_true rfl) dX2_can_122 ⟨Nat.zero_le _, Nat.zero_le _⟩ (fun z122 hz122 => ?_)
            obtain ⟨hz122, rz122⟩ := hz122
            refine r_if_ne (tgt := 132) hx hb dX2_can_125 (by decide) (by unfold rI; omega) (fun h125 => ?_) (fun h125 => ?_)
            · refine lv_iload hx hb dX2_can_132 (lv_at hl 0 rfl) ?_
              refine r_callS (As := [.int (iI (z112))]) (rest := []) S (c_X2_isSafeOne l D cI cL tw (z112) (by omega)) gX2_can_X2_isSafeOne rfl rfl rfl f_X2_isSafeOne hR (Nat.le_of_ble_eq_true rfl) (Nat.le_of_ble_eq_true rfl) hE rfl hl.1 rfl (Nat.le_of_ble_eq_true rfl) dX2_can_134 ⟨Nat.zero_le _, Nat.zero_le _⟩ (fun z134 hz134 => ?_)
              rcases hz134 with ⟨rfl, hz134⟩ | ⟨rfl, hz134⟩
              · refine r_if_eq (tgt := 144) hx hb dX2_can_137 (by decide) (by unfold rI; decide) (fun h9 => absurd h9 (by omega)) (fun h137 => ?_)
                refine r_iconst hx hb dX2_can_140 ?_
                refine lv_goto (tgt := 145) hx hb dX2_can_141 (by decide) ?_
                exact hret (0) _ _ dX2_can_145 (by have e := can_safe (P := P) (k := k) (m := m) (by omega) (by rw [← hz3, ← hz112, ← hz122]; omega) (by rw [← hz3, ← hz112]; omega); omega)
              · refine r_if_eq (tgt := 144) hx hb dX2_can_137 (by decide) (by unfold rI; decide) (fun h137 => ?_) (fun h9 => absurd h9 (by omega))
                refine r_iconst hx hb dX2_can_144 ?_
                exact hret (2) _ _ dX2_can_145 (by have hf1 : 0 < z3 ∧ ∀ i, P k < i → i < x → stand P (sq (k / 4) i) (1 - k / 4 % 2) < 2 := (by rcases hf with hf | hf; (exact hf.2); exact absurd hf.1 (by omega)); have hfr : frW P (k / 4) (P k) (tgt P k m) := (fun i h1 h2 h3 => hf1.2 i h1 (by omega)); have e := can_cap hfr (by omega) (by omega) (by rw [← hz3, ← hz112, ← hz122]; omega) (by rw [← hz3, ← hz112]; omega); omega)
            · refine r_iconst hx hb dX2_can_128 ?_
              refine lv_goto (tgt := 145) hx hb dX2_can_129 (by decide) ?_
              exact hret (1) _ _ dX2_can_145 (by have hf1 : 0 < z3 ∧ ∀ i, P k < i → i < x → stand P (sq (k / 4) i) (1 - k / 4 % 2) < 2 := (by rcases hf with hf | hf; (exact hf.2); exact absurd hf.1 (by omega)); have hfr : frW P (k / 4) (P k) (tgt P k m) := (fun i h1 h2 h3 => hf1.2 i h1 (by omega)); have e := can_free hfr (by omega) (by rw [← hz3, ← hz112, ← hz122]; omega); omega)
          · refine lv_iload hx hb dX2_can_98 (lv_at hl 1 rfl) ?_
            refine r_if_eq (tgt := 107) hx hb dX2_can_100 (by decide) (by unfold rI; omega) (fun h9 => absurd h9 (by omega)) (fun h100 => ?_)
            refine r_iconst hx hb dX2_can_103 ?_
            refine lv_goto (tgt := 108) hx hb dX2_can_104 (by decide) ?_
            exact hret (1) _ _ dX2_can_108 (by have hf1 : 0 < z3 ∧ ∀ i, P k < i → i < x → stand P (sq (k / 4) i) (1 - k / 4 % 2) < 2 := (by rcases hf with hf | hf; (exact hf.2); exact absurd hf.1 (by omega)); have hfr : frW P (k / 4) (P k) (tgt P k m) := (fun i h1 h2 h3 => hf1.2 i h1 (by omega)); have e := can_far hfr (by omega); omega)
      · refine lv_iload hx hb dX2_can_47 (lv_at hl 0 rfl) ?_
        refine r_bipush hx hb dX2_can_49 (by decide) ?_
        refine r_icmp_gt (tgt := 87) hx hb dX2_can_51 (by decide) (by unfold rI; omega) (by unfold rI; decide) (fun h51 => ?_) (fun h51 => ?_)
        · refine lv_iload hx hb dX2_can_87 (lv_at hl 1 rfl) ?_
          refine r_if_eq (tgt := 98) hx hb dX2_can_89 (by decide) (by unfold rI; omega) (fun h89 => ?_) (fun h89 => ?_)
          · refine lv_iload hx hb dX2_can_98 (lv_at hl 1 rfl) ?_
            refine r_if_eq (tgt := 107) hx hb dX2_can_100 (by decide) (by unfold rI; omega) (fun h100 => ?_) (fun h9 => absurd h9 (by omega))
            refine r_iconst hx hb dX2_can_107 ?_
            exact hret (0) _ _ dX2_can_108 (by have e : can P k m = 0 := (by by_cases q : 0 < tgt P k m; (exact can_b (fun h => by rcases hf with hf | hf; (exact absurd hf.1 (by omega)); exact hf.2 ⟨by omega, fun i h1 h2 => h i (by omega) (by omega) (by omega)⟩)); exact can_0 (by omega)); omega)
          · refine lv_iload_n hx hb dX2_can_92 rfl (lv_at hl 4 rfl) ?_
            refine r_bipush hx hb dX2_can_93 (by decide) ?_
            refine r_icmp_le (tgt := 109) hx hb dX2_can_95 (by decide) (by unfold rI; omega) (by unfold rI; decide) (fun h95 => ?_) (fun h95 => ?_)
            · refine lv_iload hx hb dX2_can_109 (lv_at hl 3 rfl) ?_
              refine lv_iload_n hx hb dX2_can_111 rfl (lv_at hl 4 rfl) ?_
              refine r_callS (As := [.int (iI ((k) / (4))), .int (iI (z3))]) (rest := []) S (c_X2_squareOf l D cI cL tw ((k) / (4)) (z3) (by omega) (by omega)) gX2_can_X2_squareOf rfl rfl rfl f_X2_squareOf hR (Nat.le_of_ble_eq_true rfl) (Nat.le_of_ble_eq_true rfl) hE rfl hl.1 rfl (Nat.le_of_ble_eq_true rfl) dX2_can_112 ⟨Nat.zero_le _, Nat.zero_le _⟩ (fun z112 hz112 => ?_)
              obtain ⟨hz112, rz112⟩ := hz112
              refine lv_istore (lv' := [(7, .int (iI (z112))), (6, .int (iI (fr))), (5, .int (iI ((1) - (((k) / (4)) % (2))))), (4, .int (iI ((k) / (4)))), (3, .int (iI (z3))), (0, .ref g0), (1, .int (iI (k))), (2, .int (iI (m)))]) hx hb dX2_can_115 hl (by decide) rfl (fun ls hl => ?_)
              refine lv_aload_n hx hb dX2_can_117 rfl (lv_at hl 5 rfl) ?_
              refine lv_iload hx hb dX2_can_118 (lv_at hl 0 rfl) ?_
              refine lv_iload hx hb dX2_can_120 (lv_at hl 2 rfl) ?_
              refine r_callV (As := [.int (iI (z112)), .int (iI ((1) - (((k) / (4)) % (2))))]) (rest := []) S (c_X2_stand l D cI cL tw (g0) (g1) (g2) (g3) (tu) (ph) (mo) (gc) (th) (P) (C) (z112) ((1) - (((k) / (4)) % (2))) (hB) (by omega) (by omega)) gX2_can_X2_stand rfl rfl rfl ⟨rfl, f_X2_stand⟩ hR (Nat.le_of_ble_eq_true rfl) (Nat.le_of_ble_eq_true rfl) hE hP [0, 1, 2, 3] rfl 0 rfl rfl rfl hl.1 rfl (Nat.le_of_ble_eq_true rfl) dX2_can_122 ⟨Nat.zero_le _, Nat.zero_le _⟩ (fun z122 hz122 => ?_)
              obtain ⟨hz122, rz122⟩ := hz122
              refine r_if_ne (tgt := 132) hx hb dX2_can_125 (by decide) (by unfold rI; omega) (fun h125 => ?_) (fun h125 => ?_)
              · refine lv_iload hx hb dX2_can_132 (lv_at hl 0 rfl) ?_
                refine r_callS (As := [.int (iI (z112))]) (rest := []) S (c_X2_isSafeOne l D cI cL tw (z112) (by omega)) gX2_can_X2_isSafeOne rfl rfl rfl f_X2_isSafeOne hR (Nat.le_of_ble_eq_true rfl) (Nat.le_of_ble_eq_true rfl) hE rfl hl.1 rfl (Nat.le_of_ble_eq_true rfl) dX2_can_134 ⟨Nat.zero_le _, Nat.zero_le _⟩ (fun z134 hz134 => ?_)
                rcases hz134 with ⟨rfl, hz134⟩ | ⟨rfl, hz134⟩
                · refine r_if_eq (tgt := 144) hx hb dX2_can_137 (by decide) (by unfold rI; decide) (fun h9 => absurd h9 (by omega)) (fun h137 => ?_)
                  refine r_iconst hx hb dX2_can_140 ?_
                  refine lv_goto (tgt := 145) hx hb dX2_can_141 (by decide) ?_
                  exact hret (0) _ _ dX2_can_145 (by have e := can_safe (P := P) (k := k) (m := m) (by omega) (by rw [← hz3, ← hz112, ← hz122]; omega) (by rw [← hz3, ← hz112]; omega); omega)
                · refine r_if_eq (tgt := 144) hx hb dX2_can_137 (by decide) (by unfold rI; decide) (fun h137 => ?_) (fun h9 => absurd h9 (by omega))
                  refine r_iconst hx hb dX2_can_144 ?_
                  exact hret (2) _ _ dX2_can_145 (by have hf1 : 0 < z3 ∧ ∀ i, P k < i → i < x → stand P (sq (k / 4) i) (1 - k / 4 % 2) < 2 := (by rcases hf with hf | hf; (exact hf.2); exact absurd hf.1 (by omega)); have hfr : frW P (k / 4) (P k) (tgt P k m) := (fun i h1 h2 h3 => hf1.2 i h1 (by omega)); have e := can_cap hfr (by omega) (by omega) (by rw [← hz3, ← hz112, ← hz122]; omega) (by rw [← hz3, ← hz112]; omega); omega)
              · refine r_iconst hx hb dX2_can_128 ?_
                refine lv_goto (tgt := 145) hx hb dX2_can_129 (by decide) ?_
                exact hret (1) _ _ dX2_can_145 (by have hf1 : 0 < z3 ∧ ∀ i, P k < i → i < x → stand P (sq (k / 4) i) (1 - k / 4 % 2) < 2 := (by rcases hf with hf | hf; (exact hf.2); exact absurd hf.1 (by omega)); have hfr : frW P (k / 4) (P k) (tgt P k m) := (fun i h1 h2 h3 => hf1.2 i h1 (by omega)); have e := can_free hfr (by omega) (by rw [← hz3, ← hz112, ← hz122]; omega); omega)
            · refine lv_iload hx hb dX2_can_98 (lv_at hl 1 rfl) ?_
              refine r_if_eq (tgt := 107) hx hb dX2_can_100 (by decide) (by unfold rI; omega) (fun h9 => absurd h9 (by omega)) (fun h100 => ?_)
              refine r_iconst hx hb dX2_can_103 ?_
              refine lv_goto (tgt := 108) hx hb dX2_can_104 (by decide) ?_
              exact hret (1) _ _ dX2_can_108 (by have hf1 : 0 < z3 ∧ ∀ i, P k < i → i < x → stand P (sq (k / 4) i) (1 - k / 4 % 2) < 2 := (by rcases hf with hf | hf; (exact hf.2); exact absurd hf.1 (by omega)); have hfr : frW P (k / 4) (P k) (tgt P k m) := (fun i h1 h2 h3 => hf1.2 i h1 (by omega)); have e := can_far hfr (by omega); omega)
        · refine lv_iload hx hb dX2_can_54 (lv_at hl 1 rfl) ?_
          refine lv_aload_n hx hb dX2_can_56 rfl (lv_at hl 5 rfl) ?_
          refine lv_iload hx hb dX2_can_57 (lv_at hl 3 rfl) ?_
          refine lv_iload hx hb dX2_can_59 (lv_at hl 0 rfl) ?_
          refine r_callS (As := [.int (iI ((k) / (4))), .int (iI (x))]) (rest := [.ref g0, .int (iI (fr))]) S (c_X2_squareOf l D cI cL tw ((k) / (4)) (x) (by omega) (by omega)) gX2_can_X2_squareOf rfl rfl rfl f_X2_squareOf hR (Nat.le_of_ble_eq_true rfl) (Nat.le_of_ble_eq_true rfl) hE rfl hl.1 rfl (Nat.le_of_ble_eq_true rfl) dX2_can_61 ⟨Nat.zero_le _, Nat.zero_le _⟩ (fun z61 hz61 => ?_)
          obtain ⟨hz61, rz61⟩ := hz61
          refine lv_iload hx hb dX2_can_64 (lv_at hl 2 rfl) ?_
          refine r_callV (As := [.int (iI (z61)), .int (iI ((1) - (((k) / (4)) % (2))))]) (rest := [.int (iI (fr))]) S (c_X2_stand l D cI cL tw (g0) (g1) (g2) (g3) (tu) (ph) (mo) (gc) (th) (P) (C) (z61) ((1) - (((k) / (4)) % (2))) (hB) (by omega) (by omega)) gX2_can_X2_stand rfl rfl rfl ⟨rfl, f_X2_stand⟩ hR (Nat.le_of_ble_eq_true rfl) (Nat.le_of_ble_eq_true rfl) hE hP [0, 1, 2, 3] rfl 0 rfl rfl rfl hl.1 rfl (Nat.le_of_ble_eq_true rfl) dX2_can_66 ⟨Nat.zero_le _, Nat.zero_le _⟩ (fun z66 hz66 => ?_)
          obtain ⟨hz66, rz66⟩ := hz66
          refine r_iconst hx hb dX2_can_69 ?_
          refine r_icmp_ge (tgt := 77) hx hb dX2_can_70 (by decide) (by unfold rI; omega) (by unfold rI; decide) (fun h70 => ?_) (fun h70 => ?_)
          · refine r_iconst hx hb dX2_can_77 ?_
            refine r_iand hx hb (z := 0) dX2_can_78 (bit_and0 _) ?_
            refine lv_istore (lv' := [(6, .int (iI (0))), (7, .int (iI (x))), (5, .int (iI ((1) - (((k) / (4)) % (2))))), (4, .int (iI ((k) / (4)))), (3, .int (iI (z3))), (0, .ref g0), (1, .int (iI (k))), (2, .int (iI (m)))]) hx hb dX2_can_79 hl (by decide) rfl (fun ls hl => ?_)
            refine lv_iinc (v := iI (x + 1)) (lv' := [(7, .int (iI (x + 1))), (6, .int (iI (0))), (5, .int (iI ((1) - (((k) / (4)) % (2))))), (4, .int (iI ((k) / (4)))), (3, .int (iI (z3))), (0, .ref g0), (1, .int (iI (k))), (2, .int (iI (m)))]) hx hb dX2_can_81 hl (k := 1) rfl (iI_add _ _) (by decide) rfl (fun ls hl => ?_)
            refine lv_goto (tgt := 41) hx hb dX2_can_84 (by decide) ?_
            exact ih_41 (74 - (x + 1) : Int).toNat (nlt (by omega) hd_41 (by omega)) (0) (x + 1) (Int.toNat_of_nonneg (by omega)) (by omega) (by refine Or.inr ⟨rfl, fun h => ?_⟩; have q := h.2 x (by omega) (by omega); rw [← hz61, ← hz66] at q; omega) ls (lv_sub hl [0, 1, 2, 3, 4, 5, 6, 7] rfl)
          · refine r_iconst hx hb dX2_can_73 ?_
            refine lv_goto (tgt := 78) hx hb dX2_can_74 (by decide) ?_
            refine r_iand hx hb (z := fr) dX2_can_78 (bit_and1 (by omega)) ?_
            refine lv_istore (lv' := [(6, .int (iI (fr))), (7, .int (iI (x))), (5, .int (iI ((1) - (((k) / (4)) % (2))))), (4, .int (iI ((k) / (4)))), (3, .int (iI (z3))), (0, .ref g0), (1, .int (iI (k))), (2, .int (iI (m)))]) hx hb dX2_can_79 hl (by decide) rfl (fun ls hl => ?_)
            refine lv_iinc (v := iI (x + 1)) (lv' := [(7, .int (iI (x + 1))), (6, .int (iI (fr))), (5, .int (iI ((1) - (((k) / (4)) % (2))))), (4, .int (iI ((k) / (4)))), (3, .int (iI (z3))), (0, .ref g0), (1, .int (iI (k))), (2, .int (iI (m)))]) hx hb dX2_can_81 hl (k := 1) rfl (iI_add _ _) (by decide) rfl (fun ls hl => ?_)
            refine lv_goto (tgt := 41) hx hb dX2_can_84 (by decide) ?_
            exact ih_41 (74 - (x + 1) : Int).toNat (nlt (by omega) hd_41 (by omega)) (fr) (x + 1) (Int.toNat_of_nonneg (by omega)) (by omega) (by rcases hf with ⟨q1, q2, q3⟩ | ⟨q1, q2⟩; (exact Or.inl ⟨by omega, q2, fun i h1 h2 => if e : i = x then (by subst e; rw [← hz61, ← hz66]; omega) else q3 i h1 (by omega)⟩); exact Or.inr ⟨by omega, fun h => q2 ⟨h.1, fun i h1 h2 => h.2 i h1 (by omega)⟩⟩) ls (lv_sub hl [0, 1, 2, 3, 4, 5, 6, 7] rfl)
    exact lp_41 (74 - ((v36) + (1)) : Int).toNat (1) ((v36) + (1)) (Int.toNat_of_nonneg (by omega)) (by omega) ((Or.inl ⟨rfl, by omega, fun i h1 h2 => by omega⟩)) ls (lv_sub hl [0, 1, 2, 3, 4, 5, 6, 7] rfl)

theorem f_X2_movers : yX2_movers.cls ≠ "java/lang/invoke/MethodHandle" ∧ yX2_movers.cls ≠ "java/lang/invoke/VarHandle" ∧ (parseMethodDescriptor yX2_movers.desc).map (fun d => d.parameters.length) = some 3 := by decide +kernel
set_option maxHeartbeats 4000000 in
set_option maxRecDepth 100000 in
theorem c_X2_movers (l : Launch) (D : va_G) (cI cL : ClassId) (tw : Nat) (g0 : Nat) (g1 : Nat) (g2 : Nat) (g3 : Nat) (tu : Int) (ph : Int) (mo : Int) (gc : Int) (th : Int) (P : Int → Int) (C : Int → Int) (a : Int) (m : Int) (w : Int) (hB : ∀ i, 0 ≤ P i ∧ P i ≤ 72) (ha : 0 ≤ a ∧ a ≤ 3) (hm : 0 ≤ m ∧ m ≤ 6) (hw : w = 1) : RO l yX2_movers wsX2_movers { frames := 3, cells := 0, slots := 0, locals := 74 } D cI cL tw [.ref g0, .int (iI (a)), .int (iI (m)), .int (iI (w))] [(g0, .inr (2, [.ref g1, .int (iI (tu)), .int (iI (ph)), .int (iI (mo)), .int (iI (gc)), .ref g2, .ref g3, .int (iI (th))])), (g1, .inl (cI, 16, .inl (aI P))), (g2, .inl (cI, 4, .inl (aI C))), (g3, .inl (cI, 7, .inl (aI wyI)))] (fun z : Int => z = ms P a m ∧ 0 ≤ z ∧ z ≤ 15) := by
  refine ro_of (cc := cX2_movers) (maxL := 6) (rt := .int) (own := RX2) (by decide) rfl rfl (Or.inl rfl) (Nat.le_of_ble_eq_true rfl) ?_
  intro p e R s mt args below meth c H Q ls S hR hE hP hl hret
  obtain ⟨hx, hb, hml, hown, hts⟩ := id S
  have hl : lv_has ls 6 [(0, .ref g0), (1, .int (iI (a))), (2, .int (iI (m))), (3, .int (iI (w)))] := hl
  refine r_iconst hx hb dX2_movers_0 ?_
  refine lv_istore (lv' := [(4, .int (iI (0))), (0, .ref g0), (1, .int (iI (a))), (2, .int (iI (m))), (3, .int (iI (w)))]) hx hb dX2_movers_1 hl (by decide) rfl (fun ls hl => ?_)
  refine r_iconst hx hb dX2_movers_3 ?_
  refine lv_istore (lv' := [(5, .int (iI (0))), (4, .int (iI (0))), (0, .ref g0), (1, .int (iI (a))), (2, .int (iI (m))), (3, .int (iI (w)))]) hx hb dX2_movers_4 hl (by decide) rfl (fun ls hl => ?_)
  have lp_6 : ∀ (d_6 : Nat) (n : Int) (j : Int), (d_6 : Int) = 4 - j → (0 ≤ j ∧ j ≤ 4) → (n = sZ (msN P a m) j ∧ 0 ≤ n ∧ n < p2 j) → ∀ ls : Array Slot, lv_has ls 6 [(5, .int (iI (j))), (4, .int (iI (n))), (0, .ref g0), (1, .int (iI (a))), (2, .int (iI (m))), (3, .int (iI (w)))] → W p l e R s mt args below meth c H [] 0 0 Q (F0 mt 6 ls []) := by
    intro d_6
    induction d_6 using Nat.strongRecOn with
    | ind d_6 ih_6 =>
    intro n j hd_6 hj hn ls hl
    refine lv_iload hx hb dX2_movers_6 (lv_at hl 0 rfl) ?_
    refine r_iconst hx hb dX2_movers_8 ?_
    refine r_icmp_ge (tgt := 46) hx hb dX2_movers_9 (by decide) (by unfold rI; omega) (by unfold rI; decide) (fun h9 => ?_) (fun h9 => ?_)
    · refine lv_iload hx hb dX2_movers_46 (lv_at hl 1 rfl) ?_
      exact hret (n) _ _ dX2_movers_48 (by have e : j = 4 := (by omega); subst e; have : p2 4 = 16 := rfl; exact ⟨hn.1, by omega⟩)
    · refine lv_iload hx hb dX2_movers_12 (lv_at hl 1 rfl) ?_
      refine lv_aload_n hx hb dX2_movers_14 rfl (lv_at hl 2 rfl) ?_
      refine r_iconst hx hb dX2_movers_15 ?_
      refine lv_iload_n hx hb dX2_movers_16 rfl (lv_at hl 3 rfl) ?_
      refine r_imul hx hb dX2_movers_17 ?_
      refine lv_iload hx hb dX2_movers_18 (lv_at hl 0 rfl) ?_
      refine r_iadd hx hb dX2_movers_20 ?_
      refine lv_iload_n hx hb dX2_movers_21 rfl (lv_at hl 4 rfl) ?_
      refine r_callV (As := [.int (iI (((4) * (a)) + (j))), .int (iI (m))]) (rest := [.int (iI (n))]) S (c_X2_can l D cI cL tw (g0) (g1) (g2) (g3) (tu) (ph) (mo) (gc) (th) (P) (C) (((4) * (a)) + (j)) (m) (hB) (by omega) (by omega)) gX2_movers_X2_can rfl rfl rfl ⟨rfl, f_X2_can⟩ hR (Nat.le_of_ble_eq_true rfl) (Nat.le_of_ble_eq_true rfl) hE hP [0, 1, 2, 3] rfl 0 rfl rfl rfl hl.1 rfl (Nat.le_of_ble_eq_true rfl) dX2_movers_22 ⟨Nat.zero_le _, Nat.zero_le _⟩ (fun z22 hz22 => ?_)
      obtain ⟨hz22, rz22⟩ := hz22
      refine lv_iload_n hx hb dX2_movers_25 rfl (lv_at hl 5 rfl) ?_
      refine r_icmp_lt (tgt := 36) hx hb dX2_movers_26 (by decide) (by unfold rI; omega) (by unfold rI; omega) (fun h26 => ?_) (fun h26 => ?_)
      · refine r_iconst hx hb dX2_movers_36 ?_
        refine r_ior hx hb (z := n) dX2_movers_37 (bit_or0 _) ?_
        refine lv_istore (lv' := [(4, .int (iI (n))), (5, .int (iI (j))), (0, .ref g0), (1, .int (iI (a))), (2, .int (iI (m))), (3, .int (iI (w)))]) hx hb dX2_movers_38 hl (by decide) rfl (fun ls hl => ?_)
        refine lv_iinc (v := iI (j + 1)) (lv' := [(5, .int (iI (j + 1))), (4, .int (iI (n))), (0, .ref g0), (1, .int (iI (a))), (2, .int (iI (m))), (3, .int (iI (w)))]) hx hb dX2_movers_40 hl (k := 1) rfl (iI_add _ _) (by decide) rfl (fun ls hl => ?_)
        refine lv_goto (tgt := 6) hx hb dX2_movers_43 (by decide) ?_
        exact ih_6 (4 - (j + 1) : Int).toNat (nlt (by omega) hd_6 (by omega)) (n) (j + 1) (Int.toNat_of_nonneg (by omega)) (by omega) (by have q2 := p2_s (j := j) (by omega); refine ⟨?_, by omega⟩; rw [sZ_s _ (by omega), ← hn.1]; unfold msN; rw [show 4 * a + j = 4 * a + j from rfl, if_pos (by omega)]; omega) ls (lv_sub hl [0, 1, 2, 3, 4, 5] rfl)
      · refine r_iconst hx hb dX2_movers_29 ?_
        refine lv_iload hx hb dX2_movers_30 (lv_at hl 0 rfl) ?_
        refine r_ishl hx hb (z := (p2 j)) dX2_movers_32 (bit_shl (by omega)) ?_
        refine lv_goto (tgt := 37) hx hb dX2_movers_33 (by decide) ?_
        refine r_ior hx hb (z := (n + p2 j)) dX2_movers_37 (bit_or (by omega) (by omega)) ?_
        refine lv_istore (lv' := [(4, .int (iI ((n + p2 j)))), (5, .int (iI (j))), (0, .ref g0), (1, .int (iI (a))), (2, .int (iI (m))), (3, .int (iI (w)))]) hx hb dX2_movers_38 hl (by decide) rfl (fun ls hl => ?_)
        refine lv_iinc (v := iI (j + 1)) (lv' := [(5, .int (iI (j + 1))), (4, .int (iI ((n + p2 j)))), (0, .ref g0), (1, .int (iI (a))), (2, .int (iI (m))), (3, .int (iI (w)))]) hx hb dX2_movers_40 hl (k := 1) rfl (iI_add _ _) (by decide) rfl (fun ls hl => ?_)
        refine lv_goto (tgt := 6) hx hb dX2_movers_43 (by decide) ?_
        exact ih_6 (4 - (j + 1) : Int).toNat (nlt (by omega) hd_6 (by omega)) ((n + p2 j)) (j + 1) (Int.toNat_of_nonneg (by omega)) (by omega) (by have q2 := p2_s (j := j) (by omega); refine ⟨?_, by omega⟩; rw [sZ_s _ (by omega), ← hn.1]; unfold msN; rw [show 4 * a + j = 4 * a + j from rfl, if_neg (by omega)]) ls (lv_sub hl [0, 1, 2, 3, 4, 5] rfl)
  exact lp_6 (4 - (0) : Int).toNat (0) (0) (Int.toNat_of_nonneg (by omega)) (by omega) (by exact ⟨(sZ_0 _).symm, by decide⟩) ls (lv_sub hl [0, 1, 2, 3, 4, 5] rfl)

set_option maxRecDepth 20000 in
theorem mw_X2_does_0 : (.fieldLink RX2 7 "PachisiYardModel" "at" "[I" : Cond) ∈ wsX2_does := by decide +kernel
set_option maxRecDepth 20000 in
theorem mu_X2_does_X2 : ∀ w ∈ wsX20, w ∈ wsX2_does := by decide +kernel
theorem f_X2_does : yX2_does.cls ≠ "java/lang/invoke/MethodHandle" ∧ yX2_does.cls ≠ "java/lang/invoke/VarHandle" ∧ (parseMethodDescriptor yX2_does.desc).map (fun d => d.parameters.length) = some 3 := by decide +kernel
set_option maxHeartbeats 4000000 in
set_option maxRecDepth 100000 in
theorem c_X2_does (l : Launch) (D : va_G) (cI cL : ClassId) (tw : Nat) (g0 : Nat) (g1 : Nat) (g2 : Nat) (g3 : Nat) (tu : Int) (ph : Int) (mo : Int) (gc : Int) (th : Int) (P : Int → Int) (C : Int → Int) (a : Int) (m : Int) (w : Int) (hB : ∀ i, 0 ≤ P i ∧ P i ≤ 72) (ha : 0 ≤ a ∧ a ≤ 3) (hm : 0 ≤ m ∧ m ≤ 6) (hw : 0 ≤ w ∧ w ≤ 3) : RO l yX2_does wsX2_does { frames := 3, cells := 0, slots := 0, locals := 74 } D cI cL tw [.ref g0, .int (iI (a)), .int (iI (m)), .int (iI (w))] [(g0, .inr (2, [.ref g1, .int (iI (tu)), .int (iI (ph)), .int (iI (mo)), .int (iI (gc)), .ref g2, .ref g3, .int (iI (th))])), (g1, .inl (cI, 16, .inl (aI P))), (g2, .inl (cI, 4, .inl (aI C))), (g3, .inl (cI, 7, .inl (aI wyI)))] (tz (dzP P a m w)) := by
  refine ro_of (cc := cX2_does) (maxL := 7) (rt := .boolean) (own := RX2) (by decide) rfl rfl (Or.inr ⟨rfl, fun z h => by rcases h with ⟨h, _⟩ | ⟨h, _⟩ <;> omega⟩) (Nat.le_of_ble_eq_true rfl) ?_
  intro p e R s mt args below meth c H Q ls S hR hE hP hl hret
  obtain ⟨hx, hb, hml, hown, hts⟩ := id S
  have hl : lv_has ls 7 [(0, .ref g0), (1, .int (iI (a))), (2, .int (iI (m))), (3, .int (iI (w)))] := hl
  refine r_iconst hx hb dX2_does_0 ?_
  refine lv_istore (lv' := [(4, .int (iI (0))), (0, .ref g0), (1, .int (iI (a))), (2, .int (iI (m))), (3, .int (iI (w)))]) hx hb dX2_does_1 hl (by decide) rfl (fun ls hl => ?_)
  refine r_iconst hx hb dX2_does_3 ?_
  refine lv_iload_n hx hb dX2_does_4 rfl (lv_at hl 2 rfl) ?_
  refine r_imul hx hb dX2_does_5 ?_
  refine lv_istore (lv' := [(5, .int (iI ((4) * (a)))), (4, .int (iI (0))), (0, .ref g0), (1, .int (iI (a))), (2, .int (iI (m))), (3, .int (iI (w)))]) hx hb dX2_does_6 hl (by decide) rfl (fun ls hl => ?_)
  have lp_8 : ∀ (d_8 : Nat) (n : Int) (k : Int), (d_8 : Int) = 4 * a + 4 - k → (4 * a ≤ k ∧ k ≤ 4 * a + 4) → ((n = 1 ∧ ∃ i, 0 ≤ i ∧ i < k - 4 * a ∧ dzA P a m w i) ∨ (n = 0 ∧ ∀ i, 0 ≤ i → i < k - 4 * a → ¬ dzA P a m w i)) → ∀ ls : Array Slot, lv_has ls 7 [(5, .int (iI (k))), (4, .int (iI (n))), (0, .ref g0), (1, .int (iI (a))), (2, .int (iI (m))), (3, .int (iI (w)))] → W p l e R s mt args below meth c H [] 0 0 Q (F0 mt 8 ls []) := by
    intro d_8
    induction d_8 using Nat.strongRecOn with
    | ind d_8 ih_8 =>
    intro n k hd_8 hk hn ls hl
    refine lv_iload hx hb dX2_does_8 (lv_at hl 0 rfl) ?_
    refine r_iconst hx hb dX2_does_10 ?_
    refine lv_iload_n hx hb dX2_does_11 rfl (lv_at hl 3 rfl) ?_
    refine r_imul hx hb dX2_does_12 ?_
    refine r_iconst hx hb dX2_does_13 ?_
    refine r_iadd hx hb dX2_does_14 ?_
    refine r_icmp_ge (tgt := 95) hx hb dX2_does_15 (by decide) (by unfold rI; omega) (by unfold rI; omega) (fun h15 => ?_) (fun h15 => ?_)
    · refine lv_iload hx hb dX2_does_95 (lv_at hl 1 rfl) ?_
      exact hret (n) _ _ dX2_does_97 (by rcases hn with ⟨q1, i, q2, q3, q4⟩ | ⟨q1, q2⟩; (exact Or.inl ⟨q1, i, q2, by omega, q4⟩); exact Or.inr ⟨q1, fun ⟨i, h1, h2, h3⟩ => q2 i h1 (by omega) h3⟩)
    · refine lv_aload_n hx hb dX2_does_18 rfl (lv_at hl 2 rfl) ?_
      refine lv_iload hx hb dX2_does_19 (lv_at hl 0 rfl) ?_
      refine lv_iload_n hx hb dX2_does_21 rfl (lv_at hl 4 rfl) ?_
      refine r_callV (As := [.int (iI (k)), .int (iI (m))]) (rest := []) S (c_X2_can l D cI cL tw (g0) (g1) (g2) (g3) (tu) (ph) (mo) (gc) (th) (P) (C) (k) (m) (hB) (by omega) (by omega)) gX2_does_X2_can rfl rfl rfl ⟨rfl, f_X2_can⟩ hR (Nat.le_of_ble_eq_true rfl) (Nat.le_of_ble_eq_true rfl) hE hP [0, 1, 2, 3] rfl 0 rfl rfl rfl hl.1 rfl (Nat.le_of_ble_eq_true rfl) dX2_does_22 ⟨Nat.zero_le _, Nat.zero_le _⟩ (fun z22 hz22 => ?_)
      obtain ⟨hz22, rz22⟩ := hz22
      refine lv_istore (lv' := [(6, .int (iI (z22))), (5, .int (iI (k))), (4, .int (iI (n))), (0, .ref g0), (1, .int (iI (a))), (2, .int (iI (m))), (3, .int (iI (w)))]) hx hb dX2_does_25 hl (by decide) rfl (fun ls hl => ?_)
      refine lv_iload hx hb dX2_does_27 (lv_at hl 2 rfl) ?_
      refine lv_iload hx hb dX2_does_29 (lv_at hl 0 rfl) ?_
      refine r_if_le (tgt := 85) hx hb dX2_does_31 (by decide) (by unfold rI; omega) (fun h31 => ?_) (fun h31 => ?_)
      · refine r_iconst hx hb dX2_does_85 ?_
        refine r_ior hx hb (z := n) dX2_does_86 (bit_or0 _) ?_
        refine lv_istore (lv' := [(4, .int (iI (n))), (6, .int (iI (z22))), (5, .int (iI (k))), (0, .ref g0), (1, .int (iI (a))), (2, .int (iI (m))), (3, .int (iI (w)))]) hx hb dX2_does_87 hl (by decide) rfl (fun ls hl => ?_)
        refine lv_iinc (v := iI (k + 1)) (lv' := [(5, .int (iI (k + 1))), (4, .int (iI (n))), (6, .int (iI (z22))), (0, .ref g0), (1, .int (iI (a))), (2, .int (iI (m))), (3, .int (iI (w)))]) hx hb dX2_does_89 hl (k := 2) rfl (iI_add _ _) (by decide) rfl (fun ls hl => ?_)
        refine lv_goto (tgt := 8) hx hb dX2_does_92 (by decide) ?_
        exact ih_8 (4 * a + 4 - (k + 1) : Int).toNat (nlt (by omega) hd_8 (by omega)) (n) (k + 1) (Int.toNat_of_nonneg (by omega)) (by omega) (by have hd : ¬ dzA P a m w (k - 4 * a) := (by unfold dzA; rw [show 4 * a + (k - 4 * a) = k by omega]; omega); rcases hn with ⟨q1, i, q2, q3, q4⟩ | ⟨q1, q2⟩; (exact Or.inl ⟨q1, i, q2, by omega, q4⟩); exact Or.inr ⟨q1, fun i h1 h2 => if e : i = k - 4 * a then (by subst e; exact hd) else q2 i h1 (by omega)⟩) ls (lv_sub hl [0, 1, 3, 4, 5, 6] rfl)
      · refine lv_iload_n hx hb dX2_does_34 rfl (lv_at hl 6 rfl) ?_
        refine r_if_eq (tgt := 81) hx hb dX2_does_35 (by decide) (by unfold rI; omega) (fun h35 => ?_) (fun h35 => ?_)
        · refine r_iconst hx hb dX2_does_81 ?_
          refine lv_goto (tgt := 86) hx hb dX2_does_82 (by decide) ?_
          refine r_ior hx hb (z := 1) dX2_does_86 (bit_or1 (by omega)) ?_
          refine lv_istore (lv' := [(4, .int (iI (1))), (6, .int (iI (z22))), (5, .int (iI (k))), (0, .ref g0), (1, .int (iI (a))), (2, .int (iI (m))), (3, .int (iI (w)))]) hx hb dX2_does_87 hl (by decide) rfl (fun ls hl => ?_)
          refine lv_iinc (v := iI (k + 1)) (lv' := [(5, .int (iI (k + 1))), (4, .int (iI (1))), (6, .int (iI (z22))), (0, .ref g0), (1, .int (iI (a))), (2, .int (iI (m))), (3, .int (iI (w)))]) hx hb dX2_does_89 hl (k := 2) rfl (iI_add _ _) (by decide) rfl (fun ls hl => ?_)
          refine lv_goto (tgt := 8) hx hb dX2_does_92 (by decide) ?_
          exact ih_8 (4 * a + 4 - (k + 1) : Int).toNat (nlt (by omega) hd_8 (by omega)) (1) (k + 1) (Int.toNat_of_nonneg (by omega)) (by omega) (by have hd : dzA P a m w (k - 4 * a) := (by unfold dzA; rw [show 4 * a + (k - 4 * a) = k by omega]; omega); exact Or.inl ⟨rfl, k - 4 * a, by omega, by omega, hd⟩) ls (lv_sub hl [0, 1, 3, 4, 5, 6] rfl)
        · refine lv_iload_n hx hb dX2_does_38 rfl (lv_at hl 6 rfl) ?_
          refine r_iconst hx hb dX2_does_39 ?_
          refine r_icmp_ne (tgt := 49) hx hb dX2_does_40 (by decide) (by unfold rI; omega) (by unfold rI; decide) (fun h40 => ?_) (fun h40 => ?_)
          · refine lv_iload_n hx hb dX2_does_49 rfl (lv_at hl 6 rfl) ?_
            refine r_iconst hx hb dX2_does_50 ?_
            refine r_icmp_ne (tgt := 66) hx hb dX2_does_51 (by decide) (by unfold rI; omega) (by unfold rI; decide) (fun h51 => ?_) (fun h51 => ?_)
            · refine lv_iload_n hx hb dX2_does_66 rfl (lv_at hl 6 rfl) ?_
              refine r_iconst hx hb dX2_does_67 ?_
              refine r_icmp_ne (tgt := 85) hx hb dX2_does_68 (by decide) (by unfold rI; omega) (by unfold rI; decide) (fun h68 => ?_) (fun h68 => ?_)
              · refine r_iconst hx hb dX2_does_85 ?_
                refine r_ior hx hb (z := n) dX2_does_86 (bit_or0 _) ?_
                refine lv_istore (lv' := [(4, .int (iI (n))), (6, .int (iI (z22))), (5, .int (iI (k))), (0, .ref g0), (1, .int (iI (a))), (2, .int (iI (m))), (3, .int (iI (w)))]) hx hb dX2_does_87 hl (by decide) rfl (fun ls hl => ?_)
                refine lv_iinc (v := iI (k + 1)) (lv' := [(5, .int (iI (k + 1))), (4, .int (iI (n))), (6, .int (iI (z22))), (0, .ref g0), (1, .int (iI (a))), (2, .int (iI (m))), (3, .int (iI (w)))]) hx hb dX2_does_89 hl (k := 2) rfl (iI_add _ _) (by decide) rfl (fun ls hl => ?_)
                refine lv_goto (tgt := 8) hx hb dX2_does_92 (by decide) ?_
                exact ih_8 (4 * a + 4 - (k + 1) : Int).toNat (nlt (by omega) hd_8 (by omega)) (n) (k + 1) (Int.toNat_of_nonneg (by omega)) (by omega) (by have hd : ¬ dzA P a m w (k - 4 * a) := (by unfold dzA; rw [show 4 * a + (k - 4 * a) = k by omega]; omega); rcases hn with ⟨q1, i, q2, q3, q4⟩ | ⟨q1, q2⟩; (exact Or.inl ⟨q1, i, q2, by omega, q4⟩); exact Or.inr ⟨q1, fun i h1 h2 => if e : i = k - 4 * a then (by subst e; exact hd) else q2 i h1 (by omega)⟩) ls (lv_sub hl [0, 1, 3, 4, 5, 6] rfl)
              · refine lv_aload_n hx hb dX2_does_71 rfl (lv_at hl 3 rfl) ?_
                refine va_get (D := D) (ci := 2) (v := .ref g1) (C := RX2) (T := TX2) (N := 8) hx hb hts mu_X2_does_X2 hown hE.1 hP 0 rfl rfl 0 (by decide) (hts _ mw_X2_does_0) (fun _ h9 => h9) rfl dX2_does_72 ?_
                refine lv_iload hx hb dX2_does_75 (lv_at hl 1 rfl) ?_
                refine r_iald hx hb hE.1 hP 1 rfl (i := k) (by omega) (by omega) (by decide) dX2_does_77 ?_
                obtain ⟨v77, ev77⟩ : ∃ v : Int, v = P (k) := ⟨_, rfl⟩
                have gv77 := hB (k)
                refine r_top v77 ev77.symm ?_
                rw [← ev77] at gv77
                refine r_if_ne (tgt := 85) hx hb dX2_does_78 (by decide) (by unfold rI; omega) (fun h78 => ?_) (fun h78 => ?_)
                · refine r_iconst hx hb dX2_does_85 ?_
                  refine r_ior hx hb (z := n) dX2_does_86 (bit_or0 _) ?_
                  refine lv_istore (lv' := [(4, .int (iI (n))), (6, .int (iI (z22))), (5, .int (iI (k))), (0, .ref g0), (1, .int (iI (a))), (2, .int (iI (m))), (3, .int (iI (w)))]) hx hb dX2_does_87 hl (by decide) rfl (fun ls hl => ?_)
                  refine lv_iinc (v := iI (k + 1)) (lv' := [(5, .int (iI (k + 1))), (4, .int (iI (n))), (6, .int (iI (z22))), (0, .ref g0), (1, .int (iI (a))), (2, .int (iI (m))), (3, .int (iI (w)))]) hx hb dX2_does_89 hl (k := 2) rfl (iI_add _ _) (by decide) rfl (fun ls hl => ?_)
                  refine lv_goto (tgt := 8) hx hb dX2_does_92 (by decide) ?_
                  exact ih_8 (4 * a + 4 - (k + 1) : Int).toNat (nlt (by omega) hd_8 (by omega)) (n) (k + 1) (Int.toNat_of_nonneg (by omega)) (by omega) (by have hd : ¬ dzA P a m w (k - 4 * a) := (by unfold dzA; rw [show 4 * a + (k - 4 * a) = k by omega]; omega); rcases hn with ⟨q1, i, q2, q3, q4⟩ | ⟨q1, q2⟩; (exact Or.inl ⟨q1, i, q2, by omega, q4⟩); exact Or.inr ⟨q1, fun i h1 h2 => if e : i = k - 4 * a then (by subst e; exact hd) else q2 i h1 (by omega)⟩) ls (lv_sub hl [0, 1, 3, 4, 5, 6] rfl)
                · refine r_iconst hx hb dX2_does_81 ?_
                  refine lv_goto (tgt := 86) hx hb dX2_does_82 (by decide) ?_
                  refine r_ior hx hb (z := 1) dX2_does_86 (bit_or1 (by omega)) ?_
                  refine lv_istore (lv' := [(4, .int (iI (1))), (6, .int (iI (z22))), (5, .int (iI (k))), (0, .ref g0), (1, .int (iI (a))), (2, .int (iI (m))), (3, .int (iI (w)))]) hx hb dX2_does_87 hl (by decide) rfl (fun ls hl => ?_)
                  refine lv_iinc (v := iI (k + 1)) (lv' := [(5, .int (iI (k + 1))), (4, .int (iI (1))), (6, .int (iI (z22))), (0, .ref g0), (1, .int (iI (a))), (2, .int (iI (m))), (3, .int (iI (w)))]) hx hb dX2_does_89 hl (k := 2) rfl (iI_add _ _) (by decide) rfl (fun ls hl => ?_)
                  refine lv_goto (tgt := 8) hx hb dX2_does_92 (by decide) ?_
                  exact ih_8 (4 * a + 4 - (k + 1) : Int).toNat (nlt (by omega) hd_8 (by omega)) (1) (k + 1) (Int.toNat_of_nonneg (by omega)) (by omega) (by have hd : dzA P a m w (k - 4 * a) := (by unfold dzA; rw [show 4 * a + (k - 4 * a) = k by omega]; omega); exact Or.inl ⟨rfl, k - 4 * a, by omega, by omega, hd⟩) ls (lv_sub hl [0, 1, 3, 4, 5, 6] rfl)
            · refine lv_aload_n hx hb dX2_does_54 rfl (lv_at hl 3 rfl) ?_
              refine lv_iload hx hb dX2_does_55 (lv_at hl 1 rfl) ?_
              refine lv_iload_n hx hb dX2_does_57 rfl (lv_at hl 5 rfl) ?_
              refine r_callV (As := [.int (iI (k)), .int (iI (m))]) (rest := [.int (iI (n))]) S (c_X2_target l D cI cL tw (g0) (g1) (g2) (g3) (tu) (ph) (mo) (gc) (th) (P) (C) (k) (m) (hB) (by omega) (by omega)) gX2_does_X2_target rfl rfl rfl ⟨rfl, f_X2_target⟩ hR (Nat.le_of_ble_eq_true rfl) (Nat.le_of_ble_eq_true rfl) hE hP [0, 1, 2, 3] rfl 0 rfl rfl rfl hl.1 rfl (Nat.le_of_ble_eq_true rfl) dX2_does_58 ⟨Nat.zero_le _, Nat.zero_le _⟩ (fun z58 hz58 => ?_)
              obtain ⟨hz58, rz58⟩ := hz58
              refine r_bipush hx hb dX2_does_61 (by decide) ?_
              refine r_icmp_eq (tgt := 81) hx hb dX2_does_63 (by decide) (by unfold rI; omega) (by unfold rI; decide) (fun h63 => ?_) (fun h63 => ?_)
              · refine r_iconst hx hb dX2_does_81 ?_
                refine lv_goto (tgt := 86) hx hb dX2_does_82 (by decide) ?_
                refine r_ior hx hb (z := 1) dX2_does_86 (bit_or1 (by omega)) ?_
                refine lv_istore (lv' := [(4, .int (iI (1))), (6, .int (iI (z22))), (5, .int (iI (k))), (0, .ref g0), (1, .int (iI (a))), (2, .int (iI (m))), (3, .int (iI (w)))]) hx hb dX2_does_87 hl (by decide) rfl (fun ls hl => ?_)
                refine lv_iinc (v := iI (k + 1)) (lv' := [(5, .int (iI (k + 1))), (4, .int (iI (1))), (6, .int (iI (z22))), (0, .ref g0), (1, .int (iI (a))), (2, .int (iI (m))), (3, .int (iI (w)))]) hx hb dX2_does_89 hl (k := 2) rfl (iI_add _ _) (by decide) rfl (fun ls hl => ?_)
                refine lv_goto (tgt := 8) hx hb dX2_does_92 (by decide) ?_
                exact ih_8 (4 * a + 4 - (k + 1) : Int).toNat (nlt (by omega) hd_8 (by omega)) (1) (k + 1) (Int.toNat_of_nonneg (by omega)) (by omega) (by have hd : dzA P a m w (k - 4 * a) := (by unfold dzA; rw [show 4 * a + (k - 4 * a) = k by omega]; omega); exact Or.inl ⟨rfl, k - 4 * a, by omega, by omega, hd⟩) ls (lv_sub hl [0, 1, 3, 4, 5, 6] rfl)
              · refine lv_iload_n hx hb dX2_does_66 rfl (lv_at hl 6 rfl) ?_
                refine r_iconst hx hb dX2_does_67 ?_
                refine r_icmp_ne (tgt := 85) hx hb dX2_does_68 (by decide) (by unfold rI; omega) (by unfold rI; decide) (fun h68 => ?_) (fun h68 => ?_)
                · refine r_iconst hx hb dX2_does_85 ?_
                  refine r_ior hx hb (z := n) dX2_does_86 (bit_or0 _) ?_
                  refine lv_istore (lv' := [(4, .int (iI (n))), (6, .int (iI (z22))), (5, .int (iI (k))), (0, .ref g0), (1, .int (iI (a))), (2, .int (iI (m))), (3, .int (iI (w)))]) hx hb dX2_does_87 hl (by decide) rfl (fun ls hl => ?_)
                  refine lv_iinc (v := iI (k + 1)) (lv' := [(5, .int (iI (k + 1))), (4, .int (iI (n))), (6, .int (iI (z22))), (0, .ref g0), (1, .int (iI (a))), (2, .int (iI (m))), (3, .int (iI (w)))]) hx hb dX2_does_89 hl (k := 2) rfl (iI_add _ _) (by decide) rfl (fun ls hl => ?_)
                  refine lv_goto (tgt := 8) hx hb dX2_does_92 (by decide) ?_
                  exact ih_8 (4 * a + 4 - (k + 1) : Int).toNat (nlt (by omega) hd_8 (by omega)) (n) (k + 1) (Int.toNat_of_nonneg (by omega)) (by omega) (by have hd : ¬ dzA P a m w (k - 4 * a) := (by unfold dzA; rw [show 4 * a + (k - 4 * a) = k by omega]; omega); rcases hn with ⟨q1, i, q2, q3, q4⟩ | ⟨q1, q2⟩; (exact Or.inl ⟨q1, i, q2, by omega, q4⟩); exact Or.inr ⟨q1, fun i h1 h2 => if e : i = k - 4 * a then (by subst e; exact hd) else q2 i h1 (by omega)⟩) ls (lv_sub hl [0, 1, 3, 4, 5, 6] rfl)
                · refine lv_aload_n hx hb dX2_does_71 rfl (lv_at hl 3 rfl) ?_
                  refine va_get (D := D) (ci := 2) (v := .ref g1) (C := RX2) (T := TX2) (N := 8) hx hb hts mu_X2_does_X2 hown hE.1 hP 0 rfl rfl 0 (by decide) (hts _ mw_X2_does_0) (fun _ h9 => h9) rfl dX2_does_72 ?_
                  refine lv_iload hx hb dX2_does_75 (lv_at hl 1 rfl) ?_
                  refine r_iald hx hb hE.1 hP 1 rfl (i := k) (by omega) (by omega) (by decide) dX2_does_77 ?_
                  obtain ⟨v77, ev77⟩ : ∃ v : Int, v = P (k) := ⟨_, rfl⟩
                  have gv77 := hB (k)
                  refine r_top v77 ev77.symm ?_
                  rw [← ev77] at gv77
                  refine r_if_ne (tgt := 85) hx hb dX2_does_78 (by decide) (by unfold rI; omega) (fun h78 => ?_) (fun h78 => ?_)
                  · refine r_iconst hx hb dX2_does_85 ?_
                    refine r_ior hx hb (z := n) dX2_does_86 (bit_or0 _) ?_
                    refine lv_istore (lv' := [(4, .int (iI (n))), (6, .int (iI (z22))), (5, .int (iI (k))), (0, .ref g0), (1, .int (iI (a))), (2, .int (iI (m))), (3, .int (iI (w)))]) hx hb dX2_does_87 hl (by decide) rfl (fun ls hl => ?_)
                    refine lv_iinc (v := iI (k + 1)) (lv' := [(5, .int (iI (k + 1))), (4, .int (iI (n))), (6, .int (iI (z22))), (0, .ref g0), (1, .int (iI (a))), (2, .int (iI (m))), (3, .int (iI (w)))]) hx hb dX2_does_89 hl (k := 2) rfl (iI_add _ _) (by decide) rfl (fun ls hl => ?_)
                    refine lv_goto (tgt := 8) hx hb dX2_does_92 (by decide) ?_
                    exact ih_8 (4 * a + 4 - (k + 1) : Int).toNat (nlt (by omega) hd_8 (by omega)) (n) (k + 1) (Int.toNat_of_nonneg (by omega)) (by omega) (by have hd : ¬ dzA P a m w (k - 4 * a) := (by unfold dzA; rw [show 4 * a + (k - 4 * a) = k by omega]; omega); rcases hn with ⟨q1, i, q2, q3, q4⟩ | ⟨q1, q2⟩; (exact Or.inl ⟨q1, i, q2, by omega, q4⟩); exact Or.inr ⟨q1, fun i h1 h2 => if e : i = k - 4 * a then (by subst e; exact hd) else q2 i h1 (by omega)⟩) ls (lv_sub hl [0, 1, 3, 4, 5, 6] rfl)
                  · refine r_iconst hx hb dX2_does_81 ?_
                    refine lv_goto (tgt := 86) hx hb dX2_does_82 (by decide) ?_
                    refine r_ior hx hb (z := 1) dX2_does_86 (bit_or1 (by omega)) ?_
                    refine lv_istore (lv' := [(4, .int (iI (1))), (6, .int (iI (z22))), (5, .int (iI (k))), (0, .ref g0), (1, .int (iI (a))), (2, .int (iI (m))), (3, .int (iI (w)))]) hx hb dX2_does_87 hl (by decide) rfl (fun ls hl => ?_)
                    refine lv_iinc (v := iI (k + 1)) (lv' := [(5, .int (iI (k + 1))), (4, .int (iI (1))), (6, .int (iI (z22))), (0, .ref g0), (1, .int (iI (a))), (2, .int (iI (m))), (3, .int (iI (w)))]) hx hb dX2_does_89 hl (k := 2) rfl (iI_add _ _) (by decide) rfl (fun ls hl => ?_)
                    refine lv_goto (tgt := 8) hx hb dX2_does_92 (by decide) ?_
                    exact ih_8 (4 * a + 4 - (k + 1) : Int).toNat (nlt (by omega) hd_8 (by omega)) (1) (k + 1) (Int.toNat_of_nonneg (by omega)) (by omega) (by have hd : dzA P a m w (k - 4 * a) := (by unfold dzA; rw [show 4 * a + (k - 4 * a) = k by omega]; omega); exact Or.inl ⟨rfl, k - 4 * a, by omega, by omega, hd⟩) ls (lv_sub hl [0, 1, 3, 4, 5, 6] rfl)
          · refine lv_iload hx hb dX2_does_43 (lv_at hl 0 rfl) ?_
            refine r_iconst hx hb dX2_does_45 ?_
            refine r_icmp_eq (tgt := 81) hx hb dX2_does_46 (by decide) (by unfold rI; omega) (by unfold rI; decide) (fun h46 => ?_) (fun h46 => ?_)
            · refine r_iconst hx hb dX2_does_81 ?_
              refine lv_goto (tgt := 86) hx hb dX2_does_82 (by decide) ?_
              refine r_ior hx hb (z := 1) dX2_does_86 (bit_or1 (by omega)) ?_
              refine lv_istore (lv' := [(4, .int (iI (1))), (6, .int (iI (z22))), (5, .int (iI (k))), (0, .ref g0), (1, .int (iI (a))), (2, .int (iI (m))), (3, .int (iI (w)))]) hx hb dX2_does_87 hl (by decide) rfl (fun ls hl => ?_)
              refine lv_iinc (v := iI (k + 1)) (lv' := [(5, .int (iI (k + 1))), (4, .int (iI (1))), (6, .int (iI (z22))), (0, .ref g0), (1, .int (iI (a))), (2, .int (iI (m))), (3, .int (iI (w)))]) hx hb dX2_does_89 hl (k := 2) rfl (iI_add _ _) (by decide) rfl (fun ls hl => ?_)
              refine lv_goto (tgt := 8) hx hb dX2_does_92 (by decide) ?_
              exact ih_8 (4 * a + 4 - (k + 1) : Int).toNat (nlt (by omega) hd_8 (by omega)) (1) (k + 1) (Int.toNat_of_nonneg (by omega)) (by omega) (by have hd : dzA P a m w (k - 4 * a) := (by unfold dzA; rw [show 4 * a + (k - 4 * a) = k by omega]; omega); exact Or.inl ⟨rfl, k - 4 * a, by omega, by omega, hd⟩) ls (lv_sub hl [0, 1, 3, 4, 5, 6] rfl)
            · refine lv_iload_n hx hb dX2_does_49 rfl (lv_at hl 6 rfl) ?_
              refine r_iconst hx hb dX2_does_50 ?_
              refine r_icmp_ne (tgt := 66) hx hb dX2_does_51 (by decide) (by unfold rI; omega) (by unfold rI; decide) (fun h51 => ?_) (fun h51 => ?_)
              · refine lv_iload_n hx hb dX2_does_66 rfl (lv_at hl 6 rfl) ?_
                refine r_iconst hx hb dX2_does_67 ?_
                refine r_icmp_ne (tgt := 85) hx hb dX2_does_68 (by decide) (by unfold rI; omega) (by unfold rI; decide) (fun h68 => ?_) (fun h68 => ?_)
                · refine r_iconst hx hb dX2_does_85 ?_
                  refine r_ior hx hb (z := n) dX2_does_86 (bit_or0 _) ?_
                  refine lv_istore (lv' := [(4, .int (iI (n))), (6, .int (iI (z22))), (5, .int (iI (k))), (0, .ref g0), (1, .int (iI (a))), (2, .int (iI (m))), (3, .int (iI (w)))]) hx hb dX2_does_87 hl (by decide) rfl (fun ls hl => ?_)
                  refine lv_iinc (v := iI (k + 1)) (lv' := [(5, .int (iI (k + 1))), (4, .int (iI (n))), (6, .int (iI (z22))), (0, .ref g0), (1, .int (iI (a))), (2, .int (iI (m))), (3, .int (iI (w)))]) hx hb dX2_does_89 hl (k := 2) rfl (iI_add _ _) (by decide) rfl (fun ls hl => ?_)
                  refine lv_goto (tgt := 8) hx hb dX2_does_92 (by decide) ?_
                  exact ih_8 (4 * a + 4 - (k + 1) : Int).toNat (nlt (by omega) hd_8 (by omega)) (n) (k + 1) (Int.toNat_of_nonneg (by omega)) (by omega) (by have hd : ¬ dzA P a m w (k - 4 * a) := (by unfold dzA; rw [show 4 * a + (k - 4 * a) = k by omega]; omega); rcases hn with ⟨q1, i, q2, q3, q4⟩ | ⟨q1, q2⟩; (exact Or.inl ⟨q1, i, q2, by omega, q4⟩); exact Or.inr ⟨q1, fun i h1 h2 => if e : i = k - 4 * a then (by subst e; exact hd) else q2 i h1 (by omega)⟩) ls (lv_sub hl [0, 1, 3, 4, 5, 6] rfl)
                · refine lv_aload_n hx hb dX2_does_71 rfl (lv_at hl 3 rfl) ?_
                  refine va_get (D := D) (ci := 2) (v := .ref g1) (C := RX2) (T := TX2) (N := 8) hx hb hts mu_X2_does_X2 hown hE.1 hP 0 rfl rfl 0 (by decide) (hts _ mw_X2_does_0) (fun _ h9 => h9) rfl dX2_does_72 ?_
                  refine lv_iload hx hb dX2_does_75 (lv_at hl 1 rfl) ?_
                  refine r_iald hx hb hE.1 hP 1 rfl (i := k) (by omega) (by omega) (by decide) dX2_does_77 ?_
                  obtain ⟨v77, ev77⟩ : ∃ v : Int, v = P (k) := ⟨_, rfl⟩
                  have gv77 := hB (k)
                  refine r_top v77 ev77.symm ?_
                  rw [← ev77] at gv77
                  refine r_if_ne (tgt := 85) hx hb dX2_does_78 (by decide) (by unfold rI; omega) (fun h78 => ?_) (fun h78 => ?_)
                  · refine r_iconst hx hb dX2_does_85 ?_
                    refine r_ior hx hb (z := n) dX2_does_86 (bit_or0 _) ?_
                    refine lv_istore (lv' := [(4, .int (iI (n))), (6, .int (iI (z22))), (5, .int (iI (k))), (0, .ref g0), (1, .int (iI (a))), (2, .int (iI (m))), (3, .int (iI (w)))]) hx hb dX2_does_87 hl (by decide) rfl (fun ls hl => ?_)
                    refine lv_iinc (v := iI (k + 1)) (lv' := [(5, .int (iI (k + 1))), (4, .int (iI (n))), (6, .int (iI (z22))), (0, .ref g0), (1, .int (iI (a))), (2, .int (iI (m))), (3, .int (iI (w)))]) hx hb dX2_does_89 hl (k := 2) rfl (iI_add _ _) (by decide) rfl (fun ls hl => ?_)
                    refine lv_goto (tgt := 8) hx hb dX2_does_92 (by decide) ?_
                    exact ih_8 (4 * a + 4 - (k + 1) : Int).toNat (nlt (by omega) hd_8 (by omega)) (n) (k + 1) (Int.toNat_of_nonneg (by omega)) (by omega) (by have hd : ¬ dzA P a m w (k - 4 * a) := (by unfold dzA; rw [show 4 * a + (k - 4 * a) = k by omega]; omega); rcases hn with ⟨q1, i, q2, q3, q4⟩ | ⟨q1, q2⟩; (exact Or.inl ⟨q1, i, q2, by omega, q4⟩); exact Or.inr ⟨q1, fun i h1 h2 => if e : i = k - 4 * a then (by subst e; exact hd) else q2 i h1 (by omega)⟩) ls (lv_sub hl [0, 1, 3, 4, 5, 6] rfl)
                  · refine r_iconst hx hb dX2_does_81 ?_
                    refine lv_goto (tgt := 86) hx hb dX2_does_82 (by decide) ?_
                    refine r_ior hx hb (z := 1) dX2_does_86 (bit_or1 (by omega)) ?_
                    refine lv_istore (lv' := [(4, .int (iI (1))), (6, .int (iI (z22))), (5, .int (iI (k))), (0, .ref g0), (1, .int (iI (a))), (2, .int (iI (m))), (3, .int (iI (w)))]) hx hb dX2_does_87 hl (by decide) rfl (fun ls hl => ?_)
                    refine lv_iinc (v := iI (k + 1)) (lv' := [(5, .int (iI (k + 1))), (4, .int (iI (1))), (6, .int (iI (z22))), (0, .ref g0), (1, .int (iI (a))), (2, .int (iI (m))), (3, .int (iI (w)))]) hx hb dX2_does_89 hl (k := 2) rfl (iI_add _ _) (by decide) rfl (fun ls hl => ?_)
                    refine lv_goto (tgt := 8) hx hb dX2_does_92 (by decide) ?_
                    exact ih_8 (4 * a + 4 - (k + 1) : Int).toNat (nlt (by omega) hd_8 (by omega)) (1) (k + 1) (Int.toNat_of_nonneg (by omega)) (by omega) (by have hd : dzA P a m w (k - 4 * a) := (by unfold dzA; rw [show 4 * a + (k - 4 * a) = k by omega]; omega); exact Or.inl ⟨rfl, k - 4 * a, by omega, by omega, hd⟩) ls (lv_sub hl [0, 1, 3, 4, 5, 6] rfl)
              · refine lv_aload_n hx hb dX2_does_54 rfl (lv_at hl 3 rfl) ?_
                refine lv_iload hx hb dX2_does_55 (lv_at hl 1 rfl) ?_
                refine lv_iload_n hx hb dX2_does_57 rfl (lv_at hl 5 rfl) ?_
                refine r_callV (As := [.int (iI (k)), .int (iI (m))]) (rest := [.int (iI (n))]) S (c_X2_target l D cI cL tw (g0) (g1) (g2) (g3) (tu) (ph) (mo) (gc) (th) (P) (C) (k) (m) (hB) (by omega) (by omega)) gX2_does_X2_target rfl rfl rfl ⟨rfl, f_X2_target⟩ hR (Nat.le_of_ble_eq_true rfl) (Nat.le_of_ble_eq_true rfl) hE hP [0, 1, 2, 3] rfl 0 rfl rfl rfl hl.1 rfl (Nat.le_of_ble_eq_true rfl) dX2_does_58 ⟨Nat.zero_le _, Nat.zero_le _⟩ (fun z58 hz58 => ?_)
                obtain ⟨hz58, rz58⟩ := hz58
                refine r_bipush hx hb dX2_does_61 (by decide) ?_
                refine r_icmp_eq (tgt := 81) hx hb dX2_does_63 (by decide) (by unfold rI; omega) (by unfold rI; decide) (fun h63 => ?_) (fun h63 => ?_)
                · refine r_iconst hx hb dX2_does_81 ?_
                  refine lv_goto (tgt := 86) hx hb dX2_does_82 (by decide) ?_
                  refine r_ior hx hb (z := 1) dX2_does_86 (bit_or1 (by omega)) ?_
                  refine lv_istore (lv' := [(4, .int (iI (1))), (6, .int (iI (z22))), (5, .int (iI (k))), (0, .ref g0), (1, .int (iI (a))), (2, .int (iI (m))), (3, .int (iI (w)))]) hx hb dX2_does_87 hl (by decide) rfl (fun ls hl => ?_)
                  refine lv_iinc (v := iI (k + 1)) (lv' := [(5, .int (iI (k + 1))), (4, .int (iI (1))), (6, .int (iI (z22))), (0, .ref g0), (1, .int (iI (a))), (2, .int (iI (m))), (3, .int (iI (w)))]) hx hb dX2_does_89 hl (k := 2) rfl (iI_add _ _) (by decide) rfl (fun ls hl => ?_)
                  refine lv_goto (tgt := 8) hx hb dX2_does_92 (by decide) ?_
                  exact ih_8 (4 * a + 4 - (k + 1) : Int).toNat (nlt (by omega) hd_8 (by omega)) (1) (k + 1) (Int.toNat_of_nonneg (by omega)) (by omega) (by have hd : dzA P a m w (k - 4 * a) := (by unfold dzA; rw [show 4 * a + (k - 4 * a) = k by omega]; omega); exact Or.inl ⟨rfl, k - 4 * a, by omega, by omega, hd⟩) ls (lv_sub hl [0, 1, 3, 4, 5, 6] rfl)
                · refine lv_iload_n hx hb dX2_does_66 rfl (lv_at hl 6 rfl) ?_
                  refine r_iconst hx hb dX2_does_67 ?_
                  refine r_icmp_ne (tgt := 85) hx hb dX2_does_68 (by decide) (by unfold rI; omega) (by unfold rI; decide) (fun h68 => ?_) (fun h68 => ?_)
                  · refine r_iconst hx hb dX2_does_85 ?_
                    refine r_ior hx hb (z := n) dX2_does_86 (bit_or0 _) ?_
                    refine lv_istore (lv' := [(4, .int (iI (n))), (6, .int (iI (z22))), (5, .int (iI (k))), (0, .ref g0), (1, .int (iI (a))), (2, .int (iI (m))), (3, .int (iI (w)))]) hx hb dX2_does_87 hl (by decide) rfl (fun ls hl => ?_)
                    refine lv_iinc (v := iI (k + 1)) (lv' := [(5, .int (iI (k + 1))), (4, .int (iI (n))), (6, .int (iI (z22))), (0, .ref g0), (1, .int (iI (a))), (2, .int (iI (m))), (3, .int (iI (w)))]) hx hb dX2_does_89 hl (k := 2) rfl (iI_add _ _) (by decide) rfl (fun ls hl => ?_)
                    refine lv_goto (tgt := 8) hx hb dX2_does_92 (by decide) ?_
                    exact ih_8 (4 * a + 4 - (k + 1) : Int).toNat (nlt (by omega) hd_8 (by omega)) (n) (k + 1) (Int.toNat_of_nonneg (by omega)) (by omega) (by have hd : ¬ dzA P a m w (k - 4 * a) := (by unfold dzA; rw [show 4 * a + (k - 4 * a) = k by omega]; omega); rcases hn with ⟨q1, i, q2, q3, q4⟩ | ⟨q1, q2⟩; (exact Or.inl ⟨q1, i, q2, by omega, q4⟩); exact Or.inr ⟨q1, fun i h1 h2 => if e : i = k - 4 * a then (by subst e; exact hd) else q2 i h1 (by omega)⟩) ls (lv_sub hl [0, 1, 3, 4, 5, 6] rfl)
                  · refine lv_aload_n hx hb dX2_does_71 rfl (lv_at hl 3 rfl) ?_
                    refine va_get (D := D) (ci := 2) (v := .ref g1) (C := RX2) (T := TX2) (N := 8) hx hb hts mu_X2_does_X2 hown hE.1 hP 0 rfl rfl 0 (by decide) (hts _ mw_X2_does_0) (fun _ h9 => h9) rfl dX2_does_72 ?_
                    refine lv_iload hx hb dX2_does_75 (lv_at hl 1 rfl) ?_
                    refine r_iald hx hb hE.1 hP 1 rfl (i := k) (by omega) (by omega) (by decide) dX2_does_77 ?_
                    obtain ⟨v77, ev77⟩ : ∃ v : Int, v = P (k) := ⟨_, rfl⟩
                    have gv77 := hB (k)
                    refine r_top v77 ev77.symm ?_
                    rw [← ev77] at gv77
                    refine r_if_ne (tgt := 85) hx hb dX2_does_78 (by decide) (by unfold rI; omega) (fun h78 => ?_) (fun h78 => ?_)
                    · refine r_iconst hx hb dX2_does_85 ?_
                      refine r_ior hx hb (z := n) dX2_does_86 (bit_or0 _) ?_
                      refine lv_istore (lv' := [(4, .int (iI (n))), (6, .int (iI (z22))), (5, .int (iI (k))), (0, .ref g0), (1, .int (iI (a))), (2, .int (iI (m))), (3, .int (iI (w)))]) hx hb dX2_does_87 hl (by decide) rfl (fun ls hl => ?_)
                      refine lv_iinc (v := iI (k + 1)) (lv' := [(5, .int (iI (k + 1))), (4, .int (iI (n))), (6, .int (iI (z22))), (0, .ref g0), (1, .int (iI (a))), (2, .int (iI (m))), (3, .int (iI (w)))]) hx hb dX2_does_89 hl (k := 2) rfl (iI_add _ _) (by decide) rfl (fun ls hl => ?_)
                      refine lv_goto (tgt := 8) hx hb dX2_does_92 (by decide) ?_
                      exact ih_8 (4 * a + 4 - (k + 1) : Int).toNat (nlt (by omega) hd_8 (by omega)) (n) (k + 1) (Int.toNat_of_nonneg (by omega)) (by omega) (by have hd : ¬ dzA P a m w (k - 4 * a) := (by unfold dzA; rw [show 4 * a + (k - 4 * a) = k by omega]; omega); rcases hn with ⟨q1, i, q2, q3, q4⟩ | ⟨q1, q2⟩; (exact Or.inl ⟨q1, i, q2, by omega, q4⟩); exact Or.inr ⟨q1, fun i h1 h2 => if e : i = k - 4 * a then (by subst e; exact hd) else q2 i h1 (by omega)⟩) ls (lv_sub hl [0, 1, 3, 4, 5, 6] rfl)
                    · refine r_iconst hx hb dX2_does_81 ?_
                      refine lv_goto (tgt := 86) hx hb dX2_does_82 (by decide) ?_
                      refine r_ior hx hb (z := 1) dX2_does_86 (bit_or1 (by omega)) ?_
                      refine lv_istore (lv' := [(4, .int (iI (1))), (6, .int (iI (z22))), (5, .int (iI (k))), (0, .ref g0), (1, .int (iI (a))), (2, .int (iI (m))), (3, .int (iI (w)))]) hx hb dX2_does_87 hl (by decide) rfl (fun ls hl => ?_)
                      refine lv_iinc (v := iI (k + 1)) (lv' := [(5, .int (iI (k + 1))), (4, .int (iI (1))), (6, .int (iI (z22))), (0, .ref g0), (1, .int (iI (a))), (2, .int (iI (m))), (3, .int (iI (w)))]) hx hb dX2_does_89 hl (k := 2) rfl (iI_add _ _) (by decide) rfl (fun ls hl => ?_)
                      refine lv_goto (tgt := 8) hx hb dX2_does_92 (by decide) ?_
                      exact ih_8 (4 * a + 4 - (k + 1) : Int).toNat (nlt (by omega) hd_8 (by omega)) (1) (k + 1) (Int.toNat_of_nonneg (by omega)) (by omega) (by have hd : dzA P a m w (k - 4 * a) := (by unfold dzA; rw [show 4 * a + (k - 4 * a) = k by omega]; omega); exact Or.inl ⟨rfl, k - 4 * a, by omega, by omega, hd⟩) ls (lv_sub hl [0, 1, 3, 4, 5, 6] rfl)
  exact lp_8 (4 * a + 4 - ((4) * (a)) : Int).toNat (0) ((4) * (a)) (Int.toNat_of_nonneg (by omega)) (by omega) (by exact Or.inr ⟨rfl, fun i h1 h2 => by omega⟩) ls (lv_sub hl [0, 1, 2, 3, 4, 5] rfl)
