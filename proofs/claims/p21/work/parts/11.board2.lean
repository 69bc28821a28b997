theorem f_X0_movableSet : yX0_movableSet.cls ≠ "java/lang/invoke/MethodHandle" ∧ yX0_movableSet.cls ≠ "java/lang/invoke/VarHandle" ∧ (parseMethodDescriptor yX0_movableSet.desc).map (fun d => d.parameters.length) = some 2 := by decide +kernel
set_option maxHeartbeats 4000000 in
set_option maxRecDepth 100000 in
theorem c_X0_movableSet (l : Launch) (D : va_G) (cI cL : ClassId) (tw : Nat) (b : Nat) (pq : Nat) (cq : Nat) (P : Int → Int) (a : Int) (m : Int) (hB : ∀ i, 0 ≤ P i ∧ P i ≤ 72) (ha : 0 ≤ a ∧ a ≤ 3) (hm : 0 ≤ m ∧ m ≤ 6) : RO l yX0_movableSet wsX0_movableSet { frames := 3, cells := 0, slots := 0, locals := 81 } D cI cL tw [.ref b, .int (iI (a)), .int (iI (m))] [(b, .inr (0, [.ref pq, .ref cq])), (pq, .inl (cI, 16, .inl (aI P))), (cq, .inl (cI, 136, .inl (aI (cnt P))))] (fun z : Int => z = ms P a m ∧ 0 ≤ z ∧ z ≤ 15) := by
  refine ro_of (cc := cX0_movableSet) (maxL := 5) (rt := .int) (own := RX0) (by decide) rfl rfl (Or.inl rfl) (Nat.le_of_ble_eq_true rfl) ?_
  intro p e R s mt args below meth c H Q ls S hR hE hP hl hret
  obtain ⟨hx, hb, hml, hown, hts⟩ := id S
  have hl : lv_has ls 5 [(0, .ref b), (1, .int (iI (a))), (2, .int (iI (m)))] := hl
  refine r_iconst hx hb dX0_movableSet_0 ?_
  refine lv_istore_n (lv' := [(3, .int (iI (0))), (0, .ref b), (1, .int (iI (a))), (2, .int (iI (m)))]) hx hb dX0_movableSet_1 rfl hl (by decide) rfl (fun ls hl => ?_)
  refine r_iconst hx hb dX0_movableSet_2 ?_
  refine lv_istore (lv' := [(4, .int (iI (0))), (3, .int (iI (0))), (0, .ref b), (1, .int (iI (a))), (2, .int (iI (m)))]) hx hb dX0_movableSet_3 hl (by decide) rfl (fun ls hl => ?_)
  have lp_5 : ∀ (d_5 : Nat) (n : Int) (j : Int), (d_5 : Int) = 4 - j → (0 ≤ j ∧ j ≤ 4) → (n = sZ (msN P a m) j ∧ 0 ≤ n ∧ n < p2 j) → ∀ ls : Array Slot, lv_has ls 5 [(4, .int (iI (j))), (3, .int (iI (n))), (0, .ref b), (1, .int (iI (a))), (2, .int (iI (m)))] → W p l e R s mt args below meth c H [] 0 0 Q (F0 mt 5 ls []) := by
    intro d_5
    induction d_5 using Nat.strongRecOn with
    | ind d_5 ih_5 =>
    intro n j hd_5 hj hn ls hl
    refine lv_iload hx hb dX0_movableSet_5 (lv_at hl 0 rfl) ?_
    refine r_iconst hx hb dX0_movableSet_7 ?_
    refine r_icmp_ge (tgt := 36) hx hb dX0_movableSet_8 (by decide) (by unfold rI; omega) (by unfold rI; decide) (fun h8 => ?_) (fun h8 => ?_)
    · refine lv_iload_n hx hb dX0_movableSet_36 rfl (lv_at hl 1 rfl) ?_
      exact hret (n) _ _ dX0_movableSet_37 (by have e : j = 4 := (by omega); subst e; have : p2 4 = 16 := rfl; exact ⟨hn.1, by omega⟩)
    · refine lv_aload_n hx hb dX0_movableSet_11 rfl (lv_at hl 2 rfl) ?_
      refine lv_iload_n hx hb dX0_movableSet_12 rfl (lv_at hl 3 rfl) ?_
      refine lv_iload hx hb dX0_movableSet_13 (lv_at hl 0 rfl) ?_
      refine lv_iload_n hx hb dX0_movableSet_15 rfl (lv_at hl 4 rfl) ?_
      refine r_callV (As := [.int (iI (a)), .int (iI (j)), .int (iI (m))]) (rest := []) S (c_X0_targetOf l D cI cL tw (b) (pq) (cq) (P) (a) (j) (m) (hB) (by omega) (by omega) (by omega)) gX0_movableSet_X0_targetOf rfl rfl rfl ⟨rfl, f_X0_targetOf⟩ hR (Nat.le_of_ble_eq_true rfl) (Nat.le_of_ble_eq_true rfl) hE hP [0, 1, 2] rfl 0 rfl rfl rfl hl.1 rfl (Nat.le_of_ble_eq_true rfl) dX0_movableSet_16 ⟨Nat.zero_le _, Nat.zero_le _⟩ (fun z16 hz16 => ?_)
      obtain ⟨hz16, rz16⟩ := hz16
      refine r_iconst hx hb dX0_movableSet_19 ?_
      refine r_icmp_eq (tgt := 30) hx hb dX0_movableSet_20 (by decide) (by unfold rI; omega) (by unfold rI; decide) (fun h20 => ?_) (fun h20 => ?_)
      · refine lv_iinc (v := iI (j + 1)) (lv' := [(4, .int (iI (j + 1))), (3, .int (iI (n))), (0, .ref b), (1, .int (iI (a))), (2, .int (iI (m)))]) hx hb dX0_movableSet_30 hl (k := 0) rfl (iI_add _ _) (by decide) rfl (fun ls hl => ?_)
        refine lv_goto (tgt := 5) hx hb dX0_movableSet_33 (by decide) ?_
        exact ih_5 (4 - (j + 1) : Int).toNat (nlt (by omega) hd_5 (by omega)) (n) (j + 1) (Int.toNat_of_nonneg (by omega)) (by omega) (by have q2 := p2_s (j := j) (by omega); refine ⟨?_, by omega⟩; rw [sZ_s _ (by omega), ← hn.1]; unfold msN; rw [if_pos (tX_no hB hm (by rw [← hz16]; omega))]; omega) ls (lv_sub hl [0, 1, 2, 3, 4] rfl)
      · refine lv_iload_n hx hb dX0_movableSet_23 rfl (lv_at hl 1 rfl) ?_
        refine r_iconst hx hb dX0_movableSet_24 ?_
        refine lv_iload hx hb dX0_movableSet_25 (lv_at hl 0 rfl) ?_
        refine r_ishl hx hb (z := (p2 j)) dX0_movableSet_27 (bit_shl (by omega)) ?_
        refine r_ior hx hb (z := (n + p2 j)) dX0_movableSet_28 (bit_or (by omega) (by omega)) ?_
        refine lv_istore_n (lv' := [(3, .int (iI ((n + p2 j)))), (4, .int (iI (j))), (0, .ref b), (1, .int (iI (a))), (2, .int (iI (m)))]) hx hb dX0_movableSet_29 rfl hl (by decide) rfl (fun ls hl => ?_)
        refine lv_iinc (v := iI (j + 1)) (lv' := [(4, .int (iI (j + 1))), (3, .int (iI ((n + p2 j)))), (0, .ref b), (1, .int (iI (a))), (2, .int (iI (m)))]) hx hb dX0_movableSet_30 hl (k := 1) rfl (iI_add _ _) (by decide) rfl (fun ls hl => ?_)
        refine lv_goto (tgt := 5) hx hb dX0_movableSet_33 (by decide) ?_
        exact ih_5 (4 - (j + 1) : Int).toNat (nlt (by omega) hd_5 (by omega)) ((n + p2 j)) (j + 1) (Int.toNat_of_nonneg (by omega)) (by omega) (by have q2 := p2_s (j := j) (by omega); refine ⟨?_, by omega⟩; rw [sZ_s _ (by omega), ← hn.1]; unfold msN; rw [if_neg (tX_can (P := P) (k := 4 * a + j) (m := m) (by omega)).1]) ls (lv_sub hl [0, 1, 2, 3, 4] rfl)
  exact lp_5 (4 - (0) : Int).toNat (0) (0) (Int.toNat_of_nonneg (by omega)) (by omega) (by exact ⟨(sZ_0 _).symm, by decide⟩) ls (lv_sub hl [0, 1, 2, 3, 4] rfl)

theorem f_X0_isDone : yX0_isDone.cls ≠ "java/lang/invoke/MethodHandle" ∧ yX0_isDone.cls ≠ "java/lang/invoke/VarHandle" ∧ (parseMethodDescriptor yX0_isDone.desc).map (fun d => d.parameters.length) = some 3 := by decide +kernel
set_option maxHeartbeats 4000000 in
set_option maxRecDepth 100000 in
theorem c_X0_isDone (l : Launch) (D : va_G) (cI cL : ClassId) (tw : Nat) (b : Nat) (pq : Nat) (cq : Nat) (P : Int → Int) (w : Int) (a : Int) (t : Int) (hB : ∀ i, 0 ≤ P i ∧ P i ≤ 72) (hw : 0 ≤ w ∧ w ≤ 3) (ha : 0 ≤ a ∧ a ≤ 3) (ht : 0 ≤ t ∧ t ≤ 100) : RO l yX0_isDone wsX0_isDone { frames := 2, cells := 0, slots := 0, locals := 45 } D cI cL tw [.ref b, .int (iI (w)), .int (iI (a)), .int (iI (t))] [(b, .inr (0, [.ref pq, .ref cq])), (pq, .inl (cI, 16, .inl (aI P))), (cq, .inl (cI, 136, .inl (aI (cnt P))))] (tz (w = 0 ∨ w = 1 ∧ stA P (sA a t) (1 - a % 2) = 1 ∨ w = 2 ∧ t = 72 ∨ w = 3 ∧ t = 1)) := by
  refine ro_of (cc := cX0_isDone) (maxL := 4) (rt := .boolean) (own := RX0) (by decide) rfl rfl (Or.inr ⟨rfl, fun z h => by rcases h with ⟨h, _⟩ | ⟨h, _⟩ <;> omega⟩) (Nat.le_of_ble_eq_true rfl) ?_
  intro p e R s mt args below meth c H Q ls S hR hE hP hl hret
  obtain ⟨hx, hb, hml, hown, hts⟩ := id S
  have hl : lv_has ls 4 [(0, .ref b), (1, .int (iI (w))), (2, .int (iI (a))), (3, .int (iI (t)))] := hl
  refine lv_iload_n hx hb dX0_isDone_0 rfl (lv_at hl 1 rfl) ?_
  rcases (show w = 0 ∨ w = 1 ∨ w = 2 ∨ w = 3 by omega) with rfl | rfl | rfl | rfl
  · refine r_tsIn (w := 0) hx hb dX0_isDone_1 (by unfold rI; decide) (by decide) (by decide) rfl (tgt := 32) (by decide) ?_
    refine r_iconst hx hb dX0_isDone_32 ?_
    exact hret (1) _ _ dX0_isDone_33 (by exact Or.inl ⟨rfl, Or.inl rfl⟩)
  · refine r_tsIn (w := 1) hx hb dX0_isDone_1 (by unfold rI; decide) (by decide) (by decide) rfl (tgt := 34) (by decide) ?_
    refine lv_aload_n hx hb dX0_isDone_34 rfl (lv_at hl 0 rfl) ?_
    refine lv_iload_n hx hb dX0_isDone_35 rfl (lv_at hl 2 rfl) ?_
    refine lv_iload_n hx hb dX0_isDone_36 rfl (lv_at hl 3 rfl) ?_
    refine r_callV (As := [.int (iI (a)), .int (iI (t))]) (rest := []) S (c_X0_isCapture l D cI cL tw (b) (pq) (cq) (P) (a) (t) (hB) (by omega) (by omega)) gX0_isDone_X0_isCapture rfl rfl rfl ⟨rfl, f_X0_isCapture⟩ hR (Nat.le_of_ble_eq_true rfl) (Nat.le_of_ble_eq_true rfl) hE hP [0, 1, 2] rfl 0 rfl rfl rfl hl.1 rfl (Nat.le_of_ble_eq_true rfl) dX0_isDone_37 ⟨Nat.zero_le _, Nat.zero_le _⟩ (fun z37 hz37 => ?_)
    rcases hz37 with ⟨rfl, hz37⟩ | ⟨rfl, hz37⟩
    · exact hret (1) _ _ dX0_isDone_40 (by exact Or.inl ⟨rfl, Or.inr (Or.inl ⟨rfl, hz37⟩)⟩)
    · exact hret (0) _ _ dX0_isDone_40 (by exact Or.inr ⟨rfl, fun q => hz37 (by omega)⟩)
  · refine r_tsIn (w := 2) hx hb dX0_isDone_1 (by unfold rI; decide) (by decide) (by decide) rfl (tgt := 41) (by decide) ?_
    refine lv_iload_n hx hb dX0_isDone_41 rfl (lv_at hl 3 rfl) ?_
    refine r_bipush hx hb dX0_isDone_42 (by decide) ?_
    refine r_icmp_ne (tgt := 51) hx hb dX0_isDone_44 (by decide) (by unfold rI; omega) (by unfold rI; decide) (fun h44 => ?_) (fun h44 => ?_)
    · refine r_iconst hx hb dX0_isDone_51 ?_
      exact hret (0) _ _ dX0_isDone_52 (by unfold tz; omega)
    · refine r_iconst hx hb dX0_isDone_47 ?_
      refine lv_goto (tgt := 52) hx hb dX0_isDone_48 (by decide) ?_
      exact hret (1) _ _ dX0_isDone_52 (by unfold tz; omega)
  · refine r_tsIn (w := 3) hx hb dX0_isDone_1 (by unfold rI; decide) (by decide) (by decide) rfl (tgt := 53) (by decide) ?_
    refine lv_iload_n hx hb dX0_isDone_53 rfl (lv_at hl 3 rfl) ?_
    refine r_iconst hx hb dX0_isDone_54 ?_
    refine r_icmp_ne (tgt := 62) hx hb dX0_isDone_55 (by decide) (by unfold rI; omega) (by unfold rI; decide) (fun h55 => ?_) (fun h55 => ?_)
    · refine r_iconst hx hb dX0_isDone_62 ?_
      exact hret (0) _ _ dX0_isDone_63 (by unfold tz; omega)
    · refine r_iconst hx hb dX0_isDone_58 ?_
      refine lv_goto (tgt := 63) hx hb dX0_isDone_59 (by decide) ?_
      exact hret (1) _ _ dX0_isDone_63 (by unfold tz; omega)

theorem f_X0_canDo : yX0_canDo.cls ≠ "java/lang/invoke/MethodHandle" ∧ yX0_canDo.cls ≠ "java/lang/invoke/VarHandle" ∧ (parseMethodDescriptor yX0_canDo.desc).map (fun d => d.parameters.length) = some 3 := by decide +kernel
set_option maxHeartbeats 4000000 in
set_option maxRecDepth 100000 in
theorem c_X0_canDo (l : Launch) (D : va_G) (cI cL : ClassId) (tw : Nat) (b : Nat) (pq : Nat) (cq : Nat) (P : Int → Int) (w : Int) (a : Int) (m : Int) (hB : ∀ i, 0 ≤ P i ∧ P i ≤ 72) (hw : 0 ≤ w ∧ w ≤ 3) (ha : 0 ≤ a ∧ a ≤ 3) (hm : 0 ≤ m ∧ m ≤ 6) : RO l yX0_canDo wsX0_canDo { frames := 3, cells := 0, slots := 0, locals := 81 } D cI cL tw [.ref b, .int (iI (w)), .int (iI (a)), .int (iI (m))] [(b, .inr (0, [.ref pq, .ref cq])), (pq, .inl (cI, 16, .inl (aI P))), (cq, .inl (cI, 136, .inl (aI (cnt P))))] (tz (dzP P a m w)) := by
  refine ro_of (cc := cX0_canDo) (maxL := 6) (rt := .boolean) (own := RX0) (by decide) rfl rfl (Or.inr ⟨rfl, fun z h => by rcases h with ⟨h, _⟩ | ⟨h, _⟩ <;> omega⟩) (Nat.le_of_ble_eq_true rfl) ?_
  intro p e R s mt args below meth c H Q ls S hR hE hP hl hret
  obtain ⟨hx, hb, hml, hown, hts⟩ := id S
  have hl : lv_has ls 6 [(0, .ref b), (1, .int (iI (w))), (2, .int (iI (a))), (3, .int (iI (m)))] := hl
  refine r_iconst hx hb dX0_canDo_0 ?_
  refine lv_istore (lv' := [(4, .int (iI (0))), (0, .ref b), (1, .int (iI (w))), (2, .int (iI (a))), (3, .int (iI (m)))]) hx hb dX0_canDo_1 hl (by decide) rfl (fun ls hl => ?_)
  have lp_3 : ∀ (d_3 : Nat) (j : Int), (d_3 : Int) = 4 - j → (0 ≤ j ∧ j ≤ 4) → (∀ i, 0 ≤ i → i < j → ¬ dzA P a m w i) → ∀ ls : Array Slot, lv_has ls 6 [(4, .int (iI (j))), (0, .ref b), (1, .int (iI (w))), (2, .int (iI (a))), (3, .int (iI (m)))] → W p l e R s mt args below meth c H [] 0 0 Q (F0 mt 3 ls []) := by
    intro d_3
    induction d_3 using Nat.strongRecOn with
    | ind d_3 ih_3 =>
    intro j hd_3 hj hall ls hl
    refine lv_iload hx hb dX0_canDo_3 (lv_at hl 0 rfl) ?_
    refine r_iconst hx hb dX0_canDo_5 ?_
    refine r_icmp_ge (tgt := 44) hx hb dX0_canDo_6 (by decide) (by unfold rI; omega) (by unfold rI; decide) (fun h6 => ?_) (fun h6 => ?_)
    · refine r_iconst hx hb dX0_canDo_44 ?_
      exact hret (0) _ _ dX0_canDo_45 (by exact Or.inr ⟨rfl, fun ⟨i, h1, h2, h3⟩ => hall i h1 (by omega) h3⟩)
    · refine lv_aload_n hx hb dX0_canDo_9 rfl (lv_at hl 1 rfl) ?_
      refine lv_iload_n hx hb dX0_canDo_10 rfl (lv_at hl 3 rfl) ?_
      refine lv_iload hx hb dX0_canDo_11 (lv_at hl 0 rfl) ?_
      refine lv_iload_n hx hb dX0_canDo_13 rfl (lv_at hl 4 rfl) ?_
      refine r_callV (As := [.int (iI (a)), .int (iI (j)), .int (iI (m))]) (rest := []) S (c_X0_targetOf l D cI cL tw (b) (pq) (cq) (P) (a) (j) (m) (hB) (by omega) (by omega) (by omega)) gX0_canDo_X0_targetOf rfl rfl rfl ⟨rfl, f_X0_targetOf⟩ hR (Nat.le_of_ble_eq_true rfl) (Nat.le_of_ble_eq_true rfl) hE hP [0, 1, 2] rfl 0 rfl rfl rfl hl.1 rfl (Nat.le_of_ble_eq_true rfl) dX0_canDo_14 ⟨Nat.zero_le _, Nat.zero_le _⟩ (fun z14 hz14 => ?_)
      obtain ⟨hz14, rz14⟩ := hz14
      refine lv_istore (lv' := [(5, .int (iI (z14))), (4, .int (iI (j))), (0, .ref b), (1, .int (iI (w))), (2, .int (iI (a))), (3, .int (iI (m)))]) hx hb dX0_canDo_17 hl (by decide) rfl (fun ls hl => ?_)
      refine lv_iload hx hb dX0_canDo_19 (lv_at hl 0 rfl) ?_
      refine r_iconst hx hb dX0_canDo_21 ?_
      refine r_icmp_eq (tgt := 38) hx hb dX0_canDo_22 (by decide) (by unfold rI; omega) (by unfold rI; decide) (fun h22 => ?_) (fun h22 => ?_)
      · have hno : ¬ dzA P a m w j := dzA_no hB hm (by rw [← hz14]; omega)
        refine lv_iinc (v := iI (j + 1)) (lv' := [(4, .int (iI (j + 1))), (5, .int (iI (z14))), (0, .ref b), (1, .int (iI (w))), (2, .int (iI (a))), (3, .int (iI (m)))]) hx hb dX0_canDo_38 hl (k := 1) rfl (iI_add _ _) (by decide) rfl (fun ls hl => ?_)
        refine lv_goto (tgt := 3) hx hb dX0_canDo_41 (by decide) ?_
        exact ih_3 (4 - (j + 1) : Int).toNat (nlt (by omega) hd_3 (by omega)) (j + 1) (Int.toNat_of_nonneg (by omega)) (by omega) (fun i h1 h2 => if e : i = j then (by subst e; exact hno) else hall i h1 (by omega)) ls (lv_sub hl [0, 2, 3, 4, 5] rfl)
      · refine lv_aload_n hx hb dX0_canDo_25 rfl (lv_at hl 2 rfl) ?_
        refine lv_iload_n hx hb dX0_canDo_26 rfl (lv_at hl 3 rfl) ?_
        refine lv_iload_n hx hb dX0_canDo_27 rfl (lv_at hl 4 rfl) ?_
        refine lv_iload hx hb dX0_canDo_28 (lv_at hl 0 rfl) ?_
        refine r_callV (As := [.int (iI (w)), .int (iI (a)), .int (iI (z14))]) (rest := []) S (c_X0_isDone l D cI cL tw (b) (pq) (cq) (P) (w) (a) (z14) (hB) (by omega) (by omega) (by omega)) gX0_canDo_X0_isDone rfl rfl rfl ⟨rfl, f_X0_isDone⟩ hR (Nat.le_of_ble_eq_true rfl) (Nat.le_of_ble_eq_true rfl) hE hP [0, 1, 2] rfl 0 rfl rfl rfl hl.1 rfl (Nat.le_of_ble_eq_true rfl) dX0_canDo_30 ⟨Nat.zero_le _, Nat.zero_le _⟩ (fun z30 hz30 => ?_)
        rcases hz30 with ⟨rfl, hz30⟩ | ⟨rfl, hz30⟩
        · refine r_if_eq (tgt := 38) hx hb dX0_canDo_33 (by decide) (by unfold rI; decide) (fun h9 => absurd h9 (by omega)) (fun h33 => ?_)
          refine r_iconst hx hb dX0_canDo_36 ?_
          exact hret (1) _ _ dX0_canDo_37 (by exact Or.inl ⟨rfl, j, by omega, by omega, (dzA_iff hB (by omega) hm (by rw [← hz14]; omega)).mpr (by rw [← hz14]; exact hz30)⟩)
        · refine r_if_eq (tgt := 38) hx hb dX0_canDo_33 (by decide) (by unfold rI; decide) (fun h33 => ?_) (fun h9 => absurd h9 (by omega))
          have hno : ¬ dzA P a m w j := fun q => hz30 (by rw [hz14]; exact (dzA_iff hB (by omega) hm (by rw [← hz14]; omega)).mp q)
          refine lv_iinc (v := iI (j + 1)) (lv' := [(4, .int (iI (j + 1))), (5, .int (iI (z14))), (0, .ref b), (1, .int (iI (w))), (2, .int (iI (a))), (3, .int (iI (m)))]) hx hb dX0_canDo_38 hl (k := 1) rfl (iI_add _ _) (by decide) rfl (fun ls hl => ?_)
          refine lv_goto (tgt := 3) hx hb dX0_canDo_41 (by decide) ?_
          exact ih_3 (4 - (j + 1) : Int).toNat (nlt (by omega) hd_3 (by omega)) (j + 1) (Int.toNat_of_nonneg (by omega)) (by omega) (fun i h1 h2 => if e : i = j then (by subst e; exact hno) else hall i h1 (by omega)) ls (lv_sub hl [0, 2, 3, 4, 5] rfl)
  exact lp_3 (4 - (0) : Int).toNat (0) (Int.toNat_of_nonneg (by omega)) (by omega) (by intro i h1 h2; omega) ls (lv_sub hl [0, 1, 2, 3, 4] rfl)

theorem f_X0_canCaptureOn : yX0_canCaptureOn.cls ≠ "java/lang/invoke/MethodHandle" ∧ yX0_canCaptureOn.cls ≠ "java/lang/invoke/VarHandle" ∧ (parseMethodDescriptor yX0_canCaptureOn.desc).map (fun d => d.parameters.length) = some 3 := by decide +kernel
set_option maxHeartbeats 4000000 in
set_option maxRecDepth 100000 in
theorem c_X0_canCaptureOn (l : Launch) (D : va_G) (cI cL : ClassId) (tw : Nat) (b : Nat) (pq : Nat) (cq : Nat) (P : Int → Int) (q : Int) (a : Int) (m : Int) (hB : ∀ i, 0 ≤ P i ∧ P i ≤ 72) (hq : -1 ≤ q ∧ q ≤ 67) (ha : 0 ≤ a ∧ a ≤ 3) (hm : 0 ≤ m ∧ m ≤ 6) : RO l yX0_canCaptureOn wsX0_canCaptureOn { frames := 3, cells := 0, slots := 0, locals := 81 } D cI cL tw [.ref b, .int (iI (q)), .int (iI (a)), .int (iI (m))] [(b, .inr (0, [.ref pq, .ref cq])), (pq, .inl (cI, 16, .inl (aI P))), (cq, .inl (cI, 136, .inl (aI (cnt P))))] (tz (cpP P q a m)) := by
  refine ro_of (cc := cX0_canCaptureOn) (maxL := 6) (rt := .boolean) (own := RX0) (by decide) rfl rfl (Or.inr ⟨rfl, fun z h => by rcases h with ⟨h, _⟩ | ⟨h, _⟩ <;> omega⟩) (Nat.le_of_ble_eq_true rfl) ?_
  intro p e R s mt args below meth c H Q ls S hR hE hP hl hret
  obtain ⟨hx, hb, hml, hown, hts⟩ := id S
  have hl : lv_has ls 6 [(0, .ref b), (1, .int (iI (q))), (2, .int (iI (a))), (3, .int (iI (m)))] := hl
  refine r_iconst hx hb dX0_canCaptureOn_0 ?_
  refine lv_istore (lv' := [(4, .int (iI (0))), (0, .ref b), (1, .int (iI (q))), (2, .int (iI (a))), (3, .int (iI (m)))]) hx hb dX0_canCaptureOn_1 hl (by decide) rfl (fun ls hl => ?_)
  have lp_3 : ∀ (d_3 : Nat) (j : Int), (d_3 : Int) = 4 - j → (0 ≤ j ∧ j ≤ 4) → (∀ i, 0 ≤ i → i < j → ¬ cpA P q a m i) → ∀ ls : Array Slot, lv_has ls 6 [(4, .int (iI (j))), (0, .ref b), (1, .int (iI (q))), (2, .int (iI (a))), (3, .int (iI (m)))] → W p l e R s mt args below meth c H [] 0 0 Q (F0 mt 3 ls []) := by
    intro d_3
    induction d_3 using Nat.strongRecOn with
    | ind d_3 ih_3 =>
    intro j hd_3 hj hall ls hl
    refine lv_iload hx hb dX0_canCaptureOn_3 (lv_at hl 0 rfl) ?_
    refine r_iconst hx hb dX0_canCaptureOn_5 ?_
    refine r_icmp_ge (tgt := 54) hx hb dX0_canCaptureOn_6 (by decide) (by unfold rI; omega) (by unfold rI; decide) (fun h6 => ?_) (fun h6 => ?_)
    · refine r_iconst hx hb dX0_canCaptureOn_54 ?_
      exact hret (0) _ _ dX0_canCaptureOn_55 (by exact Or.inr ⟨rfl, fun ⟨i, h1, h2, h3⟩ => hall i h1 (by omega) h3⟩)
    · refine lv_aload_n hx hb dX0_canCaptureOn_9 rfl (lv_at hl 1 rfl) ?_
      refine lv_iload_n hx hb dX0_canCaptureOn_10 rfl (lv_at hl 3 rfl) ?_
      refine lv_iload hx hb dX0_canCaptureOn_11 (lv_at hl 0 rfl) ?_
      refine lv_iload_n hx hb dX0_canCaptureOn_13 rfl (lv_at hl 4 rfl) ?_
      refine r_callV (As := [.int (iI (a)), .int (iI (j)), .int (iI (m))]) (rest := []) S (c_X0_targetOf l D cI cL tw (b) (pq) (cq) (P) (a) (j) (m) (hB) (by omega) (by omega) (by omega)) gX0_canCaptureOn_X0_targetOf rfl rfl rfl ⟨rfl, f_X0_targetOf⟩ hR (Nat.le_of_ble_eq_true rfl) (Nat.le_of_ble_eq_true rfl) hE hP [0, 1, 2] rfl 0 rfl rfl rfl hl.1 rfl (Nat.le_of_ble_eq_true rfl) dX0_canCaptureOn_14 ⟨Nat.zero_le _, Nat.zero_le _⟩ (fun z14 hz14 => ?_)
      obtain ⟨hz14, rz14⟩ := hz14
      refine lv_istore (lv' := [(5, .int (iI (z14))), (4, .int (iI (j))), (0, .ref b), (1, .int (iI (q))), (2, .int (iI (a))), (3, .int (iI (m)))]) hx hb dX0_canCaptureOn_17 hl (by decide) rfl (fun ls hl => ?_)
      refine lv_iload hx hb dX0_canCaptureOn_19 (lv_at hl 0 rfl) ?_
      refine r_iconst hx hb dX0_canCaptureOn_21 ?_
      refine r_icmp_eq (tgt := 48) hx hb dX0_canCaptureOn_22 (by decide) (by unfold rI; omega) (by unfold rI; decide) (fun h22 => ?_) (fun h22 => ?_)
      · have hno : ¬ cpA P q a m j := cpA_no hB hm (by rw [← hz14]; omega)
        refine lv_iinc (v := iI (j + 1)) (lv' := [(4, .int (iI (j + 1))), (5, .int (iI (z14))), (0, .ref b), (1, .int (iI (q))), (2, .int (iI (a))), (3, .int (iI (m)))]) hx hb dX0_canCaptureOn_48 hl (k := 1) rfl (iI_add _ _) (by decide) rfl (fun ls hl => ?_)
        refine lv_goto (tgt := 3) hx hb dX0_canCaptureOn_51 (by decide) ?_
        exact ih_3 (4 - (j + 1) : Int).toNat (nlt (by omega) hd_3 (by omega)) (j + 1) (Int.toNat_of_nonneg (by omega)) (by omega) (fun i h1 h2 => if e : i = j then (by subst e; exact hno) else hall i h1 (by omega)) ls (lv_sub hl [0, 2, 3, 4, 5] rfl)
      · refine lv_aload_n hx hb dX0_canCaptureOn_25 rfl (lv_at hl 2 rfl) ?_
        refine lv_iload_n hx hb dX0_canCaptureOn_26 rfl (lv_at hl 4 rfl) ?_
        refine lv_iload hx hb dX0_canCaptureOn_27 (lv_at hl 0 rfl) ?_
        refine r_callV (As := [.int (iI (a)), .int (iI (z14))]) (rest := []) S (c_X0_isCapture l D cI cL tw (b) (pq) (cq) (P) (a) (z14) (hB) (by omega) (by omega)) gX0_canCaptureOn_X0_isCapture rfl rfl rfl ⟨rfl, f_X0_isCapture⟩ hR (Nat.le_of_ble_eq_true rfl) (Nat.le_of_ble_eq_true rfl) hE hP [0, 1, 2] rfl 0 rfl rfl rfl hl.1 rfl (Nat.le_of_ble_eq_true rfl) dX0_canCaptureOn_29 ⟨Nat.zero_le _, Nat.zero_le _⟩ (fun z29 hz29 => ?_)
        rcases hz29 with ⟨rfl, hz29⟩ | ⟨rfl, hz29⟩
        · refine r_if_eq (tgt := 48) hx hb dX0_canCaptureOn_32 (by decide) (by unfold rI; decide) (fun h9 => absurd h9 (by omega)) (fun h32 => ?_)
          refine lv_aload_n hx hb dX0_canCaptureOn_35 rfl (lv_at hl 2 rfl) ?_
          refine lv_iload_n hx hb dX0_canCaptureOn_36 rfl (lv_at hl 4 rfl) ?_
          refine lv_iload hx hb dX0_canCaptureOn_37 (lv_at hl 0 rfl) ?_
          refine r_callV (As := [.int (iI (a)), .int (iI (z14))]) (rest := []) S (c_X0_squareAt l D cI cL tw (b) (pq) (cq) (a) (z14) (by omega) (by omega)) gX0_canCaptureOn_X0_squareAt rfl rfl rfl ⟨rfl, f_X0_squareAt⟩ hR (Nat.le_of_ble_eq_true rfl) (Nat.le_of_ble_eq_true rfl) hE hP [0] rfl 0 rfl rfl rfl hl.1 rfl (Nat.le_of_ble_eq_true rfl) dX0_canCaptureOn_39 ⟨Nat.zero_le _, Nat.zero_le _⟩ (fun z39 hz39 => ?_)
          obtain ⟨hz39, rz39⟩ := hz39
          refine lv_iload_n hx hb dX0_canCaptureOn_42 rfl (lv_at hl 3 rfl) ?_
          refine r_icmp_ne (tgt := 48) hx hb dX0_canCaptureOn_43 (by decide) (by unfold rI; omega) (by unfold rI; omega) (fun h43 => ?_) (fun h43 => ?_)
          · have hno : ¬ cpA P q a m j := fun x => h43 (by rw [hz39, hz14]; exact ((cpA_iff (by omega) hm (by rw [← hz14]; omega)).mp x).2)
            refine lv_iinc (v := iI (j + 1)) (lv' := [(4, .int (iI (j + 1))), (5, .int (iI (z14))), (0, .ref b), (1, .int (iI (q))), (2, .int (iI (a))), (3, .int (iI (m)))]) hx hb dX0_canCaptureOn_48 hl (k := 1) rfl (iI_add _ _) (by decide) rfl (fun ls hl => ?_)
            refine lv_goto (tgt := 3) hx hb dX0_canCaptureOn_51 (by decide) ?_
            exact ih_3 (4 - (j + 1) : Int).toNat (nlt (by omega) hd_3 (by omega)) (j + 1) (Int.toNat_of_nonneg (by omega)) (by omega) (fun i h1 h2 => if e : i = j then (by subst e; exact hno) else hall i h1 (by omega)) ls (lv_sub hl [0, 2, 3, 4, 5] rfl)
          · refine r_iconst hx hb dX0_canCaptureOn_46 ?_
            exact hret (1) _ _ dX0_canCaptureOn_47 (by exact Or.inl ⟨rfl, j, by omega, by omega, (cpA_iff (by omega) hm (by rw [← hz14]; omega)).mpr ⟨by rw [← hz14]; exact hz29, by rw [← hz14, ← hz39]; exact h43⟩⟩)
        · refine r_if_eq (tgt := 48) hx hb dX0_canCaptureOn_32 (by decide) (by unfold rI; decide) (fun h32 => ?_) (fun h9 => absurd h9 (by omega))
          have hno : ¬ cpA P q a m j := fun x => hz29 (by rw [hz14]; exact ((cpA_iff (by omega) hm (by rw [← hz14]; omega)).mp x).1)
          refine lv_iinc (v := iI (j + 1)) (lv' := [(4, .int (iI (j + 1))), (5, .int (iI (z14))), (0, .ref b), (1, .int (iI (q))), (2, .int (iI (a))), (3, .int (iI (m)))]) hx hb dX0_canCaptureOn_48 hl (k := 1) rfl (iI_add _ _) (by decide) rfl (fun ls hl => ?_)
          refine lv_goto (tgt := 3) hx hb dX0_canCaptureOn_51 (by decide) ?_
          exact ih_3 (4 - (j + 1) : Int).toNat (nlt (by omega) hd_3 (by omega)) (j + 1) (Int.toNat_of_nonneg (by omega)) (by omega) (fun i h1 h2 => if e : i = j then (by subst e; exact hno) else hall i h1 (by omega)) ls (lv_sub hl [0, 2, 3, 4, 5] rfl)
  exact lp_3 (4 - (0) : Int).toNat (0) (Int.toNat_of_nonneg (by omega)) (by omega) (by intro i h1 h2; omega) ls (lv_sub hl [0, 1, 2, 3, 4] rfl)
