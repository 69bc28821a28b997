set_option maxRecDepth 20000 in
theorem mw_X2_next_0 : (.fieldLink RX2 54 "PachisiYardModel" "turn" "I" : Cond) ∈ wsX2_next := by decide +kernel
set_option maxRecDepth 20000 in
theorem mu_X2_next_X2 : ∀ w ∈ wsX20, w ∈ wsX2_next := by decide +kernel
set_option maxRecDepth 20000 in
theorem mw_X2_next_2 : (.fieldLink RX2 57 "PachisiYardModel" "graces" "I" : Cond) ∈ wsX2_next := by decide +kernel
theorem f_X2_next : yX2_next.cls ≠ "java/lang/invoke/MethodHandle" ∧ yX2_next.cls ≠ "java/lang/invoke/VarHandle" ∧ (parseMethodDescriptor yX2_next.desc).map (fun d => d.parameters.length) = some 0 := by decide +kernel
set_option maxHeartbeats 4000000 in
set_option maxRecDepth 100000 in
theorem c_X2_next (l : Launch) (D : va_G) (cI cL : ClassId) (tw : Nat) (g0 : Nat) (g1 : Nat) (g2 : Nat) (g3 : Nat) (tu : Int) (ph : Int) (mo : Int) (gc : Int) (th : Int) (P : Int → Int) (C : Int → Int) (hB : ∀ i, 0 ≤ P i ∧ P i ≤ 72) (htu : 0 ≤ tu ∧ tu ≤ 3) : RWv l yX2_next wsX2_next { frames := 0, cells := 0, slots := 0, locals := 0 } D cI cL tw [.ref g0] [(g0, .inr (2, [.ref g1, .int (iI (tu)), .int (iI (ph)), .int (iI (mo)), .int (iI (gc)), .ref g2, .ref g3, .int (iI (th))])), (g1, .inl (cI, 16, .inl (aI P))), (g2, .inl (cI, 4, .inl (aI C))), (g3, .inl (cI, 7, .inl (aI wyI)))] (fun (u : Unit) => True) (fun u : Unit => [(g0, .inr (2, [.ref g1, .int (iI ((tu + 1) % 4)), .int (iI (ph)), .int (iI (mo)), .int (iI (0)), .ref g2, .ref g3, .int (iI (th))])), (g1, .inl (cI, 16, .inl (aI P))), (g2, .inl (cI, 4, .inl (aI C))), (g3, .inl (cI, 7, .inl (aI wyI)))]) := by
  refine rwv_of (cc := cX2_next) (maxL := 1) (own := RX2) (by decide) rfl rfl (Nat.le_of_ble_eq_true rfl) ?_
  intro p e R s mt args below meth c H0 Q ls A S hR hE hP hD hS hA hl hret
  obtain ⟨hx, hb, hml, hown, hts⟩ := id S
  have hl : lv_has ls 1 [(0, .ref g0)] := hl
  refine lv_aload_n hx hb dX2_next_0 rfl (lv_at hl 0 rfl) ?_
  refine lv_aload_n hx hb dX2_next_1 rfl (lv_at hl 0 rfl) ?_
  refine va_get (D := D) (ci := 2) (v := .int (iI (tu))) (C := RX2) (T := TX2) (N := 8) hx hb hts mu_X2_next_X2 hown hE.1 hP 0 rfl rfl 1 (by decide) (hts _ mw_X2_next_0) (fun _ h9 => h9) rfl dX2_next_2 ?_
  refine r_iconst hx hb dX2_next_5 ?_
  refine r_iadd hx hb dX2_next_6 ?_
  refine r_iconst hx hb dX2_next_7 ?_
  refine r_irem hx hb dX2_next_8 (by omega) (by omega) ?_
  refine va_put (D := D) (ci := 2) (v := .int (iI (((tu) + (1)) % (4)))) (ty := .int) (C := RX2) (T := TX2) (N := 8) hx hb hts mu_X2_next_X2 tyX2 tyX2_ok nmX2 hown hE.1 hP hD hS 0 rfl rfl 1 (by decide) (hts _ mw_X2_next_0) (fun _ h9 => h9) rfl (by decide +kernel) rfl rfl (Nat.le_of_ble_eq_true rfl) dX2_next_9 (fun H locs hP hD hS => ?_)
  have hP : va_P D vwCl [(g0, .inr (2, [.ref g1, .int (iI (((tu) + (1)) % (4))), .int (iI (ph)), .int (iI (mo)), .int (iI (gc)), .ref g2, .ref g3, .int (iI (th))])), (g1, .inl (cI, 16, .inl (aI P))), (g2, .inl (cI, 4, .inl (aI C))), (g3, .inl (cI, 7, .inl (aI wyI)))] H := hP
  have hD : va_D A [(g0, .inr (2, [.ref g1, .int (iI (((tu) + (1)) % (4))), .int (iI (ph)), .int (iI (mo)), .int (iI (gc)), .ref g2, .ref g3, .int (iI (th))])), (g1, .inl (cI, 16, .inl (aI P))), (g2, .inl (cI, 4, .inl (aI C))), (g3, .inl (cI, 7, .inl (aI wyI)))] := hD
  refine lv_aload_n hx hb dX2_next_12 rfl (lv_at hl 0 rfl) ?_
  refine r_iconst hx hb dX2_next_13 ?_
  refine va_put (D := D) (ci := 2) (v := .int (iI (0))) (ty := .int) (C := RX2) (T := TX2) (N := 8) hx hb hts mu_X2_next_X2 tyX2 tyX2_ok nmX2 hown hE.1 hP hD hS 0 rfl rfl 4 (by decide) (hts _ mw_X2_next_2) (fun _ h9 => h9) rfl (by decide +kernel) rfl rfl (Nat.le_of_ble_eq_true rfl) dX2_next_14 (fun H locs hP hD hS => ?_)
  have hP : va_P D vwCl [(g0, .inr (2, [.ref g1, .int (iI (((tu) + (1)) % (4))), .int (iI (ph)), .int (iI (mo)), .int (iI (0)), .ref g2, .ref g3, .int (iI (th))])), (g1, .inl (cI, 16, .inl (aI P))), (g2, .inl (cI, 4, .inl (aI C))), (g3, .inl (cI, 7, .inl (aI wyI)))] H := hP
  have hD : va_D A [(g0, .inr (2, [.ref g1, .int (iI (((tu) + (1)) % (4))), .int (iI (ph)), .int (iI (mo)), .int (iI (0)), .ref g2, .ref g3, .int (iI (th))])), (g1, .inl (cI, 16, .inl (aI P))), (g2, .inl (cI, 4, .inl (aI C))), (g3, .inl (cI, 7, .inl (aI wyI)))] := hD
  exact hret  () _ _ _ _ dX2_next_17 (by trivial) hP hD hS

set_option maxRecDepth 20000 in
theorem mw_X2_sends_0 : (.fieldLink RX2 7 "PachisiYardModel" "at" "[I" : Cond) ∈ wsX2_sends := by decide +kernel
set_option maxRecDepth 20000 in
theorem mu_X2_sends_X2 : ∀ w ∈ wsX20, w ∈ wsX2_sends := by decide +kernel
theorem f_X2_sends : yX2_sends.cls ≠ "java/lang/invoke/MethodHandle" ∧ yX2_sends.cls ≠ "java/lang/invoke/VarHandle" ∧ (parseMethodDescriptor yX2_sends.desc).map (fun d => d.parameters.length) = some 2 := by decide +kernel
set_option maxHeartbeats 4000000 in
set_option maxRecDepth 100000 in
theorem c_X2_sends (l : Launch) (D : va_G) (cI cL : ClassId) (tw : Nat) (g0 : Nat) (g1 : Nat) (g2 : Nat) (g3 : Nat) (tu : Int) (ph : Int) (mo : Int) (gc : Int) (th : Int) (P : Int → Int) (C : Int → Int) (q : Int) (t : Int) (hB : ∀ i, 0 ≤ P i ∧ P i ≤ 72) (hq : 0 ≤ q ∧ q ≤ 67) (ht : 0 ≤ t ∧ t ≤ 1) : RWv l yX2_sends wsX2_sends { frames := 1, cells := 0, slots := 0, locals := 22 } D cI cL tw [.ref g0, .int (iI (q)), .int (iI (t))] [(g0, .inr (2, [.ref g1, .int (iI (tu)), .int (iI (ph)), .int (iI (mo)), .int (iI (gc)), .ref g2, .ref g3, .int (iI (th))])), (g1, .inl (cI, 16, .inl (aI P))), (g2, .inl (cI, 4, .inl (aI C))), (g3, .inl (cI, 7, .inl (aI wyI)))] (fun (u : Unit) => True) (fun u : Unit => [(g0, .inr (2, [.ref g1, .int (iI (tu)), .int (iI (ph)), .int (iI (mo)), .int (iI (gc)), .ref g2, .ref g3, .int (iI (th))])), (g1, .inl (cI, 16, .inl (aI (syP P (q) (t) 16)))), (g2, .inl (cI, 4, .inl (aI C))), (g3, .inl (cI, 7, .inl (aI wyI)))]) := by
  refine rwv_of (cc := cX2_sends) (maxL := 4) (own := RX2) (by decide) rfl rfl (Nat.le_of_ble_eq_true rfl) ?_
  intro p e R s mt args below meth c H0 Q ls A S hR hE hP hD hS hA hl hret
  obtain ⟨hx, hb, hml, hown, hts⟩ := id S
  have hl : lv_has ls 4 [(0, .ref g0), (1, .int (iI (q))), (2, .int (iI (t)))] := hl
  refine r_iconst hx hb dX2_sends_0 ?_
  refine lv_istore_n (lv' := [(3, .int (iI (0))), (0, .ref g0), (1, .int (iI (q))), (2, .int (iI (t)))]) hx hb dX2_sends_1 rfl hl (by decide) rfl (fun ls hl => ?_)
  have lp_2 : ∀ (d_2 : Nat) (k : Int) (R1 : Int → Int), (d_2 : Int) = 16 - k → (0 ≤ k ∧ k ≤ 16) → (R1 = syP P q t k) → ∀ (H : Heap) (locs : List Loc), va_P D vwCl [(g0, .inr (2, [.ref g1, .int (iI (tu)), .int (iI (ph)), .int (iI (mo)), .int (iI (gc)), .ref g2, .ref g3, .int (iI (th))])), (g1, .inl (cI, 16, .inl (aI R1))), (g2, .inl (cI, 4, .inl (aI C))), (g3, .inl (cI, 7, .inl (aI wyI)))] H → va_D A [(g0, .inr (2, [.ref g1, .int (iI (tu)), .int (iI (ph)), .int (iI (mo)), .int (iI (gc)), .ref g2, .ref g3, .int (iI (th))])), (g1, .inl (cI, 16, .inl (aI R1))), (g2, .inl (cI, 4, .inl (aI C))), (g3, .inl (cI, 7, .inl (aI wyI)))] → va_S A H0 H locs → ∀ ls : Array Slot, lv_has ls 4 [(3, .int (iI (k))), (0, .ref g0), (1, .int (iI (q))), (2, .int (iI (t)))] → W p l e R s mt args below meth c H locs 0 0 Q (F0 mt 2 ls []) := by
    intro d_2
    induction d_2 using Nat.strongRecOn with
    | ind d_2 ih_2 =>
    intro k R1 hd_2 hk hR1 H locs hP hD hS ls hl
    refine lv_iload_n hx hb dX2_sends_2 rfl (lv_at hl 0 rfl) ?_
    refine r_bipush hx hb dX2_sends_3 (by decide) ?_
    refine r_icmp_ge (tgt := 61) hx hb dX2_sends_5 (by decide) (by unfold rI; omega) (by unfold rI; decide) (fun h5 => ?_) (fun h5 => ?_)
    · have e1 : syP P q t 16 = R1 := by rw [hR1]; exact congrArg _ (by omega)
      exact hret  () _ _ _ _ dX2_sends_61 (by trivial) (by rw [e1]; exact hP) (by rw [e1]; exact hD) hS
    · refine lv_aload_n hx hb dX2_sends_8 rfl (lv_at hl 1 rfl) ?_
      refine va_get (D := D) (ci := 2) (v := .ref g1) (C := RX2) (T := TX2) (N := 8) hx hb hts mu_X2_sends_X2 hown hE.1 hP 0 rfl rfl 0 (by decide) (hts _ mw_X2_sends_0) (fun _ h9 => h9) rfl dX2_sends_9 ?_
      refine lv_iload_n hx hb dX2_sends_12 rfl (lv_at hl 0 rfl) ?_
      refine r_iald hx hb hE.1 hP 1 rfl (i := k) (by omega) (by omega) (by decide) dX2_sends_13 ?_
      obtain ⟨v13, ev13⟩ : ∃ v : Int, v = R1 (k) := ⟨_, rfl⟩
      have gv13 := (show ∀ i, 0 ≤ R1 i ∧ R1 i ≤ 72 from by rw [hR1]; exact syP_rng hB) (k)
      refine r_top v13 ev13.symm ?_
      rw [← ev13] at gv13
      refine r_iconst hx hb dX2_sends_14 ?_
      refine r_bipush hx hb dX2_sends_15 (by decide) ?_
      refine r_callS (As := [.int (iI (v13)), .int (iI (1)), .int (iI (64))]) (rest := []) S (c_X2_isIn l D cI cL tw (v13) (1) (64) (by omega) (by omega) (by omega)) gX2_sends_X2_isIn rfl rfl rfl f_X2_isIn hR (Nat.le_of_ble_eq_true rfl) (Nat.le_of_ble_eq_true rfl) (hE.kept hS.2.1) rfl hl.1 rfl (Nat.le_of_ble_eq_true rfl) dX2_sends_17 ⟨Nat.zero_le _, Nat.zero_le _⟩ (fun z17 hz17 => ?_)
      rcases hz17 with ⟨rfl, hz17⟩ | ⟨rfl, hz17⟩
      · refine r_if_eq (tgt := 55) hx hb dX2_sends_20 (by decide) (by unfold rI; decide) (fun h9 => absurd h9 (by omega)) (fun h20 => ?_)
        refine lv_iload_n hx hb dX2_sends_23 rfl (lv_at hl 0 rfl) ?_
        refine r_iconst hx hb dX2_sends_24 ?_
        refine r_idiv hx hb dX2_sends_25 (by omega) (by omega) ?_
        refine r_iconst hx hb dX2_sends_26 ?_
        refine r_irem hx hb dX2_sends_27 (by omega) (by omega) ?_
        refine lv_iload_n hx hb dX2_sends_28 rfl (lv_at hl 3 rfl) ?_
        refine r_icmp_ne (tgt := 55) hx hb dX2_sends_29 (by decide) (by unfold rI; omega) (by unfold rI; omega) (fun h29 => ?_) (fun h29 => ?_)
        · refine lv_iinc (v := iI (k + 1)) (lv' := [(3, .int (iI (k + 1))), (0, .ref g0), (1, .int (iI (q))), (2, .int (iI (t)))]) hx hb dX2_sends_55 hl (k := 0) rfl (iI_add _ _) (by decide) rfl (fun ls hl => ?_)
          refine lv_goto (tgt := 2) hx hb dX2_sends_58 (by decide) ?_
          exact ih_2 (16 - (k + 1) : Int).toNat (nlt (by omega) hd_2 (by omega)) (k + 1) (R1) (Int.toNat_of_nonneg (by omega)) (by omega) (by have q1 : R1 k = P k := (by rw [hR1]; exact syP_at); rw [hR1]; refine syP_not ?_; rw [← q1]; omega) _ _ hP hD hS ls (lv_sub hl [0, 1, 2, 3] rfl)
        · refine lv_iload_n hx hb dX2_sends_32 rfl (lv_at hl 0 rfl) ?_
          refine r_iconst hx hb dX2_sends_33 ?_
          refine r_idiv hx hb dX2_sends_34 (by omega) (by omega) ?_
          refine lv_aload_n hx hb dX2_sends_35 rfl (lv_at hl 1 rfl) ?_
          refine va_get (D := D) (ci := 2) (v := .ref g1) (C := RX2) (T := TX2) (N := 8) hx hb hts mu_X2_sends_X2 hown hE.1 hP 0 rfl rfl 0 (by decide) (hts _ mw_X2_sends_0) (fun _ h9 => h9) rfl dX2_sends_36 ?_
          refine lv_iload_n hx hb dX2_sends_39 rfl (lv_at hl 0 rfl) ?_
          refine r_iald hx hb hE.1 hP 1 rfl (i := k) (by omega) (by omega) (by decide) dX2_sends_40 ?_
          obtain ⟨v40, ev40⟩ : ∃ v : Int, v = R1 (k) := ⟨_, rfl⟩
          have gv40 := (show ∀ i, 0 ≤ R1 i ∧ R1 i ≤ 72 from by rw [hR1]; exact syP_rng hB) (k)
          refine r_top v40 ev40.symm ?_
          rw [← ev40] at gv40
          refine r_callS (As := [.int (iI ((k) / (4))), .int (iI (v40))]) (rest := []) S (c_X2_squareOf l D cI cL tw ((k) / (4)) (v40) (by omega) (by omega)) gX2_sends_X2_squareOf rfl rfl rfl f_X2_squareOf hR (Nat.le_of_ble_eq_true rfl) (Nat.le_of_ble_eq_true rfl) (hE.kept hS.2.1) rfl hl.1 rfl (Nat.le_of_ble_eq_true rfl) dX2_sends_41 ⟨Nat.zero_le _, Nat.zero_le _⟩ (fun z41 hz41 => ?_)
          obtain ⟨hz41, rz41⟩ := hz41
          refine lv_iload_n hx hb dX2_sends_44 rfl (lv_at hl 2 rfl) ?_
          refine r_icmp_ne (tgt := 55) hx hb dX2_sends_45 (by decide) (by unfold rI; omega) (by unfold rI; omega) (fun h45 => ?_) (fun h45 => ?_)
          · refine lv_iinc (v := iI (k + 1)) (lv' := [(3, .int (iI (k + 1))), (0, .ref g0), (1, .int (iI (q))), (2, .int (iI (t)))]) hx hb dX2_sends_55 hl (k := 0) rfl (iI_add _ _) (by decide) rfl (fun ls hl => ?_)
            refine lv_goto (tgt := 2) hx hb dX2_sends_58 (by decide) ?_
            exact ih_2 (16 - (k + 1) : Int).toNat (nlt (by omega) hd_2 (by omega)) (k + 1) (R1) (Int.toNat_of_nonneg (by omega)) (by omega) (by have q1 : R1 k = P k := (by rw [hR1]; exact syP_at); rw [hR1]; refine syP_not ?_; rw [← q1]; rw [ev40] at hz41; omega) _ _ hP hD hS ls (lv_sub hl [0, 1, 2, 3] rfl)
          · refine lv_aload_n hx hb dX2_sends_48 rfl (lv_at hl 1 rfl) ?_
            refine va_get (D := D) (ci := 2) (v := .ref g1) (C := RX2) (T := TX2) (N := 8) hx hb hts mu_X2_sends_X2 hown hE.1 hP 0 rfl rfl 0 (by decide) (hts _ mw_X2_sends_0) (fun _ h9 => h9) rfl dX2_sends_49 ?_
            refine lv_iload_n hx hb dX2_sends_52 rfl (lv_at hl 0 rfl) ?_
            refine r_iconst hx hb dX2_sends_53 ?_
            refine r_iast hx hb hE.1 hP hD hS 1 (P := R1) rfl (i := k) (v := 0) (by omega) (by omega) (by decide) (ws1 := [(g0, .inr (2, [.ref g1, .int (iI (tu)), .int (iI (ph)), .int (iI (mo)), .int (iI (gc)), .ref g2, .ref g3, .int (iI (th))])), (g1, .inl (cI, 16, .inl (aI (uI R1 (k) (0))))), (g2, .inl (cI, 4, .inl (aI C))), (g3, .inl (cI, 7, .inl (aI wyI)))]) rfl dX2_sends_54 (fun H locs hP hD hS => ?_)
            refine lv_iinc (v := iI (k + 1)) (lv' := [(3, .int (iI (k + 1))), (0, .ref g0), (1, .int (iI (q))), (2, .int (iI (t)))]) hx hb dX2_sends_55 hl (k := 0) rfl (iI_add _ _) (by decide) rfl (fun ls hl => ?_)
            refine lv_goto (tgt := 2) hx hb dX2_sends_58 (by decide) ?_
            exact ih_2 (16 - (k + 1) : Int).toNat (nlt (by omega) hd_2 (by omega)) (k + 1) ((uI R1 (k) (0))) (Int.toNat_of_nonneg (by omega)) (by omega) (by have q1 : R1 k = P k := (by rw [hR1]; exact syP_at); rw [hR1]; refine syP_yes (by omega) ?_; rw [← q1]; rw [ev40] at hz41; omega) _ _ hP hD hS ls (lv_sub hl [0, 1, 2, 3] rfl)
      · refine r_if_eq (tgt := 55) hx hb dX2_sends_20 (by decide) (by unfold rI; decide) (fun h20 => ?_) (fun h9 => absurd h9 (by omega))
        refine lv_iinc (v := iI (k + 1)) (lv' := [(3, .int (iI (k + 1))), (0, .ref g0), (1, .int (iI (q))), (2, .int (iI (t)))]) hx hb dX2_sends_55 hl (k := 0) rfl (iI_add _ _) (by decide) rfl (fun ls hl => ?_)
        refine lv_goto (tgt := 2) hx hb dX2_sends_58 (by decide) ?_
        exact ih_2 (16 - (k + 1) : Int).toNat (nlt (by omega) hd_2 (by omega)) (k + 1) (R1) (Int.toNat_of_nonneg (by omega)) (by omega) (by have q1 : R1 k = P k := (by rw [hR1]; exact syP_at); rw [hR1]; refine syP_not ?_; rw [← q1]; omega) _ _ hP hD hS ls (lv_sub hl [0, 1, 2, 3] rfl)
  exact lp_2 (16 - (0) : Int).toNat (0) (P) (Int.toNat_of_nonneg (by omega)) (by omega) ((syP_0 _ _ _ _ (by omega) (by omega)).symm) _ _ hP hD hS ls (lv_sub hl [0, 1, 2, 3] rfl)

set_option maxRecDepth 20000 in
theorem mw_X2_chanceOfOne_0 : (.fieldLink RX2 54 "PachisiYardModel" "turn" "I" : Cond) ∈ wsX2_chanceOfOne := by decide +kernel
set_option maxRecDepth 20000 in
theorem mu_X2_chanceOfOne_X2 : ∀ w ∈ wsX20, w ∈ wsX2_chanceOfOne := by decide +kernel
set_option maxRecDepth 20000 in
theorem mw_X2_chanceOfOne_2 : (.fieldLink RX2 16 "PachisiYardModel" "many" "[I" : Cond) ∈ wsX2_chanceOfOne := by decide +kernel
theorem f_X2_chanceOfOne : yX2_chanceOfOne.cls ≠ "java/lang/invoke/MethodHandle" ∧ yX2_chanceOfOne.cls ≠ "java/lang/invoke/VarHandle" ∧ (parseMethodDescriptor yX2_chanceOfOne.desc).map (fun d => d.parameters.length) = some 1 := by decide +kernel
set_option maxHeartbeats 4000000 in
set_option maxRecDepth 100000 in
theorem c_X2_chanceOfOne (l : Launch) (D : va_G) (cI cL : ClassId) (tw : Nat) (g0 : Nat) (g1 : Nat) (g2 : Nat) (g3 : Nat) (tu : Int) (ph : Int) (mo : Int) (gc : Int) (th : Int) (P : Int → Int) (C : Int → Int) (g : Int) (hB : ∀ i, 0 ≤ P i ∧ P i ≤ 72) (htu : 0 ≤ tu ∧ tu ≤ 3) (hg : 0 ≤ g ∧ g ≤ 2) : RO l yX2_chanceOfOne wsX2_chanceOfOne { frames := 4, cells := 0, slots := 0, locals := 100 } D cI cL tw [.ref g0, .int (iI (g))] [(g0, .inr (2, [.ref g1, .int (iI (tu)), .int (iI (ph)), .int (iI (mo)), .int (iI (gc)), .ref g2, .ref g3, .int (iI (th))])), (g1, .inl (cI, 16, .inl (aI P))), (g2, .inl (cI, 4, .inl (aI C))), (g3, .inl (cI, 7, .inl (aI wyI)))] (fun z : Int => z = ch tu 1 g P) := by
  refine ro_of (cc := cX2_chanceOfOne) (maxL := 5) (rt := .int) (own := RX2) (by decide) rfl rfl (Or.inl rfl) (Nat.le_of_ble_eq_true rfl) ?_
  intro p e R s mt args below meth c H Q ls S hR hE hP hl hret
  obtain ⟨hx, hb, hml, hown, hts⟩ := id S
  have hl : lv_has ls 5 [(0, .ref g0), (1, .int (iI (g)))] := hl
  refine r_iconst hx hb dX2_chanceOfOne_0 ?_
  refine lv_istore_n (lv' := [(2, .int (iI (0))), (0, .ref g0), (1, .int (iI (g)))]) hx hb dX2_chanceOfOne_1 rfl hl (by decide) rfl (fun ls hl => ?_)
  refine r_iconst hx hb dX2_chanceOfOne_2 ?_
  refine lv_istore_n (lv' := [(3, .int (iI (0))), (2, .int (iI (0))), (0, .ref g0), (1, .int (iI (g)))]) hx hb dX2_chanceOfOne_3 rfl hl (by decide) rfl (fun ls hl => ?_)
  have lp_4 : ∀ (d_4 : Nat) (n : Int) (k : Int), (d_4 : Int) = 7 - k → (0 ≤ k ∧ k ≤ 7) → (n = sZ (fun m => wyI m * chA tu g 0 (ch tu 0) P m) k) → ∀ ls : Array Slot, lv_has ls 5 [(3, .int (iI (k))), (2, .int (iI (n))), (0, .ref g0), (1, .int (iI (g)))] → W p l e R s mt args below meth c H [] 0 0 Q (F0 mt 4 ls []) := by
    intro d_4
    induction d_4 using Nat.strongRecOn with
    | ind d_4 ih_4 =>
    intro n k hd_4 hk hn ls hl
    refine lv_iload_n hx hb dX2_chanceOfOne_4 rfl (lv_at hl 0 rfl) ?_
    refine r_bipush hx hb dX2_chanceOfOne_5 (by decide) ?_
    refine r_icmp_ge (tgt := 70) hx hb dX2_chanceOfOne_7 (by decide) (by unfold rI; omega) (by unfold rI; decide) (fun h7 => ?_) (fun h7 => ?_)
    · refine lv_iload_n hx hb dX2_chanceOfOne_70 rfl (lv_at hl 1 rfl) ?_
      exact hret (n) _ _ dX2_chanceOfOne_71 (by have e : k = 7 := (by omega); subst e; exact hn)
    · refine lv_iload_n hx hb dX2_chanceOfOne_10 rfl (lv_at hl 0 rfl) ?_
      refine r_callS (As := [.int (iI (k))]) (rest := []) S (c_X2_isGrace l D cI cL tw (k) (by omega)) gX2_chanceOfOne_X2_isGrace rfl rfl rfl f_X2_isGrace hR (Nat.le_of_ble_eq_true rfl) (Nat.le_of_ble_eq_true rfl) hE rfl hl.1 rfl (Nat.le_of_ble_eq_true rfl) dX2_chanceOfOne_11 ⟨Nat.zero_le _, Nat.zero_le _⟩ (fun z11 hz11 => ?_)
      rcases hz11 with ⟨rfl, hz11⟩ | ⟨rfl, hz11⟩
      · refine r_if_eq (tgt := 26) hx hb dX2_chanceOfOne_14 (by decide) (by unfold rI; decide) (fun h9 => absurd h9 (by omega)) (fun h14 => ?_)
        refine lv_iload_n hx hb dX2_chanceOfOne_17 rfl (lv_at hl 3 rfl) ?_
        refine r_iconst hx hb dX2_chanceOfOne_18 ?_
        refine r_icmp_ne (tgt := 26) hx hb dX2_chanceOfOne_19 (by decide) (by unfold rI; omega) (by unfold rI; decide) (fun h19 => ?_) (fun h19 => ?_)
        · refine r_iconst hx hb dX2_chanceOfOne_26 ?_
          refine lv_istore (lv' := [(4, .int (iI (0))), (3, .int (iI (k))), (2, .int (iI (n))), (0, .ref g0), (1, .int (iI (g)))]) hx hb dX2_chanceOfOne_27 hl (by decide) rfl (fun ls hl => ?_)
          refine lv_iload_n hx hb dX2_chanceOfOne_29 rfl (lv_at hl 2 rfl) ?_
          refine lv_iload hx hb dX2_chanceOfOne_30 (lv_at hl 0 rfl) ?_
          refine r_if_ne (tgt := 61) hx hb dX2_chanceOfOne_32 (by decide) (by unfold rI; decide) (fun h9 => absurd h9 (by omega)) (fun h32 => ?_)
          refine lv_aload_n hx hb dX2_chanceOfOne_35 rfl (lv_at hl 3 rfl) ?_
          refine lv_aload_n hx hb dX2_chanceOfOne_36 rfl (lv_at hl 3 rfl) ?_
          refine lv_aload_n hx hb dX2_chanceOfOne_37 rfl (lv_at hl 3 rfl) ?_
          refine va_get (D := D) (ci := 2) (v := .int (iI (tu))) (C := RX2) (T := TX2) (N := 8) hx hb hts mu_X2_chanceOfOne_X2 hown hE.1 hP 0 rfl rfl 1 (by decide) (hts _ mw_X2_chanceOfOne_0) (fun _ h9 => h9) rfl dX2_chanceOfOne_38 ?_
          refine r_callV (As := [.int (iI (tu))]) (rest := [.ref g0, .int (iI (n))]) S (c_X2_movesFor l D cI cL tw (g0) (g1) (g2) (g3) (tu) (ph) (mo) (gc) (th) (P) (C) (tu) (hB) (by omega)) gX2_chanceOfOne_X2_movesFor rfl rfl rfl ⟨rfl, f_X2_movesFor⟩ hR (Nat.le_of_ble_eq_true rfl) (Nat.le_of_ble_eq_true rfl) hE hP [0, 1, 2, 3] rfl 0 rfl rfl rfl hl.1 rfl (Nat.le_of_ble_eq_true rfl) dX2_chanceOfOne_41 ⟨Nat.zero_le _, Nat.zero_le _⟩ (fun z41 hz41 => ?_)
          obtain ⟨hz41, rz41⟩ := hz41
          refine lv_iload_n hx hb dX2_chanceOfOne_44 rfl (lv_at hl 1 rfl) ?_
          refine r_iconst hx hb dX2_chanceOfOne_45 ?_
          refine r_callV (As := [.int (iI (z41)), .int (iI (k)), .int (iI (1))]) (rest := [.int (iI (n))]) S (c_X2_does l D cI cL tw (g0) (g1) (g2) (g3) (tu) (ph) (mo) (gc) (th) (P) (C) (z41) (k) (1) (hB) (by omega) (by omega) (by omega)) gX2_chanceOfOne_X2_does rfl rfl rfl ⟨rfl, f_X2_does⟩ hR (Nat.le_of_ble_eq_true rfl) (Nat.le_of_ble_eq_true rfl) hE hP [0, 1, 2, 3] rfl 0 rfl rfl rfl hl.1 rfl (Nat.le_of_ble_eq_true rfl) dX2_chanceOfOne_46 ⟨Nat.zero_le _, Nat.zero_le _⟩ (fun z46 hz46 => ?_)
          rcases hz46 with ⟨rfl, hz46⟩ | ⟨rfl, hz46⟩
          · refine r_if_eq (tgt := 61) hx hb dX2_chanceOfOne_49 (by decide) (by unfold rI; decide) (fun h9 => absurd h9 (by omega)) (fun h49 => ?_)
            refine lv_aload_n hx hb dX2_chanceOfOne_52 rfl (lv_at hl 3 rfl) ?_
            refine va_get (D := D) (ci := 2) (v := .ref g3) (C := RX2) (T := TX2) (N := 8) hx hb hts mu_X2_chanceOfOne_X2 hown hE.1 hP 0 rfl rfl 6 (by decide) (hts _ mw_X2_chanceOfOne_2) (fun _ h9 => h9) rfl dX2_chanceOfOne_53 ?_
            refine lv_iload_n hx hb dX2_chanceOfOne_56 rfl (lv_at hl 1 rfl) ?_
            refine r_iald hx hb hE.1 hP 3 rfl (i := k) (by omega) (by omega) (by decide) dX2_chanceOfOne_57 ?_
            refine lv_goto (tgt := 62) hx hb dX2_chanceOfOne_58 (by decide) ?_
            refine r_iadd hx hb dX2_chanceOfOne_62 ?_
            refine lv_istore_n (lv' := [(2, .int (iI ((n) + (wyI (k))))), (4, .int (iI (0))), (3, .int (iI (k))), (0, .ref g0), (1, .int (iI (g)))]) hx hb dX2_chanceOfOne_63 rfl hl (by decide) rfl (fun ls hl => ?_)
            refine lv_iinc (v := iI (k + 1)) (lv' := [(3, .int (iI (k + 1))), (2, .int (iI ((n) + (wyI (k))))), (4, .int (iI (0))), (0, .ref g0), (1, .int (iI (g)))]) hx hb dX2_chanceOfOne_64 hl (k := 2) rfl (iI_add _ _) (by decide) rfl (fun ls hl => ?_)
            refine lv_goto (tgt := 4) hx hb dX2_chanceOfOne_67 (by decide) ?_
            exact ih_4 (7 - (k + 1) : Int).toNat (nlt (by omega) hd_4 (by omega)) ((n) + (wyI (k))) (k + 1) (Int.toNat_of_nonneg (by omega)) (by omega) (by rw [sZ_s _ (by omega), ← hn]; show _ = n + wyI k * chA tu g 0 (ch tu 0) P k; rw [show chA tu g 0 (ch tu 0) P k = 1 from chA_cap (by omega) (by rw [← hz41]; exact hz46), Int.mul_one]) ls (lv_sub hl [0, 1, 3, 4] rfl)
          · refine r_if_eq (tgt := 61) hx hb dX2_chanceOfOne_49 (by decide) (by unfold rI; decide) (fun h49 => ?_) (fun h9 => absurd h9 (by omega))
            refine r_iconst hx hb dX2_chanceOfOne_61 ?_
            refine r_iadd hx hb dX2_chanceOfOne_62 ?_
            refine lv_istore_n (lv' := [(2, .int (iI ((n) + (0)))), (4, .int (iI (0))), (3, .int (iI (k))), (0, .ref g0), (1, .int (iI (g)))]) hx hb dX2_chanceOfOne_63 rfl hl (by decide) rfl (fun ls hl => ?_)
            refine lv_iinc (v := iI (k + 1)) (lv' := [(3, .int (iI (k + 1))), (2, .int (iI ((n) + (0)))), (4, .int (iI (0))), (0, .ref g0), (1, .int (iI (g)))]) hx hb dX2_chanceOfOne_64 hl (k := 2) rfl (iI_add _ _) (by decide) rfl (fun ls hl => ?_)
            refine lv_goto (tgt := 4) hx hb dX2_chanceOfOne_67 (by decide) ?_
            exact ih_4 (7 - (k + 1) : Int).toNat (nlt (by omega) hd_4 (by omega)) ((n) + (0)) (k + 1) (Int.toNat_of_nonneg (by omega)) (by omega) (by rw [sZ_s _ (by omega), ← hn]; show _ = n + wyI k * chA tu g 0 (ch tu 0) P k; rw [chA_end (by rw [← hz41]; exact hz46) (Or.inr rfl), Int.mul_zero]) ls (lv_sub hl [0, 1, 3, 4] rfl)
        · refine r_iconst hx hb dX2_chanceOfOne_22 ?_
          refine lv_goto (tgt := 27) hx hb dX2_chanceOfOne_23 (by decide) ?_
          refine lv_istore (lv' := [(4, .int (iI (1))), (3, .int (iI (k))), (2, .int (iI (n))), (0, .ref g0), (1, .int (iI (g)))]) hx hb dX2_chanceOfOne_27 hl (by decide) rfl (fun ls hl => ?_)
          refine lv_iload_n hx hb dX2_chanceOfOne_29 rfl (lv_at hl 2 rfl) ?_
          refine lv_iload hx hb dX2_chanceOfOne_30 (lv_at hl 0 rfl) ?_
          refine r_if_ne (tgt := 61) hx hb dX2_chanceOfOne_32 (by decide) (by unfold rI; decide) (fun h32 => ?_) (fun h9 => absurd h9 (by omega))
          refine r_iconst hx hb dX2_chanceOfOne_61 ?_
          refine r_iadd hx hb dX2_chanceOfOne_62 ?_
          refine lv_istore_n (lv' := [(2, .int (iI ((n) + (0)))), (4, .int (iI (1))), (3, .int (iI (k))), (0, .ref g0), (1, .int (iI (g)))]) hx hb dX2_chanceOfOne_63 rfl hl (by decide) rfl (fun ls hl => ?_)
          refine lv_iinc (v := iI (k + 1)) (lv' := [(3, .int (iI (k + 1))), (2, .int (iI ((n) + (0)))), (4, .int (iI (1))), (0, .ref g0), (1, .int (iI (g)))]) hx hb dX2_chanceOfOne_64 hl (k := 2) rfl (iI_add _ _) (by decide) rfl (fun ls hl => ?_)
          refine lv_goto (tgt := 4) hx hb dX2_chanceOfOne_67 (by decide) ?_
          exact ih_4 (7 - (k + 1) : Int).toNat (nlt (by omega) hd_4 (by omega)) ((n) + (0)) (k + 1) (Int.toNat_of_nonneg (by omega)) (by omega) (by rw [sZ_s _ (by omega), ← hn]; show _ = n + wyI k * chA tu g 0 (ch tu 0) P k; rw [chA_lost (by omega), Int.mul_zero]) ls (lv_sub hl [0, 1, 3, 4] rfl)
      · refine r_if_eq (tgt := 26) hx hb dX2_chanceOfOne_14 (by decide) (by unfold rI; decide) (fun h14 => ?_) (fun h9 => absurd h9 (by omega))
        refine r_iconst hx hb dX2_chanceOfOne_26 ?_
        refine lv_istore (lv' := [(4, .int (iI (0))), (3, .int (iI (k))), (2, .int (iI (n))), (0, .ref g0), (1, .int (iI (g)))]) hx hb dX2_chanceOfOne_27 hl (by decide) rfl (fun ls hl => ?_)
        refine lv_iload_n hx hb dX2_chanceOfOne_29 rfl (lv_at hl 2 rfl) ?_
        refine lv_iload hx hb dX2_chanceOfOne_30 (lv_at hl 0 rfl) ?_
        refine r_if_ne (tgt := 61) hx hb dX2_chanceOfOne_32 (by decide) (by unfold rI; decide) (fun h9 => absurd h9 (by omega)) (fun h32 => ?_)
        refine lv_aload_n hx hb dX2_chanceOfOne_35 rfl (lv_at hl 3 rfl) ?_
        refine lv_aload_n hx hb dX2_chanceOfOne_36 rfl (lv_at hl 3 rfl) ?_
        refine lv_aload_n hx hb dX2_chanceOfOne_37 rfl (lv_at hl 3 rfl) ?_
        refine va_get (D := D) (ci := 2) (v := .int (iI (tu))) (C := RX2) (T := TX2) (N := 8) hx hb hts mu_X2_chanceOfOne_X2 hown hE.1 hP 0 rfl rfl 1 (by decide) (hts _ mw_X2_chanceOfOne_0) (fun _ h9 => h9) rfl dX2_chanceOfOne_38 ?_
        refine r_callV (As := [.int (iI (tu))]) (rest := [.ref g0, .int (iI (n))]) S (c_X2_movesFor l D cI cL tw (g0) (g1) (g2) (g3) (tu) (ph) (mo) (gc) (th) (P) (C) (tu) (hB) (by omega)) gX2_chanceOfOne_X2_movesFor rfl rfl rfl ⟨rfl, f_X2_movesFor⟩ hR (Nat.le_of_ble_eq_true rfl) (Nat.le_of_ble_eq_true rfl) hE hP [0, 1, 2, 3] rfl 0 rfl rfl rfl hl.1 rfl (Nat.le_of_ble_eq_true rfl) dX2_chanceOfOne_41 ⟨Nat.zero_le _, Nat.zero_le _⟩ (fun z41 hz41 => ?_)
        obtain ⟨hz41, rz41⟩ := hz41
        refine lv_iload_n hx hb dX2_chanceOfOne_44 rfl (lv_at hl 1 rfl) ?_
        refine r_iconst hx hb dX2_chanceOfOne_45 ?_
        refine r_callV (As := [.int (iI (z41)), .int (iI (k)), .int (iI (1))]) (rest := [.int (iI (n))]) S (c_X2_does l D cI cL tw (g0) (g1) (g2) (g3) (tu) (ph) (mo) (gc) (th) (P) (C) (z41) (k) (1) (hB) (by omega) (by omega) (by omega)) gX2_chanceOfOne_X2_does rfl rfl rfl ⟨rfl, f_X2_does⟩ hR (Nat.le_of_ble_eq_true rfl) (Nat.le_of_ble_eq_true rfl) hE hP [0, 1, 2, 3] rfl 0 rfl rfl rfl hl.1 rfl (Nat.le_of_ble_eq_true rfl) dX2_chanceOfOne_46 ⟨Nat.zero_le _, Nat.zero_le _⟩ (fun z46 hz46 => ?_)
        rcases hz46 with ⟨rfl, hz46⟩ | ⟨rfl, hz46⟩
        · refine r_if_eq (tgt := 61) hx hb dX2_chanceOfOne_49 (by decide) (by unfold rI; decide) (fun h9 => absurd h9 (by omega)) (fun h49 => ?_)
          refine lv_aload_n hx hb dX2_chanceOfOne_52 rfl (lv_at hl 3 rfl) ?_
          refine va_get (D := D) (ci := 2) (v := .ref g3) (C := RX2) (T := TX2) (N := 8) hx hb hts mu_X2_chanceOfOne_X2 hown hE.1 hP 0 rfl rfl 6 (by decide) (hts _ mw_X2_chanceOfOne_2) (fun _ h9 => h9) rfl dX2_chanceOfOne_53 ?_
          refine lv_iload_n hx hb dX2_chanceOfOne_56 rfl (lv_at hl 1 rfl) ?_
          refine r_iald hx hb hE.1 hP 3 rfl (i := k) (by omega) (by omega) (by decide) dX2_chanceOfOne_57 ?_
          refine lv_goto (tgt := 62) hx hb dX2_chanceOfOne_58 (by decide) ?_
          refine r_iadd hx hb dX2_chanceOfOne_62 ?_
          refine lv_istore_n (lv' := [(2, .int (iI ((n) + (wyI (k))))), (4, .int (iI (0))), (3, .int (iI (k))), (0, .ref g0), (1, .int (iI (g)))]) hx hb dX2_chanceOfOne_63 rfl hl (by decide) rfl (fun ls hl => ?_)
          refine lv_iinc (v := iI (k + 1)) (lv' := [(3, .int (iI (k + 1))), (2, .int (iI ((n) + (wyI (k))))), (4, .int (iI (0))), (0, .ref g0), (1, .int (iI (g)))]) hx hb dX2_chanceOfOne_64 hl (k := 2) rfl (iI_add _ _) (by decide) rfl (fun ls hl => ?_)
          refine lv_goto (tgt := 4) hx hb dX2_chanceOfOne_67 (by decide) ?_
          exact ih_4 (7 - (k + 1) : Int).toNat (nlt (by omega) hd_4 (by omega)) ((n) + (wyI (k))) (k + 1) (Int.toNat_of_nonneg (by omega)) (by omega) (by rw [sZ_s _ (by omega), ← hn]; show _ = n + wyI k * chA tu g 0 (ch tu 0) P k; rw [show chA tu g 0 (ch tu 0) P k = 1 from chA_cap (by omega) (by rw [← hz41]; exact hz46), Int.mul_one]) ls (lv_sub hl [0, 1, 3, 4] rfl)
        · refine r_if_eq (tgt := 61) hx hb dX2_chanceOfOne_49 (by decide) (by unfold rI; decide) (fun h49 => ?_) (fun h9 => absurd h9 (by omega))
          refine r_iconst hx hb dX2_chanceOfOne_61 ?_
          refine r_iadd hx hb dX2_chanceOfOne_62 ?_
          refine lv_istore_n (lv' := [(2, .int (iI ((n) + (0)))), (4, .int (iI (0))), (3, .int (iI (k))), (0, .ref g0), (1, .int (iI (g)))]) hx hb dX2_chanceOfOne_63 rfl hl (by decide) rfl (fun ls hl => ?_)
          refine lv_iinc (v := iI (k + 1)) (lv' := [(3, .int (iI (k + 1))), (2, .int (iI ((n) + (0)))), (4, .int (iI (0))), (0, .ref g0), (1, .int (iI (g)))]) hx hb dX2_chanceOfOne_64 hl (k := 2) rfl (iI_add _ _) (by decide) rfl (fun ls hl => ?_)
          refine lv_goto (tgt := 4) hx hb dX2_chanceOfOne_67 (by decide) ?_
          exact ih_4 (7 - (k + 1) : Int).toNat (nlt (by omega) hd_4 (by omega)) ((n) + (0)) (k + 1) (Int.toNat_of_nonneg (by omega)) (by omega) (by rw [sZ_s _ (by omega), ← hn]; show _ = n + wyI k * chA tu g 0 (ch tu 0) P k; rw [chA_end (by rw [← hz41]; exact hz46) (Or.inr rfl), Int.mul_zero]) ls (lv_sub hl [0, 1, 3, 4] rfl)
  exact lp_4 (7 - (0) : Int).toNat (0) (0) (Int.toNat_of_nonneg (by omega)) (by omega) ((sZ_0 _).symm) ls (lv_sub hl [0, 1, 2, 3] rfl)

set_option maxRecDepth 20000 in
theorem mw_X2_bestForOne_0 : (.fieldLink RX2 54 "PachisiYardModel" "turn" "I" : Cond) ∈ wsX2_bestForOne := by decide +kernel
set_option maxRecDepth 20000 in
theorem mu_X2_bestForOne_X2 : ∀ w ∈ wsX20, w ∈ wsX2_bestForOne := by decide +kernel
set_option maxRecDepth 20000 in
theorem mw_X2_bestForOne_2 : (.fieldLink RX2 7 "PachisiYardModel" "at" "[I" : Cond) ∈ wsX2_bestForOne := by decide +kernel
theorem f_X2_bestForOne : yX2_bestForOne.cls ≠ "java/lang/invoke/MethodHandle" ∧ yX2_bestForOne.cls ≠ "java/lang/invoke/VarHandle" ∧ (parseMethodDescriptor yX2_bestForOne.desc).map (fun d => d.parameters.length) = some 2 := by decide +kernel
set_option maxHeartbeats 4000000 in
set_option maxRecDepth 100000 in
theorem c_X2_bestForOne (l : Launch) (D : va_G) (cI cL : ClassId) (tw : Nat) (g0 : Nat) (g1 : Nat) (g2 : Nat) (g3 : Nat) (tu : Int) (ph : Int) (mo : Int) (gc : Int) (th : Int) (P : Int → Int) (C : Int → Int) (g : Int) (m : Int) (hB : ∀ i, 0 ≤ P i ∧ P i ≤ 72) (htu : 0 ≤ tu ∧ tu ≤ 3) (hg : 0 ≤ g ∧ g ≤ 2) (hm : 0 ≤ m ∧ m ≤ 6) : RWi l yX2_bestForOne wsX2_bestForOne { frames := 5, cells := 0, slots := 0, locals := 124 } D cI cL tw [.ref g0, .int (iI (g)), .int (iI (m))] [(g0, .inr (2, [.ref g1, .int (iI (tu)), .int (iI (ph)), .int (iI (mo)), .int (iI (gc)), .ref g2, .ref g3, .int (iI (th))])), (g1, .inl (cI, 16, .inl (aI P))), (g2, .inl (cI, 4, .inl (aI C))), (g3, .inl (cI, 7, .inl (aI wyI)))] (fun (z : Int) (u : Unit) => z = chGn (ch tu 1 g) P (mv P tu) m 4) (fun u : Unit => [(g0, .inr (2, [.ref g1, .int (iI (tu)), .int (iI (ph)), .int (iI (mo)), .int (iI (gc)), .ref g2, .ref g3, .int (iI (th))])), (g1, .inl (cI, 16, .inl (aI P))), (g2, .inl (cI, 4, .inl (aI C))), (g3, .inl (cI, 7, .inl (aI wyI)))]) := by
  refine rwi_of (cc := cX2_bestForOne) (maxL := 8) (rt := .int) (own := RX2) (by decide) rfl rfl (Or.inl rfl) (Nat.le_of_ble_eq_true rfl) ?_
  intro p e R s mt args below meth c H0 Q ls A S hR hE hP hD hS hA hl hret
  obtain ⟨hx, hb, hml, hown, hts⟩ := id S
  have hl : lv_has ls 8 [(0, .ref g0), (1, .int (iI (g))), (2, .int (iI (m)))] := hl
  refine lv_aload_n hx hb dX2_bestForOne_0 rfl (lv_at hl 0 rfl) ?_
  refine lv_aload_n hx hb dX2_bestForOne_1 rfl (lv_at hl 0 rfl) ?_
  refine va_get (D := D) (ci := 2) (v := .int (iI (tu))) (C := RX2) (T := TX2) (N := 8) hx hb hts mu_X2_bestForOne_X2 hown hE.1 hP 0 rfl rfl 1 (by decide) (hts _ mw_X2_bestForOne_0) (fun _ h9 => h9) rfl dX2_bestForOne_2 ?_
  refine r_callV (As := [.int (iI (tu))]) (rest := []) S (c_X2_movesFor l D cI cL tw (g0) (g1) (g2) (g3) (tu) (ph) (mo) (gc) (th) (P) (C) (tu) (hB) (by omega)) gX2_bestForOne_X2_movesFor rfl rfl rfl ⟨rfl, f_X2_movesFor⟩ hR (Nat.le_of_ble_eq_true rfl) (Nat.le_of_ble_eq_true rfl) (hE.kept hS.2.1) hP [0, 1, 2, 3] rfl 0 rfl rfl rfl hl.1 rfl (Nat.le_of_ble_eq_true rfl) dX2_bestForOne_5 ⟨Nat.zero_le _, Nat.zero_le _⟩ (fun z5 hz5 => ?_)
  obtain ⟨hz5, rz5⟩ := hz5
  refine lv_istore_n (lv' := [(3, .int (iI (z5))), (0, .ref g0), (1, .int (iI (g))), (2, .int (iI (m)))]) hx hb dX2_bestForOne_8 rfl hl (by decide) rfl (fun ls hl => ?_)
  refine lv_aload_n hx hb dX2_bestForOne_9 rfl (lv_at hl 1 rfl) ?_
  refine lv_iload_n hx hb dX2_bestForOne_10 rfl (lv_at hl 0 rfl) ?_
  refine lv_iload_n hx hb dX2_bestForOne_11 rfl (lv_at hl 3 rfl) ?_
  refine r_iconst hx hb dX2_bestForOne_12 ?_
  refine r_callV (As := [.int (iI (z5)), .int (iI (m)), .int (iI (1))]) (rest := []) S (c_X2_movers l D cI cL tw (g0) (g1) (g2) (g3) (tu) (ph) (mo) (gc) (th) (P) (C) (z5) (m) (1) (hB) (by omega) (by omega) (by omega)) gX2_bestForOne_X2_movers rfl rfl rfl ⟨rfl, f_X2_movers⟩ hR (Nat.le_of_ble_eq_true rfl) (Nat.le_of_ble_eq_true rfl) (hE.kept hS.2.1) hP [0, 1, 2, 3] rfl 0 rfl rfl rfl hl.1 rfl (Nat.le_of_ble_eq_true rfl) dX2_bestForOne_13 ⟨Nat.zero_le _, Nat.zero_le _⟩ (fun z13 hz13 => ?_)
  obtain ⟨hz13, rz13⟩ := hz13
  refine r_if_ne (tgt := 27) hx hb dX2_bestForOne_16 (by decide) (by unfold rI; omega) (fun h16 => ?_) (fun h16 => ?_)
  · refine r_iconst hx hb dX2_bestForOne_27 ?_
    refine lv_istore (lv' := [(4, .int (iI (0))), (3, .int (iI (z5))), (0, .ref g0), (1, .int (iI (g))), (2, .int (iI (m)))]) hx hb dX2_bestForOne_28 hl (by decide) rfl (fun ls hl => ?_)
    refine r_iconst hx hb dX2_bestForOne_30 ?_
    refine lv_iload_n hx hb dX2_bestForOne_31 rfl (lv_at hl 1 rfl) ?_
    refine r_imul hx hb dX2_bestForOne_32 ?_
    refine lv_istore (lv' := [(5, .int (iI ((4) * (z5)))), (4, .int (iI (0))), (3, .int (iI (z5))), (0, .ref g0), (1, .int (iI (g))), (2, .int (iI (m)))]) hx hb dX2_bestForOne_33 hl (by decide) rfl (fun ls hl => ?_)
    have lp_35 : ∀ (d_35 : Nat) (best : Int) (k : Int), (d_35 : Int) = 4 * z5 + 4 - k → (4 * z5 ≤ k ∧ k ≤ 4 * z5 + 4) → (best = chGn (ch tu 1 g) P z5 m (k - 4 * z5) ∧ 0 ≤ best ∧ best ≤ 64) → ∀ (H : Heap) (locs : List Loc), va_P D vwCl [(g0, .inr (2, [.ref g1, .int (iI (tu)), .int (iI (ph)), .int (iI (mo)), .int (iI (gc)), .ref g2, .ref g3, .int (iI (th))])), (g1, .inl (cI, 16, .inl (aI P))), (g2, .inl (cI, 4, .inl (aI C))), (g3, .inl (cI, 7, .inl (aI wyI)))] H → va_D A [(g0, .inr (2, [.ref g1, .int (iI (tu)), .int (iI (ph)), .int (iI (mo)), .int (iI (gc)), .ref g2, .ref g3, .int (iI (th))])), (g1, .inl (cI, 16, .inl (aI P))), (g2, .inl (cI, 4, .inl (aI C))), (g3, .inl (cI, 7, .inl (aI wyI)))] → va_S A H0 H locs → ∀ ls : Array Slot, lv_has ls 8 [(5, .int (iI (k))), (4, .int (iI (best))), (3, .int (iI (z5))), (0, .ref g0), (1, .int (iI (g))), (2, .int (iI (m)))] → W p l e R s mt args below meth c H locs 0 0 Q (F0 mt 35 ls []) := by
      intro d_35
      induction d_35 using Nat.strongRecOn with
      | ind d_35 ih_35 =>
      intro best k hd_35 hk hbst H locs hP hD hS ls hl
      refine lv_iload hx hb dX2_bestForOne_35 (lv_at hl 0 rfl) ?_
      refine r_iconst hx hb dX2_bestForOne_37 ?_
      refine lv_iload_n hx hb dX2_bestForOne_38 rfl (lv_at hl 2 rfl) ?_
      refine r_imul hx hb dX2_bestForOne_39 ?_
      refine r_iconst hx hb dX2_bestForOne_40 ?_
      refine r_iadd hx hb dX2_bestForOne_41 ?_
      refine r_icmp_ge (tgt := 133) hx hb dX2_bestForOne_42 (by decide) (by unfold rI; omega) (by unfold rI; omega) (fun h42 => ?_) (fun h42 => ?_)
      · refine lv_iload hx hb dX2_bestForOne_133 (lv_at hl 1 rfl) ?_
        exact hret (best) () _ _ _ _ dX2_bestForOne_135 (by have e : k = 4 * z5 + 4 := (by omega); subst e; rw [← hz5]; have q := hbst.1; rw [show 4 * z5 + 4 - 4 * z5 = (4 : Int) by omega] at q; exact q) hP hD hS
      · refine lv_aload_n hx hb dX2_bestForOne_45 rfl (lv_at hl 3 rfl) ?_
        refine lv_iload hx hb dX2_bestForOne_46 (lv_at hl 0 rfl) ?_
        refine lv_iload_n hx hb dX2_bestForOne_48 rfl (lv_at hl 5 rfl) ?_
        refine r_callV (As := [.int (iI (k)), .int (iI (m))]) (rest := []) S (c_X2_can l D cI cL tw (g0) (g1) (g2) (g3) (tu) (ph) (mo) (gc) (th) (P) (C) (k) (m) (hB) (by omega) (by omega)) gX2_bestForOne_X2_can rfl rfl rfl ⟨rfl, f_X2_can⟩ hR (Nat.le_of_ble_eq_true rfl) (Nat.le_of_ble_eq_true rfl) (hE.kept hS.2.1) hP [0, 1, 2, 3] rfl 0 rfl rfl rfl hl.1 rfl (Nat.le_of_ble_eq_true rfl) dX2_bestForOne_49 ⟨Nat.zero_le _, Nat.zero_le _⟩ (fun z49 hz49 => ?_)
        obtain ⟨hz49, rz49⟩ := hz49
        refine r_if_le (tgt := 127) hx hb dX2_bestForOne_52 (by decide) (by unfold rI; omega) (fun h52 => ?_) (fun h52 => ?_)
        · refine lv_iinc (v := iI (k + 1)) (lv' := [(5, .int (iI (k + 1))), (4, .int (iI (best))), (3, .int (iI (z5))), (0, .ref g0), (1, .int (iI (g))), (2, .int (iI (m)))]) hx hb dX2_bestForOne_127 hl (k := 0) rfl (iI_add _ _) (by decide) rfl (fun ls hl => ?_)
          refine lv_goto (tgt := 35) hx hb dX2_bestForOne_130 (by decide) ?_
          exact ih_35 (4 * z5 + 4 - (k + 1) : Int).toNat (nlt (by omega) hd_35 (by omega)) (best) (k + 1) (Int.toNat_of_nonneg (by omega)) (by omega) (by refine ⟨?_, by omega⟩; rw [show k + 1 - 4 * z5 = (k - 4 * z5) + 1 by omega, chGn_no (by omega) (by rw [show 4 * z5 + (k - 4 * z5) = k by omega]; omega)]; exact hbst.1) _ _ hP hD hS ls (lv_sub hl [0, 1, 2, 3, 4, 5] rfl)
        · refine lv_aload_n hx hb dX2_bestForOne_55 rfl (lv_at hl 3 rfl) ?_
          refine va_get (D := D) (ci := 2) (v := .ref g1) (C := RX2) (T := TX2) (N := 8) hx hb hts mu_X2_bestForOne_X2 hown hE.1 hP 0 rfl rfl 0 (by decide) (hts _ mw_X2_bestForOne_2) (fun _ h9 => h9) rfl dX2_bestForOne_56 ?_
          refine lv_iload hx hb dX2_bestForOne_59 (lv_at hl 0 rfl) ?_
          refine r_iald hx hb hE.1 hP 1 rfl (i := k) (by omega) (by omega) (by decide) dX2_bestForOne_61 ?_
          obtain ⟨v61, ev61⟩ : ∃ v : Int, v = P (k) := ⟨_, rfl⟩
          have gv61 := hB (k)
          refine r_top v61 ev61.symm ?_
          rw [← ev61] at gv61
          refine lv_istore (lv' := [(6, .int (iI (v61))), (5, .int (iI (k))), (4, .int (iI (best))), (3, .int (iI (z5))), (0, .ref g0), (1, .int (iI (g))), (2, .int (iI (m)))]) hx hb dX2_bestForOne_62 hl (by decide) rfl (fun ls hl => ?_)
          refine lv_aload_n hx hb dX2_bestForOne_64 rfl (lv_at hl 4 rfl) ?_
          refine va_get (D := D) (ci := 2) (v := .ref g1) (C := RX2) (T := TX2) (N := 8) hx hb hts mu_X2_bestForOne_X2 hown hE.1 hP 0 rfl rfl 0 (by decide) (hts _ mw_X2_bestForOne_2) (fun _ h9 => h9) rfl dX2_bestForOne_65 ?_
          refine lv_iload hx hb dX2_bestForOne_68 (lv_at hl 1 rfl) ?_
          refine lv_aload_n hx hb dX2_bestForOne_70 rfl (lv_at hl 4 rfl) ?_
          refine lv_iload hx hb dX2_bestForOne_71 (lv_at hl 1 rfl) ?_
          refine lv_iload_n hx hb dX2_bestForOne_73 rfl (lv_at hl 6 rfl) ?_
          refine r_callV (As := [.int (iI (k)), .int (iI (m))]) (rest := [.int (iI (k)), .ref g1]) S (c_X2_target l D cI cL tw (g0) (g1) (g2) (g3) (tu) (ph) (mo) (gc) (th) (P) (C) (k) (m) (hB) (by omega) (by omega)) gX2_bestForOne_X2_target rfl rfl rfl ⟨rfl, f_X2_target⟩ hR (Nat.le_of_ble_eq_true rfl) (Nat.le_of_ble_eq_true rfl) (hE.kept hS.2.1) hP [0, 1, 2, 3] rfl 0 rfl rfl rfl hl.1 rfl (Nat.le_of_ble_eq_true rfl) dX2_bestForOne_74 ⟨Nat.zero_le _, Nat.zero_le _⟩ (fun z74 hz74 => ?_)
          obtain ⟨hz74, rz74⟩ := hz74
          refine r_iast hx hb hE.1 hP hD hS 1 (P := P) rfl (i := k) (v := z74) (by omega) (by omega) (by decide) (ws1 := [(g0, .inr (2, [.ref g1, .int (iI (tu)), .int (iI (ph)), .int (iI (mo)), .int (iI (gc)), .ref g2, .ref g3, .int (iI (th))])), (g1, .inl (cI, 16, .inl (aI (uI P (k) (z74))))), (g2, .inl (cI, 4, .inl (aI C))), (g3, .inl (cI, 7, .inl (aI wyI)))]) rfl dX2_bestForOne_77 (fun H locs hP hD hS => ?_)
          refine lv_aload_n hx hb dX2_bestForOne_78 rfl (lv_at hl 4 rfl) ?_
          refine lv_aload_n hx hb dX2_bestForOne_79 rfl (lv_at hl 4 rfl) ?_
          refine va_get (D := D) (ci := 2) (v := .int (iI (tu))) (C := RX2) (T := TX2) (N := 8) hx hb hts mu_X2_bestForOne_X2 hown hE.1 hP 0 rfl rfl 1 (by decide) (hts _ mw_X2_bestForOne_0) (fun _ h9 => h9) rfl dX2_bestForOne_80 ?_
          refine r_iconst hx hb dX2_bestForOne_83 ?_
          refine r_irem hx hb dX2_bestForOne_84 (by omega) (by omega) ?_
          refine r_callV (As := [.int (iI ((tu) % (2)))]) (rest := []) S (c_X2_isWon l D cI cL tw (g0) (g1) (g2) (g3) (tu) (ph) (mo) (gc) (th) ((uI P (k) (z74))) (C) ((tu) % (2)) (uI_rng hB (by omega)) (by omega)) gX2_bestForOne_X2_isWon rfl rfl rfl ⟨rfl, f_X2_isWon⟩ hR (Nat.le_of_ble_eq_true rfl) (Nat.le_of_ble_eq_true rfl) (hE.kept hS.2.1) hP [0, 1, 2, 3] rfl 0 rfl rfl rfl hl.1 rfl (Nat.le_of_ble_eq_true rfl) dX2_bestForOne_85 ⟨Nat.zero_le _, Nat.zero_le _⟩ (fun z85 hz85 => ?_)
          rcases hz85 with ⟨rfl, hz85⟩ | ⟨rfl, hz85⟩
          · refine r_if_eq (tgt := 95) hx hb dX2_bestForOne_88 (by decide) (by unfold rI; decide) (fun h9 => absurd h9 (by omega)) (fun h88 => ?_)
            refine r_iconst hx hb dX2_bestForOne_91 ?_
            refine lv_goto (tgt := 100) hx hb dX2_bestForOne_92 (by decide) ?_
            refine lv_istore (lv' := [(7, .int (iI (0))), (6, .int (iI (v61))), (5, .int (iI (k))), (4, .int (iI (best))), (3, .int (iI (z5))), (0, .ref g0), (1, .int (iI (g))), (2, .int (iI (m)))]) hx hb dX2_bestForOne_100 hl (by decide) rfl (fun ls hl => ?_)
            refine lv_aload_n hx hb dX2_bestForOne_102 rfl (lv_at hl 5 rfl) ?_
            refine va_get (D := D) (ci := 2) (v := .ref g1) (C := RX2) (T := TX2) (N := 8) hx hb hts mu_X2_bestForOne_X2 hown hE.1 hP 0 rfl rfl 0 (by decide) (hts _ mw_X2_bestForOne_2) (fun _ h9 => h9) rfl dX2_bestForOne_103 ?_
            refine lv_iload hx hb dX2_bestForOne_106 (lv_at hl 2 rfl) ?_
            refine lv_iload hx hb dX2_bestForOne_108 (lv_at hl 1 rfl) ?_
            refine r_iast hx hb hE.1 hP hD hS 1 (P := (uI P (k) (z74))) rfl (i := k) (v := v61) (by omega) (by omega) (by decide) (ws1 := [(g0, .inr (2, [.ref g1, .int (iI (tu)), .int (iI (ph)), .int (iI (mo)), .int (iI (gc)), .ref g2, .ref g3, .int (iI (th))])), (g1, .inl (cI, 16, .inl (aI (uI (uI P (k) (z74)) (k) (v61))))), (g2, .inl (cI, 4, .inl (aI C))), (g3, .inl (cI, 7, .inl (aI wyI)))]) rfl dX2_bestForOne_110 (fun H locs hP hD hS => ?_)
            have e9 : uI (uI P k z74) k v61 = P := by rw [ev61]; exact uI_back _ _ _
            rw [e9] at hP hD
            refine lv_iload hx hb dX2_bestForOne_111 (lv_at hl 0 rfl) ?_
            refine lv_iload hx hb dX2_bestForOne_113 (lv_at hl 3 rfl) ?_
            refine r_icmp_le (tgt := 123) hx hb dX2_bestForOne_115 (by decide) (by unfold rI; decide) (by unfold rI; omega) (fun h115 => ?_) (fun h115 => ?_)
            · refine lv_iload hx hb dX2_bestForOne_123 (lv_at hl 3 rfl) ?_
              refine lv_istore (lv' := [(4, .int (iI (best))), (7, .int (iI (0))), (6, .int (iI (v61))), (5, .int (iI (k))), (3, .int (iI (z5))), (0, .ref g0), (1, .int (iI (g))), (2, .int (iI (m)))]) hx hb dX2_bestForOne_125 hl (by decide) rfl (fun ls hl => ?_)
              refine lv_iinc (v := iI (k + 1)) (lv' := [(5, .int (iI (k + 1))), (4, .int (iI (best))), (7, .int (iI (0))), (6, .int (iI (v61))), (3, .int (iI (z5))), (0, .ref g0), (1, .int (iI (g))), (2, .int (iI (m)))]) hx hb dX2_bestForOne_127 hl (k := 3) rfl (iI_add _ _) (by decide) rfl (fun ls hl => ?_)
              refine lv_goto (tgt := 35) hx hb dX2_bestForOne_130 (by decide) ?_
              exact ih_35 (4 * z5 + 4 - (k + 1) : Int).toNat (nlt (by omega) hd_35 (by omega)) (best) (k + 1) (Int.toNat_of_nonneg (by omega)) (by omega) (by have ey := chGn_yes (R := ch tu 1 g) (P := P) (a := z5) (m := m) (j := k - 4 * z5) (by omega) (by rw [show 4 * z5 + (k - 4 * z5) = k by omega]; omega); rw [show 4 * z5 + (k - 4 * z5) = k by omega, ← hz74, ch_won ((won_team (by omega)).mpr hz85), ← hbst.1] at ey; refine ⟨?_, by omega⟩; rw [show k + 1 - 4 * z5 = (k - 4 * z5) + 1 by omega, ey]; split <;> omega) _ _ hP hD hS ls (lv_sub hl [0, 1, 4, 5, 6, 7] rfl)
            · refine lv_iload hx hb dX2_bestForOne_118 (lv_at hl 0 rfl) ?_
              refine lv_goto (tgt := 125) hx hb dX2_bestForOne_120 (by decide) ?_
              refine lv_istore (lv' := [(4, .int (iI (0))), (7, .int (iI (0))), (6, .int (iI (v61))), (5, .int (iI (k))), (3, .int (iI (z5))), (0, .ref g0), (1, .int (iI (g))), (2, .int (iI (m)))]) hx hb dX2_bestForOne_125 hl (by decide) rfl (fun ls hl => ?_)
              refine lv_iinc (v := iI (k + 1)) (lv' := [(5, .int (iI (k + 1))), (4, .int (iI (0))), (7, .int (iI (0))), (6, .int (iI (v61))), (3, .int (iI (z5))), (0, .ref g0), (1, .int (iI (g))), (2, .int (iI (m)))]) hx hb dX2_bestForOne_127 hl (k := 3) rfl (iI_add _ _) (by decide) rfl (fun ls hl => ?_)
              refine lv_goto (tgt := 35) hx hb dX2_bestForOne_130 (by decide) ?_
              exact ih_35 (4 * z5 + 4 - (k + 1) : Int).toNat (nlt (by omega) hd_35 (by omega)) (0) (k + 1) (Int.toNat_of_nonneg (by omega)) (by omega) (by have ey := chGn_yes (R := ch tu 1 g) (P := P) (a := z5) (m := m) (j := k - 4 * z5) (by omega) (by rw [show 4 * z5 + (k - 4 * z5) = k by omega]; omega); rw [show 4 * z5 + (k - 4 * z5) = k by omega, ← hz74, ch_won ((won_team (by omega)).mpr hz85), ← hbst.1] at ey; refine ⟨?_, by omega⟩; rw [show k + 1 - 4 * z5 = (k - 4 * z5) + 1 by omega, ey]; split <;> omega) _ _ hP hD hS ls (lv_sub hl [0, 1, 4, 5, 6, 7] rfl)
          · refine r_if_eq (tgt := 95) hx hb dX2_bestForOne_88 (by decide) (by unfold rI; decide) (fun h88 => ?_) (fun h9 => absurd h9 (by omega))
            refine lv_aload_n hx hb dX2_bestForOne_95 rfl (lv_at hl 4 rfl) ?_
            refine lv_iload_n hx hb dX2_bestForOne_96 rfl (lv_at hl 5 rfl) ?_
            refine r_callV (As := [.int (iI (g))]) (rest := []) S (c_X2_chanceOfOne l D cI cL tw (g0) (g1) (g2) (g3) (tu) (ph) (mo) (gc) (th) ((uI P (k) (z74))) (C) (g) (uI_rng hB (by omega)) (by omega) (by omega)) gX2_bestForOne_X2_chanceOfOne rfl rfl rfl ⟨rfl, f_X2_chanceOfOne⟩ hR (Nat.le_of_ble_eq_true rfl) (Nat.le_of_ble_eq_true rfl) (hE.kept hS.2.1) hP [0, 1, 2, 3] rfl 0 rfl rfl rfl hl.1 rfl (Nat.le_of_ble_eq_true rfl) dX2_bestForOne_97 ⟨Nat.zero_le _, Nat.zero_le _⟩ (fun z97 hz97 => ?_)
            have rz97 := ch_rng1 tu g (uI P (k) (z74))
            rw [← hz97] at rz97
            refine lv_istore (lv' := [(7, .int (iI (z97))), (6, .int (iI (v61))), (5, .int (iI (k))), (4, .int (iI (best))), (3, .int (iI (z5))), (0, .ref g0), (1, .int (iI (g))), (2, .int (iI (m)))]) hx hb dX2_bestForOne_100 hl (by decide) rfl (fun ls hl => ?_)
            refine lv_aload_n hx hb dX2_bestForOne_102 rfl (lv_at hl 5 rfl) ?_
            refine va_get (D := D) (ci := 2) (v := .ref g1) (C := RX2) (T := TX2) (N := 8) hx hb hts mu_X2_bestForOne_X2 hown hE.1 hP 0 rfl rfl 0 (by decide) (hts _ mw_X2_bestForOne_2) (fun _ h9 => h9) rfl dX2_bestForOne_103 ?_
            refine lv_iload hx hb dX2_bestForOne_106 (lv_at hl 2 rfl) ?_
            refine lv_iload hx hb dX2_bestForOne_108 (lv_at hl 1 rfl) ?_
            refine r_iast hx hb hE.1 hP hD hS 1 (P := (uI P (k) (z74))) rfl (i := k) (v := v61) (by omega) (by omega) (by decide) (ws1 := [(g0, .inr (2, [.ref g1, .int (iI (tu)), .int (iI (ph)), .int (iI (mo)), .int (iI (gc)), .ref g2, .ref g3, .int (iI (th))])), (g1, .inl (cI, 16, .inl (aI (uI (uI P (k) (z74)) (k) (v61))))), (g2, .inl (cI, 4, .inl (aI C))), (g3, .inl (cI, 7, .inl (aI wyI)))]) rfl dX2_bestForOne_110 (fun H locs hP hD hS => ?_)
            have e9 : uI (uI P k z74) k v61 = P := by rw [ev61]; exact uI_back _ _ _
            rw [e9] at hP hD
            refine lv_iload hx hb dX2_bestForOne_111 (lv_at hl 0 rfl) ?_
            refine lv_iload hx hb dX2_bestForOne_113 (lv_at hl 3 rfl) ?_
            refine r_icmp_le (tgt := 123) hx hb dX2_bestForOne_115 (by decide) (by unfold rI; omega) (by unfold rI; omega) (fun h115 => ?_) (fun h115 => ?_)
            · refine lv_iload hx hb dX2_bestForOne_123 (lv_at hl 3 rfl) ?_
              refine lv_istore (lv' := [(4, .int (iI (best))), (7, .int (iI (z97))), (6, .int (iI (v61))), (5, .int (iI (k))), (3, .int (iI (z5))), (0, .ref g0), (1, .int (iI (g))), (2, .int (iI (m)))]) hx hb dX2_bestForOne_125 hl (by decide) rfl (fun ls hl => ?_)
              refine lv_iinc (v := iI (k + 1)) (lv' := [(5, .int (iI (k + 1))), (4, .int (iI (best))), (7, .int (iI (z97))), (6, .int (iI (v61))), (3, .int (iI (z5))), (0, .ref g0), (1, .int (iI (g))), (2, .int (iI (m)))]) hx hb dX2_bestForOne_127 hl (k := 3) rfl (iI_add _ _) (by decide) rfl (fun ls hl => ?_)
              refine lv_goto (tgt := 35) hx hb dX2_bestForOne_130 (by decide) ?_
              exact ih_35 (4 * z5 + 4 - (k + 1) : Int).toNat (nlt (by omega) hd_35 (by omega)) (best) (k + 1) (Int.toNat_of_nonneg (by omega)) (by omega) (by have ey := chGn_yes (R := ch tu 1 g) (P := P) (a := z5) (m := m) (j := k - 4 * z5) (by omega) (by rw [show 4 * z5 + (k - 4 * z5) = k by omega]; omega); rw [show 4 * z5 + (k - 4 * z5) = k by omega, ← hz74, ← hz97, ← hbst.1] at ey; refine ⟨?_, by omega⟩; rw [show k + 1 - 4 * z5 = (k - 4 * z5) + 1 by omega, ey]; split <;> omega) _ _ hP hD hS ls (lv_sub hl [0, 1, 4, 5, 6, 7] rfl)
            · refine lv_iload hx hb dX2_bestForOne_118 (lv_at hl 0 rfl) ?_
              refine lv_goto (tgt := 125) hx hb dX2_bestForOne_120 (by decide) ?_
              refine lv_istore (lv' := [(4, .int (iI (z97))), (7, .int (iI (z97))), (6, .int (iI (v61))), (5, .int (iI (k))), (3, .int (iI (z5))), (0, .ref g0), (1, .int (iI (g))), (2, .int (iI (m)))]) hx hb dX2_bestForOne_125 hl (by decide) rfl (fun ls hl => ?_)
              refine lv_iinc (v := iI (k + 1)) (lv' := [(5, .int (iI (k + 1))), (4, .int (iI (z97))), (7, .int (iI (z97))), (6, .int (iI (v61))), (3, .int (iI (z5))), (0, .ref g0), (1, .int (iI (g))), (2, .int (iI (m)))]) hx hb dX2_bestForOne_127 hl (k := 3) rfl (iI_add _ _) (by decide) rfl (fun ls hl => ?_)
              refine lv_goto (tgt := 35) hx hb dX2_bestForOne_130 (by decide) ?_
              exact ih_35 (4 * z5 + 4 - (k + 1) : Int).toNat (nlt (by omega) hd_35 (by omega)) (z97) (k + 1) (Int.toNat_of_nonneg (by omega)) (by omega) (by have ey := chGn_yes (R := ch tu 1 g) (P := P) (a := z5) (m := m) (j := k - 4 * z5) (by omega) (by rw [show 4 * z5 + (k - 4 * z5) = k by omega]; omega); rw [show 4 * z5 + (k - 4 * z5) = k by omega, ← hz74, ← hz97, ← hbst.1] at ey; refine ⟨?_, by omega⟩; rw [show k + 1 - 4 * z5 = (k - 4 * z5) + 1 by omega, ey]; split <;> omega) _ _ hP hD hS ls (lv_sub hl [0, 1, 4, 5, 6, 7] rfl)
    exact lp_35 (4 * z5 + 4 - ((4) * (z5)) : Int).toNat (0) ((4) * (z5)) (Int.toNat_of_nonneg (by omega)) (by omega) (⟨by rw [show (4 : Int) * z5 - 4 * z5 = 0 by omega]; exact (chGn_0 (by rw [← hz13]; exact h16)).symm, by omega⟩) _ _ hP hD hS ls (lv_sub hl [0, 1, 2, 3, 4, 5] rfl)
  · refine lv_aload_n hx hb dX2_bestForOne_19 rfl (lv_at hl 1 rfl) ?_
    refine lv_iload_n hx hb dX2_bestForOne_20 rfl (lv_at hl 2 rfl) ?_
    refine r_callV (As := [.int (iI (g))]) (rest := []) S (c_X2_chanceOfOne l D cI cL tw (g0) (g1) (g2) (g3) (tu) (ph) (mo) (gc) (th) (P) (C) (g) (hB) (by omega) (by omega)) gX2_bestForOne_X2_chanceOfOne rfl rfl rfl ⟨rfl, f_X2_chanceOfOne⟩ hR (Nat.le_of_ble_eq_true rfl) (Nat.le_of_ble_eq_true rfl) (hE.kept hS.2.1) hP [0, 1, 2, 3] rfl 0 rfl rfl rfl hl.1 rfl (Nat.le_of_ble_eq_true rfl) dX2_bestForOne_21 ⟨Nat.zero_le _, Nat.zero_le _⟩ (fun z21 hz21 => ?_)
    have rz21 := ch_rng1 tu g P
    rw [← hz21] at rz21
    refine lv_goto (tgt := 28) hx hb dX2_bestForOne_24 (by decide) ?_
    refine lv_istore (lv' := [(4, .int (iI (z21))), (3, .int (iI (z5))), (0, .ref g0), (1, .int (iI (g))), (2, .int (iI (m)))]) hx hb dX2_bestForOne_28 hl (by decide) rfl (fun ls hl => ?_)
    refine r_iconst hx hb dX2_bestForOne_30 ?_
    refine lv_iload_n hx hb dX2_bestForOne_31 rfl (lv_at hl 1 rfl) ?_
    refine r_imul hx hb dX2_bestForOne_32 ?_
    refine lv_istore (lv' := [(5, .int (iI ((4) * (z5)))), (4, .int (iI (z21))), (3, .int (iI (z5))), (0, .ref g0), (1, .int (iI (g))), (2, .int (iI (m)))]) hx hb dX2_bestForOne_33 hl (by decide) rfl (fun ls hl => ?_)
    have lp_35 : ∀ (d_35 : Nat) (best : Int) (k : Int), (d_35 : Int) = 4 * z5 + 4 - k → (4 * z5 ≤ k ∧ k ≤ 4 * z5 + 4) → (best = chGn (ch tu 1 g) P z5 m (k - 4 * z5) ∧ 0 ≤ best ∧ best ≤ 64) → ∀ (H : Heap) (locs : List Loc), va_P D vwCl [(g0, .inr (2, [.ref g1, .int (iI (tu)), .int (iI (ph)), .int (iI (mo)), .int (iI (gc)), .ref g2, .ref g3, .int (iI (th))])), (g1, .inl (cI, 16, .inl (aI P))), (g2, .inl (cI, 4, .inl (aI C))), (g3, .inl (cI, 7, .inl (aI wyI)))] H → va_D A [(g0, .inr (2, [.ref g1, .int (iI (tu)), .int (iI (ph)), .int (iI (mo)), .int (iI (gc)), .ref g2, .ref g3, .int (iI (th))])), (g1, .inl (cI, 16, .inl (aI P))), (g2, .inl (cI, 4, .inl (aI C))), (g3, .inl (cI, 7, .inl (aI wyI)))] → va_S A H0 H locs → ∀ ls : Array Slot, lv_has ls 8 [(5, .int (iI (k))), (4, .int (iI (best))), (3, .int (iI (z5))), (0, .ref g0), (1, .int (iI (g))), (2, .int (iI (m)))] → W p l e R s mt args below meth c H locs 0 0 Q (F0 mt 35 ls []) := by
      intro d_35
      induction d_35 using Nat.strongRecOn with
      | ind d_35 ih_35 =>
      intro best k hd_35 hk hbst H locs hP hD hS ls hl
      refine lv_iload hx hb dX2_bestForOne_35 (lv_at hl 0 rfl) ?_
      refine r_iconst hx hb dX2_bestForOne_37 ?_
      refine lv_iload_n hx hb dX2_bestForOne_38 rfl (lv_at hl 2 rfl) ?_
      refine r_imul hx hb dX2_bestForOne_39 ?_
      refine r_iconst hx hb dX2_bestForOne_40 ?_
      refine r_iadd hx hb dX2_bestForOne_41 ?_
      refine r_icmp_ge (tgt := 133) hx hb dX2_bestForOne_42 (by decide) (by unfold rI; omega) (by unfold rI; omega) (fun h42 => ?_) (fun h42 => ?_)
      · refine lv_iload hx hb dX2_bestForOne_133 (lv_at hl 1 rfl) ?_
        exact hret (best) () _ _ _ _ dX2_bestForOne_135 (by have e : k = 4 * z5 + 4 := (by omega); subst e; rw [← hz5]; have q := hbst.1; rw [show 4 * z5 + 4 - 4 * z5 = (4 : Int) by omega] at q; exact q) hP hD hS
      · refine lv_aload_n hx hb dX2_bestForOne_45 rfl (lv_at hl 3 rfl) ?_
        refine lv_iload hx hb dX2_bestForOne_46 (lv_at hl 0 rfl) ?_
        refine lv_iload_n hx hb dX2_bestForOne_48 rfl (lv_at hl 5 rfl) ?_
        refine r_callV (As := [.int (iI (k)), .int (iI (m))]) (rest := []) S (c_X2_can l D cI cL tw (g0) (g1) (g2) (g3) (tu) (ph) (mo) (gc) (th) (P) (C) (k) (m) (hB) (by omega) (by omega)) gX2_bestForOne_X2_can rfl rfl rfl ⟨rfl, f_X2_can⟩ hR (Nat.le_of_ble_eq_true rfl) (Nat.le_of_ble_eq_true rfl) (hE.kept hS.2.1) hP [0, 1, 2, 3] rfl 0 rfl rfl rfl hl.1 rfl (Nat.le_of_ble_eq_true rfl) dX2_bestForOne_49 ⟨Nat.zero_le _, Nat.zero_le _⟩ (fun z49 hz49 => ?_)
        obtain ⟨hz49, rz49⟩ := hz49
        refine r_if_le (tgt := 127) hx hb dX2_bestForOne_52 (by decide) (by unfold rI; omega) (fun h52 => ?_) (fun h52 => ?_)
        · refine lv_iinc (v := iI (k + 1)) (lv' := [(5, .int (iI (k + 1))), (4, .int (iI (best))), (3, .int (iI (z5))), (0, .ref g0), (1, .int (iI (g))), (2, .int (iI (m)))]) hx hb dX2_bestForOne_127 hl (k := 0) rfl (iI_add _ _) (by decide) rfl (fun ls hl => ?_)
          refine lv_goto (tgt := 35) hx hb dX2_bestForOne_130 (by decide) ?_
          exact ih_35 (4 * z5 + 4 - (k + 1) : Int).toNat (nlt (by omega) hd_35 (by omega)) (best) (k + 1) (Int.toNat_of_nonneg (by omega)) (by omega) (by refine ⟨?_, by omega⟩; rw [show k + 1 - 4 * z5 = (k - 4 * z5) + 1 by omega, chGn_no (by omega) (by rw [show 4 * z5 + (k - 4 * z5) = k by omega]; omega)]; exact hbst.1) _ _ hP hD hS ls (lv_sub hl [0, 1, 2, 3, 4, 5] rfl)
        · refine lv_aload_n hx hb dX2_bestForOne_55 rfl (lv_at hl 3 rfl) ?_
          refine va_get (D := D) (ci := 2) (v := .ref g1) (C := RX2) (T := TX2) (N := 8) hx hb hts mu_X2_bestForOne_X2 hown hE.1 hP 0 rfl rfl 0 (by decide) (hts _ mw_X2_bestForOne_2) (fun _ h9 => h9) rfl dX2_bestForOne_56 ?_
          refine lv_iload hx hb dX2_bestForOne_59 (lv_at hl 0 rfl) ?_
          refine r_iald hx hb hE.1 hP 1 rfl (i := k) (by omega) (by omega) (by decide) dX2_bestForOne_61 ?_
          obtain ⟨v61, ev61⟩ : ∃ v : Int, v = P (k) := ⟨_, rfl⟩
          have gv61 := hB (k)
          refine r_top v61 ev61.symm ?_
          rw [← ev61] at gv61
          refine lv_istore (lv' := [(6, .int (iI (v61))), (5, .int (iI (k))), (4, .int (iI (best))), (3, .int (iI (z5))), (0, .ref g0), (1, .int (iI (g))), (2, .int (iI (m)))]) hx hb dX2_bestForOne_62 hl (by decide) rfl (fun ls hl => ?_)
          refine lv_aload_n hx hb dX2_bestForOne_64 rfl (lv_at hl 4 rfl) ?_
          refine va_get (D := D) (ci := 2) (v := .ref g1) (C := RX2) (T := TX2) (N := 8) hx hb hts mu_X2_bestForOne_X2 hown hE.1 hP 0 rfl rfl 0 (by decide) (hts _ mw_X2_bestForOne_2) (fun _ h9 => h9) rfl dX2_bestForOne_65 ?_
          refine lv_iload hx hb dX2_bestForOne_68 (lv_at hl 1 rfl) ?_
          refine lv_aload_n hx hb dX2_bestForOne_70 rfl (lv_at hl 4 rfl) ?_
          refine lv_iload hx hb dX2_bestForOne_71 (lv_at hl 1 rfl) ?_
          refine lv_iload_n hx hb dX2_bestForOne_73 rfl (lv_at hl 6 rfl) ?_
          refine r_callV (As := [.int (iI (k)), .int (iI (m))]) (rest := [.int (iI (k)), .ref g1]) S (c_X2_target l D cI cL tw (g0) (g1) (g2) (g3) (tu) (ph) (mo) (gc) (th) (P) (C) (k) (m) (hB) (by omega) (by omega)) gX2_bestForOne_X2_target rfl rfl rfl ⟨rfl, f_X2_target⟩ hR (Nat.le_of_ble_eq_true rfl) (Nat.le_of_ble_eq_true rfl) (hE.kept hS.2.1) hP [0, 1, 2, 3] rfl 0 rfl rfl rfl hl.1 rfl (Nat.le_of_ble_eq_true rfl) dX2_bestForOne_74 ⟨Nat.zero_le _, Nat.zero_le _⟩ (fun z74 hz74 => ?_)
          obtain ⟨hz74, rz74⟩ := hz74
          refine r_iast hx hb hE.1 hP hD hS 1 (P := P) rfl (i := k) (v := z74) (by omega) (by omega) (by decide) (ws1 := [(g0, .inr (2, [.ref g1, .int (iI (tu)), .int (iI (ph)), .int (iI (mo)), .int (iI (gc)), .ref g2, .ref g3, .int (iI (th))])), (g1, .inl (cI, 16, .inl (aI (uI P (k) (z74))))), (g2, .inl (cI, 4, .inl (aI C))), (g3, .inl (cI, 7, .inl (aI wyI)))]) rfl dX2_bestForOne_77 (fun H locs hP hD hS => ?_)
          refine lv_aload_n hx hb dX2_bestForOne_78 rfl (lv_at hl 4 rfl) ?_
          refine lv_aload_n hx hb dX2_bestForOne_79 rfl (lv_at hl 4 rfl) ?_
          refine va_get (D := D) (ci := 2) (v := .int (iI (tu))) (C := RX2) (T := TX2) (N := 8) hx hb hts mu_X2_bestForOne_X2 hown hE.1 hP 0 rfl rfl 1 (by decide) (hts _ mw_X2_bestForOne_0) (fun _ h9 => h9) rfl dX2_bestForOne_80 ?_
          refine r_iconst hx hb dX2_bestForOne_83 ?_
          refine r_irem hx hb dX2_bestForOne_84 (by omega) (by omega) ?_
          refine r_callV (As := [.int (iI ((tu) % (2)))]) (rest := []) S (c_X2_isWon l D cI cL tw (g0) (g1) (g2) (g3) (tu) (ph) (mo) (gc) (th) ((uI P (k) (z74))) (C) ((tu) % (2)) (uI_rng hB (by omega)) (by omega)) gX2_bestForOne_X2_isWon rfl rfl rfl ⟨rfl, f_X2_isWon⟩ hR (Nat.le_of_ble_eq_true rfl) (Nat.le_of_ble_eq_true rfl) (hE.kept hS.2.1) hP [0, 1, 2, 3] rfl 0 rfl rfl rfl hl.1 rfl (Nat.le_of_ble_eq_true rfl) dX2_bestForOne_85 ⟨Nat.zero_le _, Nat.zero_le _⟩ (fun z85 hz85 => ?_)
          rcases hz85 with ⟨rfl, hz85⟩ | ⟨rfl, hz85⟩
          · refine r_if_eq (tgt := 95) hx hb dX2_bestForOne_88 (by decide) (by unfold rI; decide) (fun h9 => absurd h9 (by omega)) (fun h88 => ?_)
            refine r_iconst hx hb dX2_bestForOne_91 ?_
            refine lv_goto (tgt := 100) hx hb dX2_bestForOne_92 (by decide) ?_
            refine lv_istore (lv' := [(7, .int (iI (0))), (6, .int (iI (v61))), (5, .int (iI (k))), (4, .int (iI (best))), (3, .int (iI (z5))), (0, .ref g0), (1, .int (iI (g))), (2, .int (iI (m)))]) hx hb dX2_bestForOne_100 hl (by decide) rfl (fun ls hl => ?_)
            refine lv_aload_n hx hb dX2_bestForOne_102 rfl (lv_at hl 5 rfl) ?_
            refine va_get (D := D) (ci := 2) (v := .ref g1) (C := RX2) (T := TX2) (N := 8) hx hb hts mu_X2_bestForOne_X2 hown hE.1 hP 0 rfl rfl 0 (by decide) (hts _ mw_X2_bestForOne_2) (fun _ h9 => h9) rfl dX2_bestForOne_103 ?_
            refine lv_iload hx hb dX2_bestForOne_106 (lv_at hl 2 rfl) ?_
            refine lv_iload hx hb dX2_bestForOne_108 (lv_at hl 1 rfl) ?_
            refine r_iast hx hb hE.1 hP hD hS 1 (P := (uI P (k) (z74))) rfl (i := k) (v := v61) (by omega) (by omega) (by decide) (ws1 := [(g0, .inr (2, [.ref g1, .int (iI (tu)), .int (iI (ph)), .int (iI (mo)), .int (iI (gc)), .ref g2, .ref g3, .int (iI (th))])), (g1, .inl (cI, 16, .inl (aI (uI (uI P (k) (z74)) (k) (v61))))), (g2, .inl (cI, 4, .inl (aI C))), (g3, .inl (cI, 7, .inl (aI wyI)))]) rfl dX2_bestForOne_110 (fun H locs hP hD hS => ?_)
            have e9 : uI (uI P k z74) k v61 = P := by rw [ev61]; exact uI_back _ _ _
            rw [e9] at hP hD
            refine lv_iload hx hb dX2_bestForOne_111 (lv_at hl 0 rfl) ?_
            refine lv_iload hx hb dX2_bestForOne_113 (lv_at hl 3 rfl) ?_
            refine r_icmp_le (tgt := 123) hx hb dX2_bestForOne_115 (by decide) (by unfold rI; decide) (by unfold rI; omega) (fun h115 => ?_) (fun h115 => ?_)
            · refine lv_iload hx hb dX2_bestForOne_123 (lv_at hl 3 rfl) ?_
              refine lv_istore (lv' := [(4, .int (iI (best))), (7, .int (iI (0))), (6, .int (iI (v61))), (5, .int (iI (k))), (3, .int (iI (z5))), (0, .ref g0), (1, .int (iI (g))), (2, .int (iI (m)))]) hx hb dX2_bestForOne_125 hl (by decide) rfl (fun ls hl => ?_)
              refine lv_iinc (v := iI (k + 1)) (lv' := [(5, .int (iI (k + 1))), (4, .int (iI (best))), (7, .int (iI (0))), (6, .int (iI (v61))), (3, .int (iI (z5))), (0, .ref g0), (1, .int (iI (g))), (2, .int (iI (m)))]) hx hb dX2_bestForOne_127 hl (k := 3) rfl (iI_add _ _) (by decide) rfl (fun ls hl => ?_)
              refine lv_goto (tgt := 35) hx hb dX2_bestForOne_130 (by decide) ?_
              exact ih_35 (4 * z5 + 4 - (k + 1) : Int).toNat (nlt (by omega) hd_35 (by omega)) (best) (k + 1) (Int.toNat_of_nonneg (by omega)) (by omega) (by have ey := chGn_yes (R := ch tu 1 g) (P := P) (a := z5) (m := m) (j := k - 4 * z5) (by omega) (by rw [show 4 * z5 + (k - 4 * z5) = k by omega]; omega); rw [show 4 * z5 + (k - 4 * z5) = k by omega, ← hz74, ch_won ((won_team (by omega)).mpr hz85), ← hbst.1] at ey; refine ⟨?_, by omega⟩; rw [show k + 1 - 4 * z5 = (k - 4 * z5) + 1 by omega, ey]; split <;> omega) _ _ hP hD hS ls (lv_sub hl [0, 1, 4, 5, 6, 7] rfl)
            · refine lv_iload hx hb dX2_bestForOne_118 (lv_at hl 0 rfl) ?_
              refine lv_goto (tgt := 125) hx hb dX2_bestForOne_120 (by decide) ?_
              refine lv_istore (lv' := [(4, .int (iI (0))), (7, .int (iI (0))), (6, .int (iI (v61))), (5, .int (iI (k))), (3, .int (iI (z5))), (0, .ref g0), (1, .int (iI (g))), (2, .int (iI (m)))]) hx hb dX2_bestForOne_125 hl (by decide) rfl (fun ls hl => ?_)
              refine lv_iinc (v := iI (k + 1)) (lv' := [(5, .int (iI (k + 1))), (4, .int (iI (0))), (7, .int (iI (0))), (6, .int (iI (v61))), (3, .int (iI (z5))), (0, .ref g0), (1, .int (iI (g))), (2, .int (iI (m)))]) hx hb dX2_bestForOne_127 hl (k := 3) rfl (iI_add _ _) (by decide) rfl (fun ls hl => ?_)
              refine lv_goto (tgt := 35) hx hb dX2_bestForOne_130 (by decide) ?_
              exact ih_35 (4 * z5 + 4 - (k + 1) : Int).toNat (nlt (by omega) hd_35 (by omega)) (0) (k + 1) (Int.toNat_of_nonneg (by omega)) (by omega) (by have ey := chGn_yes (R := ch tu 1 g) (P := P) (a := z5) (m := m) (j := k - 4 * z5) (by omega) (by rw [show 4 * z5 + (k - 4 * z5) = k by omega]; omega); rw [show 4 * z5 + (k - 4 * z5) = k by omega, ← hz74, ch_won ((won_team (by omega)).mpr hz85), ← hbst.1] at ey; refine ⟨?_, by omega⟩; rw [show k + 1 - 4 * z5 = (k - 4 * z5) + 1 by omega, ey]; split <;> omega) _ _ hP hD hS ls (lv_sub hl [0, 1, 4, 5, 6, 7] rfl)
          · refine r_if_eq (tgt := 95) hx hb dX2_bestForOne_88 (by decide) (by unfold rI; decide) (fun h88 => ?_) (fun h9 => absurd h9 (by omega))
            refine lv_aload_n hx hb dX2_bestForOne_95 rfl (lv_at hl 4 rfl) ?_
            refine lv_iload_n hx hb dX2_bestForOne_96 rfl (lv_at hl 5 rfl) ?_
            refine r_callV (As := [.int (iI (g))]) (rest := []) S (c_X2_chanceOfOne l D cI cL tw (g0) (g1) (g2) (g3) (tu) (ph) (mo) (gc) (th) ((uI P (k) (z74))) (C) (g) (uI_rng hB (by omega)) (by omega) (by omega)) gX2_bestForOne_X2_chanceOfOne rfl rfl rfl ⟨rfl, f_X2_chanceOfOne⟩ hR (Nat.le_of_ble_eq_true rfl) (Nat.le_of_ble_eq_true rfl) (hE.kept hS.2.1) hP [0, 1, 2, 3] rfl 0 rfl rfl rfl hl.1 rfl (Nat.le_of_ble_eq_true rfl) dX2_bestForOne_97 ⟨Nat.zero_le _, Nat.zero_le _⟩ (fun z97 hz97 => ?_)
            have rz97 := ch_rng1 tu g (uI P (k) (z74))
            rw [← hz97] at rz97
            refine lv_istore (lv' := [(7, .int (iI (z97))), (6, .int (iI (v61))), (5, .int (iI (k))), (4, .int (iI (best))), (3, .int (iI (z5))), (0, .ref g0), (1, .int (iI (g))), (2, .int (iI (m)))]) hx hb dX2_bestForOne_100 hl (by decide) rfl (fun ls hl => ?_)
            refine lv_aload_n hx hb dX2_bestForOne_102 rfl (lv_at hl 5 rfl) ?_
            refine va_get (D := D) (ci := 2) (v := .ref g1) (C := RX2) (T := TX2) (N := 8) hx hb hts mu_X2_bestForOne_X2 hown hE.1 hP 0 rfl rfl 0 (by decide) (hts _ mw_X2_bestForOne_2) (fun _ h9 => h9) rfl dX2_bestForOne_103 ?_
            refine lv_iload hx hb dX2_bestForOne_106 (lv_at hl 2 rfl) ?_
            refine lv_iload hx hb dX2_bestForOne_108 (lv_at hl 1 rfl) ?_
            refine r_iast hx hb hE.1 hP hD hS 1 (P := (uI P (k) (z74))) rfl (i := k) (v := v61) (by omega) (by omega) (by decide) (ws1 := [(g0, .inr (2, [.ref g1, .int (iI (tu)), .int (iI (ph)), .int (iI (mo)), .int (iI (gc)), .ref g2, .ref g3, .int (iI (th))])), (g1, .inl (cI, 16, .inl (aI (uI (uI P (k) (z74)) (k) (v61))))), (g2, .inl (cI, 4, .inl (aI C))), (g3, .inl (cI, 7, .inl (aI wyI)))]) rfl dX2_bestForOne_110 (fun H locs hP hD hS => ?_)
            have e9 : uI (uI P k z74) k v61 = P := by rw [ev61]; exact uI_back _ _ _
            rw [e9] at hP hD
            refine lv_iload hx hb dX2_bestForOne_111 (lv_at hl 0 rfl) ?_
            refine lv_iload hx hb dX2_bestForOne_113 (lv_at hl 3 rfl) ?_
            refine r_icmp_le (tgt := 123) hx hb dX2_bestForOne_115 (by decide) (by unfold rI; omega) (by unfold rI; omega) (fun h115 => ?_) (fun h115 => ?_)
            · refine lv_iload hx hb dX2_bestForOne_123 (lv_at hl 3 rfl) ?_
              refine lv_istore (lv' := [(4, .int (iI (best))), (7, .int (iI (z97))), (6, .int (iI (v61))), (5, .int (iI (k))), (3, .int (iI (z5))), (0, .ref g0), (1, .int (iI (g))), (2, .int (iI (m)))]) hx hb dX2_bestForOne_125 hl (by decide) rfl (fun ls hl => ?_)
              refine lv_iinc (v := iI (k + 1)) (lv' := [(5, .int (iI (k + 1))), (4, .int (iI (best))), (7, .int (iI (z97))), (6, .int (iI (v61))), (3, .int (iI (z5))), (0, .ref g0), (1, .int (iI (g))), (2, .int (iI (m)))]) hx hb dX2_bestForOne_127 hl (k := 3) rfl (iI_add _ _) (by decide) rfl (fun ls hl => ?_)
              refine lv_goto (tgt := 35) hx hb dX2_bestForOne_130 (by decide) ?_
              exact ih_35 (4 * z5 + 4 - (k + 1) : Int).toNat (nlt (by omega) hd_35 (by omega)) (best) (k + 1) (Int.toNat_of_nonneg (by omega)) (by omega) (by have ey := chGn_yes (R := ch tu 1 g) (P := P) (a := z5) (m := m) (j := k - 4 * z5) (by omega) (by rw [show 4 * z5 + (k - 4 * z5) = k by omega]; omega); rw [show 4 * z5 + (k - 4 * z5) = k by omega, ← hz74, ← hz97, ← hbst.1] at ey; refine ⟨?_, by omega⟩; rw [show k + 1 - 4 * z5 = (k - 4 * z5) + 1 by omega, ey]; split <;> omega) _ _ hP hD hS ls (lv_sub hl [0, 1, 4, 5, 6, 7] rfl)
            · refine lv_iload hx hb dX2_bestForOne_118 (lv_at hl 0 rfl) ?_
              refine lv_goto (tgt := 125) hx hb dX2_bestForOne_120 (by decide) ?_
              refine lv_istore (lv' := [(4, .int (iI (z97))), (7, .int (iI (z97))), (6, .int (iI (v61))), (5, .int (iI (k))), (3, .int (iI (z5))), (0, .ref g0), (1, .int (iI (g))), (2, .int (iI (m)))]) hx hb dX2_bestForOne_125 hl (by decide) rfl (fun ls hl => ?_)
              refine lv_iinc (v := iI (k + 1)) (lv' := [(5, .int (iI (k + 1))), (4, .int (iI (z97))), (7, .int (iI (z97))), (6, .int (iI (v61))), (3, .int (iI (z5))), (0, .ref g0), (1, .int (iI (g))), (2, .int (iI (m)))]) hx hb dX2_bestForOne_127 hl (k := 3) rfl (iI_add _ _) (by decide) rfl (fun ls hl => ?_)
              refine lv_goto (tgt := 35) hx hb dX2_bestForOne_130 (by decide) ?_
              exact ih_35 (4 * z5 + 4 - (k + 1) : Int).toNat (nlt (by omega) hd_35 (by omega)) (z97) (k + 1) (Int.toNat_of_nonneg (by omega)) (by omega) (by have ey := chGn_yes (R := ch tu 1 g) (P := P) (a := z5) (m := m) (j := k - 4 * z5) (by omega) (by rw [show 4 * z5 + (k - 4 * z5) = k by omega]; omega); rw [show 4 * z5 + (k - 4 * z5) = k by omega, ← hz74, ← hz97, ← hbst.1] at ey; refine ⟨?_, by omega⟩; rw [show k + 1 - 4 * z5 = (k - 4 * z5) + 1 by omega, ey]; split <;> omega) _ _ hP hD hS ls (lv_sub hl [0, 1, 4, 5, 6, 7] rfl)
    exact lp_35 (4 * z5 + 4 - ((4) * (z5)) : Int).toNat (z21) ((4) * (z5)) (Int.toNat_of_nonneg (by omega)) (by omega) (⟨by rw [chGn_z (by rw [← hz13]; exact h16)]; exact hz21, by omega⟩) _ _ hP hD hS ls (lv_sub hl [0, 1, 2, 3, 4, 5] rfl)

set_option maxRecDepth 20000 in
theorem mw_X2_chanceOfTwo_0 : (.fieldLink RX2 54 "PachisiYardModel" "turn" "I" : Cond) ∈ wsX2_chanceOfTwo := by decide +kernel
set_option maxRecDepth 20000 in
theorem mu_X2_chanceOfTwo_X2 : ∀ w ∈ wsX20, w ∈ wsX2_chanceOfTwo := by decide +kernel
set_option maxRecDepth 20000 in
theorem mw_X2_chanceOfTwo_2 : (.fieldLink RX2 16 "PachisiYardModel" "many" "[I" : Cond) ∈ wsX2_chanceOfTwo := by decide +kernel
theorem f_X2_chanceOfTwo : yX2_chanceOfTwo.cls ≠ "java/lang/invoke/MethodHandle" ∧ yX2_chanceOfTwo.cls ≠ "java/lang/invoke/VarHandle" ∧ (parseMethodDescriptor yX2_chanceOfTwo.desc).map (fun d => d.parameters.length) = some 1 := by decide +kernel
set_option maxHeartbeats 4000000 in
set_option maxRecDepth 100000 in
theorem c_X2_chanceOfTwo (l : Launch) (D : va_G) (cI cL : ClassId) (tw : Nat) (g0 : Nat) (g1 : Nat) (g2 : Nat) (g3 : Nat) (tu : Int) (ph : Int) (mo : Int) (gc : Int) (th : Int) (P : Int → Int) (C : Int → Int) (g : Int) (hB : ∀ i, 0 ≤ P i ∧ P i ≤ 72) (htu : 0 ≤ tu ∧ tu ≤ 3) (hg : 0 ≤ g ∧ g ≤ 2) : RWi l yX2_chanceOfTwo wsX2_chanceOfTwo { frames := 6, cells := 0, slots := 0, locals := 151 } D cI cL tw [.ref g0, .int (iI (g))] [(g0, .inr (2, [.ref g1, .int (iI (tu)), .int (iI (ph)), .int (iI (mo)), .int (iI (gc)), .ref g2, .ref g3, .int (iI (th))])), (g1, .inl (cI, 16, .inl (aI P))), (g2, .inl (cI, 4, .inl (aI C))), (g3, .inl (cI, 7, .inl (aI wyI)))] (fun (z : Int) (u : Unit) => z = ch tu 2 g P) (fun u : Unit => [(g0, .inr (2, [.ref g1, .int (iI (tu)), .int (iI (ph)), .int (iI (mo)), .int (iI (gc)), .ref g2, .ref g3, .int (iI (th))])), (g1, .inl (cI, 16, .inl (aI P))), (g2, .inl (cI, 4, .inl (aI C))), (g3, .inl (cI, 7, .inl (aI wyI)))]) := by
  refine rwi_of (cc := cX2_chanceOfTwo) (maxL := 5) (rt := .int) (own := RX2) (by decide) rfl rfl (Or.inl rfl) (Nat.le_of_ble_eq_true rfl) ?_
  intro p e R s mt args below meth c H0 Q ls A S hR hE hP hD hS hA hl hret
  obtain ⟨hx, hb, hml, hown, hts⟩ := id S
  have hl : lv_has ls 5 [(0, .ref g0), (1, .int (iI (g)))] := hl
  refine r_iconst hx hb dX2_chanceOfTwo_0 ?_
  refine lv_istore_n (lv' := [(2, .int (iI (0))), (0, .ref g0), (1, .int (iI (g)))]) hx hb dX2_chanceOfTwo_1 rfl hl (by decide) rfl (fun ls hl => ?_)
  refine r_iconst hx hb dX2_chanceOfTwo_2 ?_
  refine lv_istore_n (lv' := [(3, .int (iI (0))), (2, .int (iI (0))), (0, .ref g0), (1, .int (iI (g)))]) hx hb dX2_chanceOfTwo_3 rfl hl (by decide) rfl (fun ls hl => ?_)
  have lp_4 : ∀ (d_4 : Nat) (n : Int) (k : Int), (d_4 : Int) = 7 - k → (0 ≤ k ∧ k ≤ 7) → (n = sZ (fun m => wyI m * chA tu g 1 (ch tu 1) P m) k) → ∀ (H : Heap) (locs : List Loc), va_P D vwCl [(g0, .inr (2, [.ref g1, .int (iI (tu)), .int (iI (ph)), .int (iI (mo)), .int (iI (gc)), .ref g2, .ref g3, .int (iI (th))])), (g1, .inl (cI, 16, .inl (aI P))), (g2, .inl (cI, 4, .inl (aI C))), (g3, .inl (cI, 7, .inl (aI wyI)))] H → va_D A [(g0, .inr (2, [.ref g1, .int (iI (tu)), .int (iI (ph)), .int (iI (mo)), .int (iI (gc)), .ref g2, .ref g3, .int (iI (th))])), (g1, .inl (cI, 16, .inl (aI P))), (g2, .inl (cI, 4, .inl (aI C))), (g3, .inl (cI, 7, .inl (aI wyI)))] → va_S A H0 H locs → ∀ ls : Array Slot, lv_has ls 5 [(3, .int (iI (k))), (2, .int (iI (n))), (0, .ref g0), (1, .int (iI (g)))] → W p l e R s mt args below meth c H locs 0 0 Q (F0 mt 4 ls []) := by
    intro d_4
    induction d_4 using Nat.strongRecOn with
    | ind d_4 ih_4 =>
    intro n k hd_4 hk hn H locs hP hD hS ls hl
    refine lv_iload_n hx hb dX2_chanceOfTwo_4 rfl (lv_at hl 0 rfl) ?_
    refine r_bipush hx hb dX2_chanceOfTwo_5 (by decide) ?_
    refine r_icmp_ge (tgt := 102) hx hb dX2_chanceOfTwo_7 (by decide) (by unfold rI; omega) (by unfold rI; decide) (fun h7 => ?_) (fun h7 => ?_)
    · refine lv_iload_n hx hb dX2_chanceOfTwo_102 rfl (lv_at hl 1 rfl) ?_
      exact hret (n) () _ _ _ _ dX2_chanceOfTwo_103 (by have e : k = 7 := (by omega); subst e; exact hn) hP hD hS
    · refine lv_iload_n hx hb dX2_chanceOfTwo_10 rfl (lv_at hl 0 rfl) ?_
      refine r_callS (As := [.int (iI (k))]) (rest := []) S (c_X2_isGrace l D cI cL tw (k) (by omega)) gX2_chanceOfTwo_X2_isGrace rfl rfl rfl f_X2_isGrace hR (Nat.le_of_ble_eq_true rfl) (Nat.le_of_ble_eq_true rfl) (hE.kept hS.2.1) rfl hl.1 rfl (Nat.le_of_ble_eq_true rfl) dX2_chanceOfTwo_11 ⟨Nat.zero_le _, Nat.zero_le _⟩ (fun z11 hz11 => ?_)
      rcases hz11 with ⟨rfl, hz11⟩ | ⟨rfl, hz11⟩
      · refine r_if_eq (tgt := 26) hx hb dX2_chanceOfTwo_14 (by decide) (by unfold rI; decide) (fun h9 => absurd h9 (by omega)) (fun h14 => ?_)
        refine lv_iload_n hx hb dX2_chanceOfTwo_17 rfl (lv_at hl 3 rfl) ?_
        refine r_iconst hx hb dX2_chanceOfTwo_18 ?_
        refine r_icmp_ne (tgt := 26) hx hb dX2_chanceOfTwo_19 (by decide) (by unfold rI; omega) (by unfold rI; decide) (fun h19 => ?_) (fun h19 => ?_)
        · refine r_iconst hx hb dX2_chanceOfTwo_26 ?_
          refine lv_istore (lv' := [(4, .int (iI (0))), (3, .int (iI (k))), (2, .int (iI (n))), (0, .ref g0), (1, .int (iI (g)))]) hx hb dX2_chanceOfTwo_27 hl (by decide) rfl (fun ls hl => ?_)
          refine lv_iload hx hb dX2_chanceOfTwo_29 (lv_at hl 0 rfl) ?_
          refine r_if_ne (tgt := 66) hx hb dX2_chanceOfTwo_31 (by decide) (by unfold rI; decide) (fun h9 => absurd h9 (by omega)) (fun h31 => ?_)
          refine lv_aload_n hx hb dX2_chanceOfTwo_34 rfl (lv_at hl 3 rfl) ?_
          refine lv_aload_n hx hb dX2_chanceOfTwo_35 rfl (lv_at hl 3 rfl) ?_
          refine lv_aload_n hx hb dX2_chanceOfTwo_36 rfl (lv_at hl 3 rfl) ?_
          refine va_get (D := D) (ci := 2) (v := .int (iI (tu))) (C := RX2) (T := TX2) (N := 8) hx hb hts mu_X2_chanceOfTwo_X2 hown hE.1 hP 0 rfl rfl 1 (by decide) (hts _ mw_X2_chanceOfTwo_0) (fun _ h9 => h9) rfl dX2_chanceOfTwo_37 ?_
          refine r_callV (As := [.int (iI (tu))]) (rest := [.ref g0]) S (c_X2_movesFor l D cI cL tw (g0) (g1) (g2) (g3) (tu) (ph) (mo) (gc) (th) (P) (C) (tu) (hB) (by omega)) gX2_chanceOfTwo_X2_movesFor rfl rfl rfl ⟨rfl, f_X2_movesFor⟩ hR (Nat.le_of_ble_eq_true rfl) (Nat.le_of_ble_eq_true rfl) (hE.kept hS.2.1) hP [0, 1, 2, 3] rfl 0 rfl rfl rfl hl.1 rfl (Nat.le_of_ble_eq_true rfl) dX2_chanceOfTwo_40 ⟨Nat.zero_le _, Nat.zero_le _⟩ (fun z40 hz40 => ?_)
          obtain ⟨hz40, rz40⟩ := hz40
          refine lv_iload_n hx hb dX2_chanceOfTwo_43 rfl (lv_at hl 1 rfl) ?_
          refine r_iconst hx hb dX2_chanceOfTwo_44 ?_
          refine r_callV (As := [.int (iI (z40)), .int (iI (k)), .int (iI (1))]) (rest := []) S (c_X2_does l D cI cL tw (g0) (g1) (g2) (g3) (tu) (ph) (mo) (gc) (th) (P) (C) (z40) (k) (1) (hB) (by omega) (by omega) (by omega)) gX2_chanceOfTwo_X2_does rfl rfl rfl ⟨rfl, f_X2_does⟩ hR (Nat.le_of_ble_eq_true rfl) (Nat.le_of_ble_eq_true rfl) (hE.kept hS.2.1) hP [0, 1, 2, 3] rfl 0 rfl rfl rfl hl.1 rfl (Nat.le_of_ble_eq_true rfl) dX2_chanceOfTwo_45 ⟨Nat.zero_le _, Nat.zero_le _⟩ (fun z45 hz45 => ?_)
          rcases hz45 with ⟨rfl, hz45⟩ | ⟨rfl, hz45⟩
          · refine r_if_eq (tgt := 66) hx hb dX2_chanceOfTwo_48 (by decide) (by unfold rI; decide) (fun h9 => absurd h9 (by omega)) (fun h48 => ?_)
            refine lv_iload_n hx hb dX2_chanceOfTwo_51 rfl (lv_at hl 2 rfl) ?_
            refine lv_aload_n hx hb dX2_chanceOfTwo_52 rfl (lv_at hl 3 rfl) ?_
            refine va_get (D := D) (ci := 2) (v := .ref g3) (C := RX2) (T := TX2) (N := 8) hx hb hts mu_X2_chanceOfTwo_X2 hown hE.1 hP 0 rfl rfl 6 (by decide) (hts _ mw_X2_chanceOfTwo_2) (fun _ h9 => h9) rfl dX2_chanceOfTwo_53 ?_
            refine lv_iload_n hx hb dX2_chanceOfTwo_56 rfl (lv_at hl 1 rfl) ?_
            refine r_iald hx hb hE.1 hP 3 rfl (i := k) (by omega) (by omega) (by decide) dX2_chanceOfTwo_57 ?_
            refine r_bipush hx hb dX2_chanceOfTwo_58 (by decide) ?_
            refine r_imul hx hb dX2_chanceOfTwo_60 ?_
            refine r_iadd hx hb dX2_chanceOfTwo_61 ?_
            refine lv_istore_n (lv' := [(2, .int (iI ((n) + ((wyI (k)) * (64))))), (4, .int (iI (0))), (3, .int (iI (k))), (0, .ref g0), (1, .int (iI (g)))]) hx hb dX2_chanceOfTwo_62 rfl hl (by decide) rfl (fun ls hl => ?_)
            refine lv_goto (tgt := 96) hx hb dX2_chanceOfTwo_63 (by decide) ?_
            refine lv_iinc (v := iI (k + 1)) (lv' := [(3, .int (iI (k + 1))), (2, .int (iI ((n) + ((wyI (k)) * (64))))), (4, .int (iI (0))), (0, .ref g0), (1, .int (iI (g)))]) hx hb dX2_chanceOfTwo_96 hl (k := 2) rfl (iI_add _ _) (by decide) rfl (fun ls hl => ?_)
            refine lv_goto (tgt := 4) hx hb dX2_chanceOfTwo_99 (by decide) ?_
            exact ih_4 (7 - (k + 1) : Int).toNat (nlt (by omega) hd_4 (by omega)) ((n) + ((wyI (k)) * (64))) (k + 1) (Int.toNat_of_nonneg (by omega)) (by omega) (by rw [sZ_s _ (by omega), ← hn]; show _ = n + wyI k * chA tu g 1 (ch tu 1) P k; rw [show chA tu g 1 (ch tu 1) P k = 64 from (chA_cap (by omega) (by rw [← hz40]; exact hz45)).trans (by decide)]) _ _ hP hD hS ls (lv_sub hl [0, 1, 3, 4] rfl)
          · refine r_if_eq (tgt := 66) hx hb dX2_chanceOfTwo_48 (by decide) (by unfold rI; decide) (fun h48 => ?_) (fun h9 => absurd h9 (by omega))
            refine lv_iload_n hx hb dX2_chanceOfTwo_66 rfl (lv_at hl 1 rfl) ?_
            refine r_callS (As := [.int (iI (k))]) (rest := []) S (c_X2_isGrace l D cI cL tw (k) (by omega)) gX2_chanceOfTwo_X2_isGrace rfl rfl rfl f_X2_isGrace hR (Nat.le_of_ble_eq_true rfl) (Nat.le_of_ble_eq_true rfl) (hE.kept hS.2.1) rfl hl.1 rfl (Nat.le_of_ble_eq_true rfl) dX2_chanceOfTwo_67 ⟨Nat.zero_le _, Nat.zero_le _⟩ (fun z67 hz67 => ?_)
            rcases hz67 with ⟨rfl, hz67⟩ | ⟨rfl, hz67⟩
            · refine r_if_eq (tgt := 96) hx hb dX2_chanceOfTwo_70 (by decide) (by unfold rI; decide) (fun h9 => absurd h9 (by omega)) (fun h70 => ?_)
              refine lv_iload hx hb dX2_chanceOfTwo_73 (lv_at hl 0 rfl) ?_
              refine r_if_ne (tgt := 96) hx hb dX2_chanceOfTwo_75 (by decide) (by unfold rI; decide) (fun h9 => absurd h9 (by omega)) (fun h75 => ?_)
              refine lv_iload_n hx hb dX2_chanceOfTwo_78 rfl (lv_at hl 2 rfl) ?_
              refine lv_aload_n hx hb dX2_chanceOfTwo_79 rfl (lv_at hl 3 rfl) ?_
              refine va_get (D := D) (ci := 2) (v := .ref g3) (C := RX2) (T := TX2) (N := 8) hx hb hts mu_X2_chanceOfTwo_X2 hown hE.1 hP 0 rfl rfl 6 (by decide) (hts _ mw_X2_chanceOfTwo_2) (fun _ h9 => h9) rfl dX2_chanceOfTwo_80 ?_
              refine lv_iload_n hx hb dX2_chanceOfTwo_83 rfl (lv_at hl 1 rfl) ?_
              refine r_iald hx hb hE.1 hP 3 rfl (i := k) (by omega) (by omega) (by decide) dX2_chanceOfTwo_84 ?_
              refine lv_aload_n hx hb dX2_chanceOfTwo_85 rfl (lv_at hl 3 rfl) ?_
              refine lv_iload_n hx hb dX2_chanceOfTwo_86 rfl (lv_at hl 4 rfl) ?_
              refine r_iconst hx hb dX2_chanceOfTwo_87 ?_
              refine r_iadd hx hb dX2_chanceOfTwo_88 ?_
              refine lv_iload_n hx hb dX2_chanceOfTwo_89 rfl (lv_at hl 1 rfl) ?_
              refine r_callVi (As := [.int (iI ((g) + (1))), .int (iI (k))]) (rest := [.int (iI (wyI (k))), .int (iI (n))]) (wr := []) S (c_X2_bestForOne l D cI cL tw (g0) (g1) (g2) (g3) (tu) (ph) (mo) (gc) (th) (P) (C) ((g) + (1)) (k) (hB) (by omega) (by omega) (by omega)) gX2_chanceOfTwo_X2_bestForOne rfl rfl rfl ⟨rfl, f_X2_bestForOne⟩ hR (Nat.le_of_ble_eq_true rfl) (Nat.le_of_ble_eq_true rfl) (hE.kept hS.2.1) hP hD hS hA [0, 1, 2, 3] [] rfl rfl (by decide) rfl (by decide) (by decide) 0 rfl rfl rfl hl.1 rfl (Nat.le_of_ble_eq_true rfl) dX2_chanceOfTwo_90 ⟨Nat.zero_le _, Nat.zero_le _⟩ (fun z90 u90 H locs hz90 hP hD hS => ?_)
              have hP : va_P D vwCl [(g0, .inr (2, [.ref g1, .int (iI (tu)), .int (iI (ph)), .int (iI (mo)), .int (iI (gc)), .ref g2, .ref g3, .int (iI (th))])), (g1, .inl (cI, 16, .inl (aI P))), (g2, .inl (cI, 4, .inl (aI C))), (g3, .inl (cI, 7, .inl (aI wyI)))] H := hP.sub [0, 1, 2, 3] rfl
              have hD : va_D A [(g0, .inr (2, [.ref g1, .int (iI (tu)), .int (iI (ph)), .int (iI (mo)), .int (iI (gc)), .ref g2, .ref g3, .int (iI (th))])), (g1, .inl (cI, 16, .inl (aI P))), (g2, .inl (cI, 4, .inl (aI C))), (g3, .inl (cI, 7, .inl (aI wyI)))] := hD.sub [0, 1, 2, 3] (by decide) rfl
              refine r_imul hx hb dX2_chanceOfTwo_93 ?_
              refine r_iadd hx hb dX2_chanceOfTwo_94 ?_
              refine lv_istore_n (lv' := [(2, .int (iI ((n) + ((wyI (k)) * (z90))))), (4, .int (iI (0))), (3, .int (iI (k))), (0, .ref g0), (1, .int (iI (g)))]) hx hb dX2_chanceOfTwo_95 rfl hl (by decide) rfl (fun ls hl => ?_)
              refine lv_iinc (v := iI (k + 1)) (lv' := [(3, .int (iI (k + 1))), (2, .int (iI ((n) + ((wyI (k)) * (z90))))), (4, .int (iI (0))), (0, .ref g0), (1, .int (iI (g)))]) hx hb dX2_chanceOfTwo_96 hl (k := 2) rfl (iI_add _ _) (by decide) rfl (fun ls hl => ?_)
              refine lv_goto (tgt := 4) hx hb dX2_chanceOfTwo_99 (by decide) ?_
              exact ih_4 (7 - (k + 1) : Int).toNat (nlt (by omega) hd_4 (by omega)) ((n) + ((wyI (k)) * (z90))) (k + 1) (Int.toNat_of_nonneg (by omega)) (by omega) (by rw [sZ_s _ (by omega), ← hn]; show _ = n + wyI k * chA tu g 1 (ch tu 1) P k; rw [show chA tu g 1 (ch tu 1) P k = z90 from (chA_go (by omega) (by rw [← hz40]; exact hz45) (by omega)).trans hz90.symm]) _ _ hP hD hS ls (lv_sub hl [0, 1, 3, 4] rfl)
            · exact absurd hz11 hz67
        · refine r_iconst hx hb dX2_chanceOfTwo_22 ?_
          refine lv_goto (tgt := 27) hx hb dX2_chanceOfTwo_23 (by decide) ?_
          refine lv_istore (lv' := [(4, .int (iI (1))), (3, .int (iI (k))), (2, .int (iI (n))), (0, .ref g0), (1, .int (iI (g)))]) hx hb dX2_chanceOfTwo_27 hl (by decide) rfl (fun ls hl => ?_)
          refine lv_iload hx hb dX2_chanceOfTwo_29 (lv_at hl 0 rfl) ?_
          refine r_if_ne (tgt := 66) hx hb dX2_chanceOfTwo_31 (by decide) (by unfold rI; decide) (fun h31 => ?_) (fun h9 => absurd h9 (by omega))
          refine lv_iload_n hx hb dX2_chanceOfTwo_66 rfl (lv_at hl 1 rfl) ?_
          refine r_callS (As := [.int (iI (k))]) (rest := []) S (c_X2_isGrace l D cI cL tw (k) (by omega)) gX2_chanceOfTwo_X2_isGrace rfl rfl rfl f_X2_isGrace hR (Nat.le_of_ble_eq_true rfl) (Nat.le_of_ble_eq_true rfl) (hE.kept hS.2.1) rfl hl.1 rfl (Nat.le_of_ble_eq_true rfl) dX2_chanceOfTwo_67 ⟨Nat.zero_le _, Nat.zero_le _⟩ (fun z67 hz67 => ?_)
          rcases hz67 with ⟨rfl, hz67⟩ | ⟨rfl, hz67⟩
          · refine r_if_eq (tgt := 96) hx hb dX2_chanceOfTwo_70 (by decide) (by unfold rI; decide) (fun h9 => absurd h9 (by omega)) (fun h70 => ?_)
            refine lv_iload hx hb dX2_chanceOfTwo_73 (lv_at hl 0 rfl) ?_
            refine r_if_ne (tgt := 96) hx hb dX2_chanceOfTwo_75 (by decide) (by unfold rI; decide) (fun h75 => ?_) (fun h9 => absurd h9 (by omega))
            refine lv_iinc (v := iI (k + 1)) (lv' := [(3, .int (iI (k + 1))), (4, .int (iI (1))), (2, .int (iI (n))), (0, .ref g0), (1, .int (iI (g)))]) hx hb dX2_chanceOfTwo_96 hl (k := 1) rfl (iI_add _ _) (by decide) rfl (fun ls hl => ?_)
            refine lv_goto (tgt := 4) hx hb dX2_chanceOfTwo_99 (by decide) ?_
            exact ih_4 (7 - (k + 1) : Int).toNat (nlt (by omega) hd_4 (by omega)) (n) (k + 1) (Int.toNat_of_nonneg (by omega)) (by omega) (by rw [sZ_s _ (by omega), ← hn]; show _ = n + wyI k * chA tu g 1 (ch tu 1) P k; rw [chA_lost (by omega), Int.mul_zero, Int.add_zero]) _ _ hP hD hS ls (lv_sub hl [0, 2, 3, 4] rfl)
          · exact absurd hz11 hz67
      · refine r_if_eq (tgt := 26) hx hb dX2_chanceOfTwo_14 (by decide) (by unfold rI; decide) (fun h14 => ?_) (fun h9 => absurd h9 (by omega))
        refine r_iconst hx hb dX2_chanceOfTwo_26 ?_
        refine lv_istore (lv' := [(4, .int (iI (0))), (3, .int (iI (k))), (2, .int (iI (n))), (0, .ref g0), (1, .int (iI (g)))]) hx hb dX2_chanceOfTwo_27 hl (by decide) rfl (fun ls hl => ?_)
        refine lv_iload hx hb dX2_chanceOfTwo_29 (lv_at hl 0 rfl) ?_
        refine r_if_ne (tgt := 66) hx hb dX2_chanceOfTwo_31 (by decide) (by unfold rI; decide) (fun h9 => absurd h9 (by omega)) (fun h31 => ?_)
        refine lv_aload_n hx hb dX2_chanceOfTwo_34 rfl (lv_at hl 3 rfl) ?_
        refine lv_aload_n hx hb dX2_chanceOfTwo_35 rfl (lv_at hl 3 rfl) ?_
        refine lv_aload_n hx hb dX2_chanceOfTwo_36 rfl (lv_at hl 3 rfl) ?_
        refine va_get (D := D) (ci := 2) (v := .int (iI (tu))) (C := RX2) (T := TX2) (N := 8) hx hb hts mu_X2_chanceOfTwo_X2 hown hE.1 hP 0 rfl rfl 1 (by decide) (hts _ mw_X2_chanceOfTwo_0) (fun _ h9 => h9) rfl dX2_chanceOfTwo_37 ?_
        refine r_callV (As := [.int (iI (tu))]) (rest := [.ref g0]) S (c_X2_movesFor l D cI cL tw (g0) (g1) (g2) (g3) (tu) (ph) (mo) (gc) (th) (P) (C) (tu) (hB) (by omega)) gX2_chanceOfTwo_X2_movesFor rfl rfl rfl ⟨rfl, f_X2_movesFor⟩ hR (Nat.le_of_ble_eq_true rfl) (Nat.le_of_ble_eq_true rfl) (hE.kept hS.2.1) hP [0, 1, 2, 3] rfl 0 rfl rfl rfl hl.1 rfl (Nat.le_of_ble_eq_true rfl) dX2_chanceOfTwo_40 ⟨Nat.zero_le _, Nat.zero_le _⟩ (fun z40 hz40 => ?_)
        obtain ⟨hz40, rz40⟩ := hz40
        refine lv_iload_n hx hb dX2_chanceOfTwo_43 rfl (lv_at hl 1 rfl) ?_
        refine r_iconst hx hb dX2_chanceOfTwo_44 ?_
        refine r_callV (As := [.int (iI (z40)), .int (iI (k)), .int (iI (1))]) (rest := []) S (c_X2_does l D cI cL tw (g0) (g1) (g2) (g3) (tu) (ph) (mo) (gc) (th) (P) (C) (z40) (k) (1) (hB) (by omega) (by omega) (by omega)) gX2_chanceOfTwo_X2_does rfl rfl rfl ⟨rfl, f_X2_does⟩ hR (Nat.le_of_ble_eq_true rfl) (Nat.le_of_ble_eq_true rfl) (hE.kept hS.2.1) hP [0, 1, 2, 3] rfl 0 rfl rfl rfl hl.1 rfl (Nat.le_of_ble_eq_true rfl) dX2_chanceOfTwo_45 ⟨Nat.zero_le _, Nat.zero_le _⟩ (fun z45 hz45 => ?_)
        rcases hz45 with ⟨rfl, hz45⟩ | ⟨rfl, hz45⟩
        · refine r_if_eq (tgt := 66) hx hb dX2_chanceOfTwo_48 (by decide) (by unfold rI; decide) (fun h9 => absurd h9 (by omega)) (fun h48 => ?_)
          refine lv_iload_n hx hb dX2_chanceOfTwo_51 rfl (lv_at hl 2 rfl) ?_
          refine lv_aload_n hx hb dX2_chanceOfTwo_52 rfl (lv_at hl 3 rfl) ?_
          refine va_get (D := D) (ci := 2) (v := .ref g3) (C := RX2) (T := TX2) (N := 8) hx hb hts mu_X2_chanceOfTwo_X2 hown hE.1 hP 0 rfl rfl 6 (by decide) (hts _ mw_X2_chanceOfTwo_2) (fun _ h9 => h9) rfl dX2_chanceOfTwo_53 ?_
          refine lv_iload_n hx hb dX2_chanceOfTwo_56 rfl (lv_at hl 1 rfl) ?_
          refine r_iald hx hb hE.1 hP 3 rfl (i := k) (by omega) (by omega) (by decide) dX2_chanceOfTwo_57 ?_
          refine r_bipush hx hb dX2_chanceOfTwo_58 (by decide) ?_
          refine r_imul hx hb dX2_chanceOfTwo_60 ?_
          refine r_iadd hx hb dX2_chanceOfTwo_61 ?_
          refine lv_istore_n (lv' := [(2, .int (iI ((n) + ((wyI (k)) * (64))))), (4, .int (iI (0))), (3, .int (iI (k))), (0, .ref g0), (1, .int (iI (g)))]) hx hb dX2_chanceOfTwo_62 rfl hl (by decide) rfl (fun ls hl => ?_)
          refine lv_goto (tgt := 96) hx hb dX2_chanceOfTwo_63 (by decide) ?_
          refine lv_iinc (v := iI (k + 1)) (lv' := [(3, .int (iI (k + 1))), (2, .int (iI ((n) + ((wyI (k)) * (64))))), (4, .int (iI (0))), (0, .ref g0), (1, .int (iI (g)))]) hx hb dX2_chanceOfTwo_96 hl (k := 2) rfl (iI_add _ _) (by decide) rfl (fun ls hl => ?_)
          refine lv_goto (tgt := 4) hx hb dX2_chanceOfTwo_99 (by decide) ?_
          exact ih_4 (7 - (k + 1) : Int).toNat (nlt (by omega) hd_4 (by omega)) ((n) + ((wyI (k)) * (64))) (k + 1) (Int.toNat_of_nonneg (by omega)) (by omega) (by rw [sZ_s _ (by omega), ← hn]; show _ = n + wyI k * chA tu g 1 (ch tu 1) P k; rw [show chA tu g 1 (ch tu 1) P k = 64 from (chA_cap (by omega) (by rw [← hz40]; exact hz45)).trans (by decide)]) _ _ hP hD hS ls (lv_sub hl [0, 1, 3, 4] rfl)
        · refine r_if_eq (tgt := 66) hx hb dX2_chanceOfTwo_48 (by decide) (by unfold rI; decide) (fun h48 => ?_) (fun h9 => absurd h9 (by omega))
          refine lv_iload_n hx hb dX2_chanceOfTwo_66 rfl (lv_at hl 1 rfl) ?_
          refine r_callS (As := [.int (iI (k))]) (rest := []) S (c_X2_isGrace l D cI cL tw (k) (by omega)) gX2_chanceOfTwo_X2_isGrace rfl rfl rfl f_X2_isGrace hR (Nat.le_of_ble_eq_true rfl) (Nat.le_of_ble_eq_true rfl) (hE.kept hS.2.1) rfl hl.1 rfl (Nat.le_of_ble_eq_true rfl) dX2_chanceOfTwo_67 ⟨Nat.zero_le _, Nat.zero_le _⟩ (fun z67 hz67 => ?_)
          rcases hz67 with ⟨rfl, hz67⟩ | ⟨rfl, hz67⟩
          · exact absurd hz67 hz11
          · refine r_if_eq (tgt := 96) hx hb dX2_chanceOfTwo_70 (by decide) (by unfold rI; decide) (fun h70 => ?_) (fun h9 => absurd h9 (by omega))
            refine lv_iinc (v := iI (k + 1)) (lv' := [(3, .int (iI (k + 1))), (4, .int (iI (0))), (2, .int (iI (n))), (0, .ref g0), (1, .int (iI (g)))]) hx hb dX2_chanceOfTwo_96 hl (k := 1) rfl (iI_add _ _) (by decide) rfl (fun ls hl => ?_)
            refine lv_goto (tgt := 4) hx hb dX2_chanceOfTwo_99 (by decide) ?_
            exact ih_4 (7 - (k + 1) : Int).toNat (nlt (by omega) hd_4 (by omega)) (n) (k + 1) (Int.toNat_of_nonneg (by omega)) (by omega) (by rw [sZ_s _ (by omega), ← hn]; show _ = n + wyI k * chA tu g 1 (ch tu 1) P k; rw [chA_end (by rw [← hz40]; exact hz45) (by omega), Int.mul_zero, Int.add_zero]) _ _ hP hD hS ls (lv_sub hl [0, 2, 3, 4] rfl)
  exact lp_4 (7 - (0) : Int).toNat (0) (0) (Int.toNat_of_nonneg (by omega)) (by omega) ((sZ_0 _).symm) _ _ hP hD hS ls (lv_sub hl [0, 1, 2, 3] rfl)

set_option maxRecDepth 20000 in
theorem mw_X2_bestForTwo_0 : (.fieldLink RX2 54 "PachisiYardModel" "turn" "I" : Cond) ∈ wsX2_bestForTwo := by decide +kernel
set_option maxRecDepth 20000 in
theorem mu_X2_bestForTwo_X2 : ∀ w ∈ wsX20, w ∈ wsX2_bestForTwo := by decide +kernel
set_option maxRecDepth 20000 in
theorem mw_X2_bestForTwo_2 : (.fieldLink RX2 7 "PachisiYardModel" "at" "[I" : Cond) ∈ wsX2_bestForTwo := by decide +kernel
theorem f_X2_bestForTwo : yX2_bestForTwo.cls ≠ "java/lang/invoke/MethodHandle" ∧ yX2_bestForTwo.cls ≠ "java/lang/invoke/VarHandle" ∧ (parseMethodDescriptor yX2_bestForTwo.desc).map (fun d => d.parameters.length) = some 2 := by decide +kernel
set_option maxHeartbeats 4000000 in
set_option maxRecDepth 100000 in
theorem c_X2_bestForTwo (l : Launch) (D : va_G) (cI cL : ClassId) (tw : Nat) (g0 : Nat) (g1 : Nat) (g2 : Nat) (g3 : Nat) (tu : Int) (ph : Int) (mo : Int) (gc : Int) (th : Int) (P : Int → Int) (C : Int → Int) (g : Int) (m : Int) (hB : ∀ i, 0 ≤ P i ∧ P i ≤ 72) (htu : 0 ≤ tu ∧ tu ≤ 3) (hg : 0 ≤ g ∧ g ≤ 2) (hm : 0 ≤ m ∧ m ≤ 6) : RWi l yX2_bestForTwo wsX2_bestForTwo { frames := 7, cells := 0, slots := 0, locals := 175 } D cI cL tw [.ref g0, .int (iI (g)), .int (iI (m))] [(g0, .inr (2, [.ref g1, .int (iI (tu)), .int (iI (ph)), .int (iI (mo)), .int (iI (gc)), .ref g2, .ref g3, .int (iI (th))])), (g1, .inl (cI, 16, .inl (aI P))), (g2, .inl (cI, 4, .inl (aI C))), (g3, .inl (cI, 7, .inl (aI wyI)))] (fun (z : Int) (u : Unit) => z = chGn (ch tu 2 g) P (mv P tu) m 4) (fun u : Unit => [(g0, .inr (2, [.ref g1, .int (iI (tu)), .int (iI (ph)), .int (iI (mo)), .int (iI (gc)), .ref g2, .ref g3, .int (iI (th))])), (g1, .inl (cI, 16, .inl (aI P))), (g2, .inl (cI, 4, .inl (aI C))), (g3, .inl (cI, 7, .inl (aI wyI)))]) := by
  refine rwi_of (cc := cX2_bestForTwo) (maxL := 8) (rt := .int) (own := RX2) (by decide) rfl rfl (Or.inl rfl) (Nat.le_of_ble_eq_true rfl) ?_
  intro p e R s mt args below meth c H0 Q ls A S hR hE hP hD hS hA hl hret
  obtain ⟨hx, hb, hml, hown, hts⟩ := id S
  have hl : lv_has ls 8 [(0, .ref g0), (1, .int (iI (g))), (2, .int (iI (m)))] := hl
  refine lv_aload_n hx hb dX2_bestForTwo_0 rfl (lv_at hl 0 rfl) ?_
  refine lv_aload_n hx hb dX2_bestForTwo_1 rfl (lv_at hl 0 rfl) ?_
  refine va_get (D := D) (ci := 2) (v := .int (iI (tu))) (C := RX2) (T := TX2) (N := 8) hx hb hts mu_X2_bestForTwo_X2 hown hE.1 hP 0 rfl rfl 1 (by decide) (hts _ mw_X2_bestForTwo_0) (fun _ h9 => h9) rfl dX2_bestForTwo_2 ?_
  refine r_callV (As := [.int (iI (tu))]) (rest := []) S (c_X2_movesFor l D cI cL tw (g0) (g1) (g2) (g3) (tu) (ph) (mo) (gc) (th) (P) (C) (tu) (hB) (by omega)) gX2_bestForTwo_X2_movesFor rfl rfl rfl ⟨rfl, f_X2_movesFor⟩ hR (Nat.le_of_ble_eq_true rfl) (Nat.le_of_ble_eq_true rfl) (hE.kept hS.2.1) hP [0, 1, 2, 3] rfl 0 rfl rfl rfl hl.1 rfl (Nat.le_of_ble_eq_true rfl) dX2_bestForTwo_5 ⟨Nat.zero_le _, Nat.zero_le _⟩ (fun z5 hz5 => ?_)
  obtain ⟨hz5, rz5⟩ := hz5
  refine lv_istore_n (lv' := [(3, .int (iI (z5))), (0, .ref g0), (1, .int (iI (g))), (2, .int (iI (m)))]) hx hb dX2_bestForTwo_8 rfl hl (by decide) rfl (fun ls hl => ?_)
  refine lv_aload_n hx hb dX2_bestForTwo_9 rfl (lv_at hl 1 rfl) ?_
  refine lv_iload_n hx hb dX2_bestForTwo_10 rfl (lv_at hl 0 rfl) ?_
  refine lv_iload_n hx hb dX2_bestForTwo_11 rfl (lv_at hl 3 rfl) ?_
  refine r_iconst hx hb dX2_bestForTwo_12 ?_
  refine r_callV (As := [.int (iI (z5)), .int (iI (m)), .int (iI (1))]) (rest := []) S (c_X2_movers l D cI cL tw (g0) (g1) (g2) (g3) (tu) (ph) (mo) (gc) (th) (P) (C) (z5) (m) (1) (hB) (by omega) (by omega) (by omega)) gX2_bestForTwo_X2_movers rfl rfl rfl ⟨rfl, f_X2_movers⟩ hR (Nat.le_of_ble_eq_true rfl) (Nat.le_of_ble_eq_true rfl) (hE.kept hS.2.1) hP [0, 1, 2, 3] rfl 0 rfl rfl rfl hl.1 rfl (Nat.le_of_ble_eq_true rfl) dX2_bestForTwo_13 ⟨Nat.zero_le _, Nat.zero_le _⟩ (fun z13 hz13 => ?_)
  obtain ⟨hz13, rz13⟩ := hz13
  refine r_if_ne (tgt := 27) hx hb dX2_bestForTwo_16 (by decide) (by unfold rI; omega) (fun h16 => ?_) (fun h16 => ?_)
  · refine r_iconst hx hb dX2_bestForTwo_27 ?_
    refine lv_istore (lv' := [(4, .int (iI (0))), (3, .int (iI (z5))), (0, .ref g0), (1, .int (iI (g))), (2, .int (iI (m)))]) hx hb dX2_bestForTwo_28 hl (by decide) rfl (fun ls hl => ?_)
    refine r_iconst hx hb dX2_bestForTwo_30 ?_
    refine lv_iload_n hx hb dX2_bestForTwo_31 rfl (lv_at hl 1 rfl) ?_
    refine r_imul hx hb dX2_bestForTwo_32 ?_
    refine lv_istore (lv' := [(5, .int (iI ((4) * (z5)))), (4, .int (iI (0))), (3, .int (iI (z5))), (0, .ref g0), (1, .int (iI (g))), (2, .int (iI (m)))]) hx hb dX2_bestForTwo_33 hl (by decide) rfl (fun ls hl => ?_)
    have lp_35 : ∀ (d_35 : Nat) (best : Int) (k : Int), (d_35 : Int) = 4 * z5 + 4 - k → (4 * z5 ≤ k ∧ k ≤ 4 * z5 + 4) → (best = chGn (ch tu 2 g) P z5 m (k - 4 * z5) ∧ 0 ≤ best ∧ best ≤ 4096) → ∀ (H : Heap) (locs : List Loc), va_P D vwCl [(g0, .inr (2, [.ref g1, .int (iI (tu)), .int (iI (ph)), .int (iI (mo)), .int (iI (gc)), .ref g2, .ref g3, .int (iI (th))])), (g1, .inl (cI, 16, .inl (aI P))), (g2, .inl (cI, 4, .inl (aI C))), (g3, .inl (cI, 7, .inl (aI wyI)))] H → va_D A [(g0, .inr (2, [.ref g1, .int (iI (tu)), .int (iI (ph)), .int (iI (mo)), .int (iI (gc)), .ref g2, .ref g3, .int (iI (th))])), (g1, .inl (cI, 16, .inl (aI P))), (g2, .inl (cI, 4, .inl (aI C))), (g3, .inl (cI, 7, .inl (aI wyI)))] → va_S A H0 H locs → ∀ ls : Array Slot, lv_has ls 8 [(5, .int (iI (k))), (4, .int (iI (best))), (3, .int (iI (z5))), (0, .ref g0), (1, .int (iI (g))), (2, .int (iI (m)))] → W p l e R s mt args below meth c H locs 0 0 Q (F0 mt 35 ls []) := by
      intro d_35
      induction d_35 using Nat.strongRecOn with
      | ind d_35 ih_35 =>
      intro best k hd_35 hk hbst H locs hP hD hS ls hl
      refine lv_iload hx hb dX2_bestForTwo_35 (lv_at hl 0 rfl) ?_
      refine r_iconst hx hb dX2_bestForTwo_37 ?_
      refine lv_iload_n hx hb dX2_bestForTwo_38 rfl (lv_at hl 2 rfl) ?_
      refine r_imul hx hb dX2_bestForTwo_39 ?_
      refine r_iconst hx hb dX2_bestForTwo_40 ?_
      refine r_iadd hx hb dX2_bestForTwo_41 ?_
      refine r_icmp_ge (tgt := 133) hx hb dX2_bestForTwo_42 (by decide) (by unfold rI; omega) (by unfold rI; omega) (fun h42 => ?_) (fun h42 => ?_)
      · refine lv_iload hx hb dX2_bestForTwo_133 (lv_at hl 1 rfl) ?_
        exact hret (best) () _ _ _ _ dX2_bestForTwo_135 (by have e : k = 4 * z5 + 4 := (by omega); subst e; rw [← hz5]; have q := hbst.1; rw [show 4 * z5 + 4 - 4 * z5 = (4 : Int) by omega] at q; exact q) hP hD hS
      · refine lv_aload_n hx hb dX2_bestForTwo_45 rfl (lv_at hl 3 rfl) ?_
        refine lv_iload hx hb dX2_bestForTwo_46 (lv_at hl 0 rfl) ?_
        refine lv_iload_n hx hb dX2_bestForTwo_48 rfl (lv_at hl 5 rfl) ?_
        refine r_callV (As := [.int (iI (k)), .int (iI (m))]) (rest := []) S (c_X2_can l D cI cL tw (g0) (g1) (g2) (g3) (tu) (ph) (mo) (gc) (th) (P) (C) (k) (m) (hB) (by omega) (by omega)) gX2_bestForTwo_X2_can rfl rfl rfl ⟨rfl, f_X2_can⟩ hR (Nat.le_of_ble_eq_true rfl) (Nat.le_of_ble_eq_true rfl) (hE.kept hS.2.1) hP [0, 1, 2, 3] rfl 0 rfl rfl rfl hl.1 rfl (Nat.le_of_ble_eq_true rfl) dX2_bestForTwo_49 ⟨Nat.zero_le _, Nat.zero_le _⟩ (fun z49 hz49 => ?_)
        obtain ⟨hz49, rz49⟩ := hz49
        refine r_if_le (tgt := 127) hx hb dX2_bestForTwo_52 (by decide) (by unfold rI; omega) (fun h52 => ?_) (fun h52 => ?_)
        · refine lv_iinc (v := iI (k + 1)) (lv' := [(5, .int (iI (k + 1))), (4, .int (iI (best))), (3, .int (iI (z5))), (0, .ref g0), (1, .int (iI (g))), (2, .int (iI (m)))]) hx hb dX2_bestForTwo_127 hl (k := 0) rfl (iI_add _ _) (by decide) rfl (fun ls hl => ?_)
          refine lv_goto (tgt := 35) hx hb dX2_bestForTwo_130 (by decide) ?_
          exact ih_35 (4 * z5 + 4 - (k + 1) : Int).toNat (nlt (by omega) hd_35 (by omega)) (best) (k + 1) (Int.toNat_of_nonneg (by omega)) (by omega) (by refine ⟨?_, by omega⟩; rw [show k + 1 - 4 * z5 = (k - 4 * z5) + 1 by omega, chGn_no (by omega) (by rw [show 4 * z5 + (k - 4 * z5) = k by omega]; omega)]; exact hbst.1) _ _ hP hD hS ls (lv_sub hl [0, 1, 2, 3, 4, 5] rfl)
        · refine lv_aload_n hx hb dX2_bestForTwo_55 rfl (lv_at hl 3 rfl) ?_
          refine va_get (D := D) (ci := 2) (v := .ref g1) (C := RX2) (T := TX2) (N := 8) hx hb hts mu_X2_bestForTwo_X2 hown hE.1 hP 0 rfl rfl 0 (by decide) (hts _ mw_X2_bestForTwo_2) (fun _ h9 => h9) rfl dX2_bestForTwo_56 ?_
          refine lv_iload hx hb dX2_bestForTwo_59 (lv_at hl 0 rfl) ?_
          refine r_iald hx hb hE.1 hP 1 rfl (i := k) (by omega) (by omega) (by decide) dX2_bestForTwo_61 ?_
          obtain ⟨v61, ev61⟩ : ∃ v : Int, v = P (k) := ⟨_, rfl⟩
          have gv61 := hB (k)
          refine r_top v61 ev61.symm ?_
          rw [← ev61] at gv61
          refine lv_istore (lv' := [(6, .int (iI (v61))), (5, .int (iI (k))), (4, .int (iI (best))), (3, .int (iI (z5))), (0, .ref g0), (1, .int (iI (g))), (2, .int (iI (m)))]) hx hb dX2_bestForTwo_62 hl (by decide) rfl (fun ls hl => ?_)
          refine lv_aload_n hx hb dX2_bestForTwo_64 rfl (lv_at hl 4 rfl) ?_
          refine va_get (D := D) (ci := 2) (v := .ref g1) (C := RX2) (T := TX2) (N := 8) hx hb hts mu_X2_bestForTwo_X2 hown hE.1 hP 0 rfl rfl 0 (by decide) (hts _ mw_X2_bestForTwo_2) (fun _ h9 => h9) rfl dX2_bestForTwo_65 ?_
          refine lv_iload hx hb dX2_bestForTwo_68 (lv_at hl 1 rfl) ?_
          refine lv_aload_n hx hb dX2_bestForTwo_70 rfl (lv_at hl 4 rfl) ?_
          refine lv_iload hx hb dX2_bestForTwo_71 (lv_at hl 1 rfl) ?_
          refine lv_iload_n hx hb dX2_bestForTwo_73 rfl (lv_at hl 6 rfl) ?_
          refine r_callV (As := [.int (iI (k)), .int (iI (m))]) (rest := [.int (iI (k)), .ref g1]) S (c_X2_target l D cI cL tw (g0) (g1) (g2) (g3) (tu) (ph) (mo) (gc) (th) (P) (C) (k) (m) (hB) (by omega) (by omega)) gX2_bestForTwo_X2_target rfl rfl rfl ⟨rfl, f_X2_target⟩ hR (Nat.le_of_ble_eq_true rfl) (Nat.le_of_ble_eq_true rfl) (hE.kept hS.2.1) hP [0, 1, 2, 3] rfl 0 rfl rfl rfl hl.1 rfl (Nat.le_of_ble_eq_true rfl) dX2_bestForTwo_74 ⟨Nat.zero_le _, Nat.zero_le _⟩ (fun z74 hz74 => ?_)
          obtain ⟨hz74, rz74⟩ := hz74
          refine r_iast hx hb hE.1 hP hD hS 1 (P := P) rfl (i := k) (v := z74) (by omega) (by omega) (by decide) (ws1 := [(g0, .inr (2, [.ref g1, .int (iI (tu)), .int (iI (ph)), .int (iI (mo)), .int (iI (gc)), .ref g2, .ref g3, .int (iI (th))])), (g1, .inl (cI, 16, .inl (aI (uI P (k) (z74))))), (g2, .inl (cI, 4, .inl (aI C))), (g3, .inl (cI, 7, .inl (aI wyI)))]) rfl dX2_bestForTwo_77 (fun H locs hP hD hS => ?_)
          refine lv_aload_n hx hb dX2_bestForTwo_78 rfl (lv_at hl 4 rfl) ?_
          refine lv_aload_n hx hb dX2_bestForTwo_79 rfl (lv_at hl 4 rfl) ?_
          refine va_get (D := D) (ci := 2) (v := .int (iI (tu))) (C := RX2) (T := TX2) (N := 8) hx hb hts mu_X2_bestForTwo_X2 hown hE.1 hP 0 rfl rfl 1 (by decide) (hts _ mw_X2_bestForTwo_0) (fun _ h9 => h9) rfl dX2_bestForTwo_80 ?_
          refine r_iconst hx hb dX2_bestForTwo_83 ?_
          refine r_irem hx hb dX2_bestForTwo_84 (by omega) (by omega) ?_
          refine r_callV (As := [.int (iI ((tu) % (2)))]) (rest := []) S (c_X2_isWon l D cI cL tw (g0) (g1) (g2) (g3) (tu) (ph) (mo) (gc) (th) ((uI P (k) (z74))) (C) ((tu) % (2)) (uI_rng hB (by omega)) (by omega)) gX2_bestForTwo_X2_isWon rfl rfl rfl ⟨rfl, f_X2_isWon⟩ hR (Nat.le_of_ble_eq_true rfl) (Nat.le_of_ble_eq_true rfl) (hE.kept hS.2.1) hP [0, 1, 2, 3] rfl 0 rfl rfl rfl hl.1 rfl (Nat.le_of_ble_eq_true rfl) dX2_bestForTwo_85 ⟨Nat.zero_le _, Nat.zero_le _⟩ (fun z85 hz85 => ?_)
          rcases hz85 with ⟨rfl, hz85⟩ | ⟨rfl, hz85⟩
          · refine r_if_eq (tgt := 95) hx hb dX2_bestForTwo_88 (by decide) (by unfold rI; decide) (fun h9 => absurd h9 (by omega)) (fun h88 => ?_)
            refine r_iconst hx hb dX2_bestForTwo_91 ?_
            refine lv_goto (tgt := 100) hx hb dX2_bestForTwo_92 (by decide) ?_
            refine lv_istore (lv' := [(7, .int (iI (0))), (6, .int (iI (v61))), (5, .int (iI (k))), (4, .int (iI (best))), (3, .int (iI (z5))), (0, .ref g0), (1, .int (iI (g))), (2, .int (iI (m)))]) hx hb dX2_bestForTwo_100 hl (by decide) rfl (fun ls hl => ?_)
            refine lv_aload_n hx hb dX2_bestForTwo_102 rfl (lv_at hl 5 rfl) ?_
            refine va_get (D := D) (ci := 2) (v := .ref g1) (C := RX2) (T := TX2) (N := 8) hx hb hts mu_X2_bestForTwo_X2 hown hE.1 hP 0 rfl rfl 0 (by decide) (hts _ mw_X2_bestForTwo_2) (fun _ h9 => h9) rfl dX2_bestForTwo_103 ?_
            refine lv_iload hx hb dX2_bestForTwo_106 (lv_at hl 2 rfl) ?_
            refine lv_iload hx hb dX2_bestForTwo_108 (lv_at hl 1 rfl) ?_
            refine r_iast hx hb hE.1 hP hD hS 1 (P := (uI P (k) (z74))) rfl (i := k) (v := v61) (by omega) (by omega) (by decide) (ws1 := [(g0, .inr (2, [.ref g1, .int (iI (tu)), .int (iI (ph)), .int (iI (mo)), .int (iI (gc)), .ref g2, .ref g3, .int (iI (th))])), (g1, .inl (cI, 16, .inl (aI (uI (uI P (k) (z74)) (k) (v61))))), (g2, .inl (cI, 4, .inl (aI C))), (g3, .inl (cI, 7, .inl (aI wyI)))]) rfl dX2_bestForTwo_110 (fun H locs hP hD hS => ?_)
            have e9 : uI (uI P k z74) k v61 = P := by rw [ev61]; exact uI_back _ _ _
            rw [e9] at hP hD
            refine lv_iload hx hb dX2_bestForTwo_111 (lv_at hl 0 rfl) ?_
            refine lv_iload hx hb dX2_bestForTwo_113 (lv_at hl 3 rfl) ?_
            refine r_icmp_le (tgt := 123) hx hb dX2_bestForTwo_115 (by decide) (by unfold rI; decide) (by unfold rI; omega) (fun h115 => ?_) (fun h115 => ?_)
            · refine lv_iload hx hb dX2_bestForTwo_123 (lv_at hl 3 rfl) ?_
              refine lv_istore (lv' := [(4, .int (iI (best))), (7, .int (iI (0))), (6, .int (iI (v61))), (5, .int (iI (k))), (3, .int (iI (z5))), (0, .ref g0), (1, .int (iI (g))), (2, .int (iI (m)))]) hx hb dX2_bestForTwo_125 hl (by decide) rfl (fun ls hl => ?_)
              refine lv_iinc (v := iI (k + 1)) (lv' := [(5, .int (iI (k + 1))), (4, .int (iI (best))), (7, .int (iI (0))), (6, .int (iI (v61))), (3, .int (iI (z5))), (0, .ref g0), (1, .int (iI (g))), (2, .int (iI (m)))]) hx hb dX2_bestForTwo_127 hl (k := 3) rfl (iI_add _ _) (by decide) rfl (fun ls hl => ?_)
              refine lv_goto (tgt := 35) hx hb dX2_bestForTwo_130 (by decide) ?_
              exact ih_35 (4 * z5 + 4 - (k + 1) : Int).toNat (nlt (by omega) hd_35 (by omega)) (best) (k + 1) (Int.toNat_of_nonneg (by omega)) (by omega) (by have ey := chGn_yes (R := ch tu 2 g) (P := P) (a := z5) (m := m) (j := k - 4 * z5) (by omega) (by rw [show 4 * z5 + (k - 4 * z5) = k by omega]; omega); rw [show 4 * z5 + (k - 4 * z5) = k by omega, ← hz74, ch_won ((won_team (by omega)).mpr hz85), ← hbst.1] at ey; refine ⟨?_, by omega⟩; rw [show k + 1 - 4 * z5 = (k - 4 * z5) + 1 by omega, ey]; split <;> omega) _ _ hP hD hS ls (lv_sub hl [0, 1, 4, 5, 6, 7] rfl)
            · refine lv_iload hx hb dX2_bestForTwo_118 (lv_at hl 0 rfl) ?_
              refine lv_goto (tgt := 125) hx hb dX2_bestForTwo_120 (by decide) ?_
              refine lv_istore (lv' := [(4, .int (iI (0))), (7, .int (iI (0))), (6, .int (iI (v61))), (5, .int (iI (k))), (3, .int (iI (z5))), (0, .ref g0), (1, .int (iI (g))), (2, .int (iI (m)))]) hx hb dX2_bestForTwo_125 hl (by decide) rfl (fun ls hl => ?_)
              refine lv_iinc (v := iI (k + 1)) (lv' := [(5, .int (iI (k + 1))), (4, .int (iI (0))), (7, .int (iI (0))), (6, .int (iI (v61))), (3, .int (iI (z5))), (0, .ref g0), (1, .int (iI (g))), (2, .int (iI (m)))]) hx hb dX2_bestForTwo_127 hl (k := 3) rfl (iI_add _ _) (by decide) rfl (fun ls hl => ?_)
              refine lv_goto (tgt := 35) hx hb dX2_bestForTwo_130 (by decide) ?_
              exact ih_35 (4 * z5 + 4 - (k + 1) : Int).toNat (nlt (by omega) hd_35 (by omega)) (0) (k + 1) (Int.toNat_of_nonneg (by omega)) (by omega) (by have ey := chGn_yes (R := ch tu 2 g) (P := P) (a := z5) (m := m) (j := k - 4 * z5) (by omega) (by rw [show 4 * z5 + (k - 4 * z5) = k by omega]; omega); rw [show 4 * z5 + (k - 4 * z5) = k by omega, ← hz74, ch_won ((won_team (by omega)).mpr hz85), ← hbst.1] at ey; refine ⟨?_, by omega⟩; rw [show k + 1 - 4 * z5 = (k - 4 * z5) + 1 by omega, ey]; split <;> omega) _ _ hP hD hS ls (lv_sub hl [0, 1, 4, 5, 6, 7] rfl)
          · refine r_if_eq (tgt := 95) hx hb dX2_bestForTwo_88 (by decide) (by unfold rI; decide) (fun h88 => ?_) (fun h9 => absurd h9 (by omega))
            refine lv_aload_n hx hb dX2_bestForTwo_95 rfl (lv_at hl 4 rfl) ?_
            refine lv_iload_n hx hb dX2_bestForTwo_96 rfl (lv_at hl 5 rfl) ?_
            refine r_callVi (As := [.int (iI (g))]) (rest := []) (wr := []) S (c_X2_chanceOfTwo l D cI cL tw (g0) (g1) (g2) (g3) (tu) (ph) (mo) (gc) (th) ((uI P (k) (z74))) (C) (g) (uI_rng hB (by omega)) (by omega) (by omega)) gX2_bestForTwo_X2_chanceOfTwo rfl rfl rfl ⟨rfl, f_X2_chanceOfTwo⟩ hR (Nat.le_of_ble_eq_true rfl) (Nat.le_of_ble_eq_true rfl) (hE.kept hS.2.1) hP hD hS hA [0, 1, 2, 3] [] rfl rfl (by decide) rfl (by decide) (by decide) 0 rfl rfl rfl hl.1 rfl (Nat.le_of_ble_eq_true rfl) dX2_bestForTwo_97 ⟨Nat.zero_le _, Nat.zero_le _⟩ (fun z97 u97 H locs hz97 hP hD hS => ?_)
            have hP : va_P D vwCl [(g0, .inr (2, [.ref g1, .int (iI (tu)), .int (iI (ph)), .int (iI (mo)), .int (iI (gc)), .ref g2, .ref g3, .int (iI (th))])), (g1, .inl (cI, 16, .inl (aI (uI P (k) (z74))))), (g2, .inl (cI, 4, .inl (aI C))), (g3, .inl (cI, 7, .inl (aI wyI)))] H := hP.sub [0, 1, 2, 3] rfl
            have hD : va_D A [(g0, .inr (2, [.ref g1, .int (iI (tu)), .int (iI (ph)), .int (iI (mo)), .int (iI (gc)), .ref g2, .ref g3, .int (iI (th))])), (g1, .inl (cI, 16, .inl (aI (uI P (k) (z74))))), (g2, .inl (cI, 4, .inl (aI C))), (g3, .inl (cI, 7, .inl (aI wyI)))] := hD.sub [0, 1, 2, 3] (by decide) rfl
            have rz97 := ch_rng2 tu g (uI P (k) (z74))
            rw [← hz97] at rz97
            refine lv_istore (lv' := [(7, .int (iI (z97))), (6, .int (iI (v61))), (5, .int (iI (k))), (4, .int (iI (best))), (3, .int (iI (z5))), (0, .ref g0), (1, .int (iI (g))), (2, .int (iI (m)))]) hx hb dX2_bestForTwo_100 hl (by decide) rfl (fun ls hl => ?_)
            refine lv_aload_n hx hb dX2_bestForTwo_102 rfl (lv_at hl 5 rfl) ?_
            refine va_get (D := D) (ci := 2) (v := .ref g1) (C := RX2) (T := TX2) (N := 8) hx hb hts mu_X2_bestForTwo_X2 hown hE.1 hP 0 rfl rfl 0 (by decide) (hts _ mw_X2_bestForTwo_2) (fun _ h9 => h9) rfl dX2_bestForTwo_103 ?_
            refine lv_iload hx hb dX2_bestForTwo_106 (lv_at hl 2 rfl) ?_
            refine lv_iload hx hb dX2_bestForTwo_108 (lv_at hl 1 rfl) ?_
            refine r_iast hx hb hE.1 hP hD hS 1 (P := (uI P (k) (z74))) rfl (i := k) (v := v61) (by omega) (by omega) (by decide) (ws1 := [(g0, .inr (2, [.ref g1, .int (iI (tu)), .int (iI (ph)), .int (iI (mo)), .int (iI (gc)), .ref g2, .ref g3, .int (iI (th))])), (g1, .inl (cI, 16, .inl (aI (uI (uI P (k) (z74)) (k) (v61))))), (g2, .inl (cI, 4, .inl (aI C))), (g3, .inl (cI, 7, .inl (aI wyI)))]) rfl dX2_bestForTwo_110 (fun H locs hP hD hS => ?_)
            have e9 : uI (uI P k z74) k v61 = P := by rw [ev61]; exact uI_back _ _ _
            rw [e9] at hP hD
            refine lv_iload hx hb dX2_bestForTwo_111 (lv_at hl 0 rfl) ?_
            refine lv_iload hx hb dX2_bestForTwo_113 (lv_at hl 3 rfl) ?_
            refine r_icmp_le (tgt := 123) hx hb dX2_bestForTwo_115 (by decide) (by unfold rI; omega) (by unfold rI; omega) (fun h115 => ?_) (fun h115 => ?_)
            · refine lv_iload hx hb dX2_bestForTwo_123 (lv_at hl 3 rfl) ?_
              refine lv_istore (lv' := [(4, .int (iI (best))), (7, .int (iI (z97))), (6, .int (iI (v61))), (5, .int (iI (k))), (3, .int (iI (z5))), (0, .ref g0), (1, .int (iI (g))), (2, .int (iI (m)))]) hx hb dX2_bestForTwo_125 hl (by decide) rfl (fun ls hl => ?_)
              refine lv_iinc (v := iI (k + 1)) (lv' := [(5, .int (iI (k + 1))), (4, .int (iI (best))), (7, .int (iI (z97))), (6, .int (iI (v61))), (3, .int (iI (z5))), (0, .ref g0), (1, .int (iI (g))), (2, .int (iI (m)))]) hx hb dX2_bestForTwo_127 hl (k := 3) rfl (iI_add _ _) (by decide) rfl (fun ls hl => ?_)
              refine lv_goto (tgt := 35) hx hb dX2_bestForTwo_130 (by decide) ?_
              exact ih_35 (4 * z5 + 4 - (k + 1) : Int).toNat (nlt (by omega) hd_35 (by omega)) (best) (k + 1) (Int.toNat_of_nonneg (by omega)) (by omega) (by have ey := chGn_yes (R := ch tu 2 g) (P := P) (a := z5) (m := m) (j := k - 4 * z5) (by omega) (by rw [show 4 * z5 + (k - 4 * z5) = k by omega]; omega); rw [show 4 * z5 + (k - 4 * z5) = k by omega, ← hz74, ← hz97, ← hbst.1] at ey; refine ⟨?_, by omega⟩; rw [show k + 1 - 4 * z5 = (k - 4 * z5) + 1 by omega, ey]; split <;> omega) _ _ hP hD hS ls (lv_sub hl [0, 1, 4, 5, 6, 7] rfl)
            · refine lv_iload hx hb dX2_bestForTwo_118 (lv_at hl 0 rfl) ?_
              refine lv_goto (tgt := 125) hx hb dX2_bestForTwo_120 (by decide) ?_
              refine lv_istore (lv' := [(4, .int (iI (z97))), (7, .int (iI (z97))), (6, .int (iI (v61))), (5, .int (iI (k))), (3, .int (iI (z5))), (0, .ref g0), (1, .int (iI (g))), (2, .int (iI (m)))]) hx hb dX2_bestForTwo_125 hl (by decide) rfl (fun ls hl => ?_)
              refine lv_iinc (v := iI (k + 1)) (lv' := [(5, .int (iI (k + 1))), (4, .int (iI (z97))), (7, .int (iI (z97))), (6, .int (iI (v61))), (3, .int (iI (z5))), (0, .ref g0), (1, .int (iI (g))), (2, .int (iI (m)))]) hx hb dX2_bestForTwo_127 hl (k := 3) rfl (iI_add _ _) (by decide) rfl (fun ls hl => ?_)
              refine lv_goto (tgt := 35) hx hb dX2_bestForTwo_130 (by decide) ?_
              exact ih_35 (4 * z5 + 4 - (k + 1) : Int).toNat (nlt (by omega) hd_35 (by omega)) (z97) (k + 1) (Int.toNat_of_nonneg (by omega)) (by omega) (by have ey := chGn_yes (R := ch tu 2 g) (P := P) (a := z5) (m := m) (j := k - 4 * z5) (by omega) (by rw [show 4 * z5 + (k - 4 * z5) = k by omega]; omega); rw [show 4 * z5 + (k - 4 * z5) = k by omega, ← hz74, ← hz97, ← hbst.1] at ey; refine ⟨?_, by omega⟩; rw [show k + 1 - 4 * z5 = (k - 4 * z5) + 1 by omega, ey]; split <;> omega) _ _ hP hD hS ls (lv_sub hl [0, 1, 4, 5, 6, 7] rfl)
    exact lp_35 (4 * z5 + 4 - ((4) * (z5)) : Int).toNat (0) ((4) * (z5)) (Int.toNat_of_nonneg (by omega)) (by omega) (⟨by rw [show (4 : Int) * z5 - 4 * z5 = 0 by omega]; exact (chGn_0 (by rw [← hz13]; exact h16)).symm, by omega⟩) _ _ hP hD hS ls (lv_sub hl [0, 1, 2, 3, 4, 5] rfl)
  · refine lv_aload_n hx hb dX2_bestForTwo_19 rfl (lv_at hl 1 rfl) ?_
    refine lv_iload_n hx hb dX2_bestForTwo_20 rfl (lv_at hl 2 rfl) ?_
    refine r_callVi (As := [.int (iI (g))]) (rest := []) (wr := []) S (c_X2_chanceOfTwo l D cI cL tw (g0) (g1) (g2) (g3) (tu) (ph) (mo) (gc) (th) (P) (C) (g) (hB) (by omega) (by omega)) gX2_bestForTwo_X2_chanceOfTwo rfl rfl rfl ⟨rfl, f_X2_chanceOfTwo⟩ hR (Nat.le_of_ble_eq_true rfl) (Nat.le_of_ble_eq_true rfl) (hE.kept hS.2.1) hP hD hS hA [0, 1, 2, 3] [] rfl rfl (by decide) rfl (by decide) (by decide) 0 rfl rfl rfl hl.1 rfl (Nat.le_of_ble_eq_true rfl) dX2_bestForTwo_21 ⟨Nat.zero_le _, Nat.zero_le _⟩ (fun z21 u21 H locs hz21 hP hD hS => ?_)
    have hP : va_P D vwCl [(g0, .inr (2, [.ref g1, .int (iI (tu)), .int (iI (ph)), .int (iI (mo)), .int (iI (gc)), .ref g2, .ref g3, .int (iI (th))])), (g1, .inl (cI, 16, .inl (aI P))), (g2, .inl (cI, 4, .inl (aI C))), (g3, .inl (cI, 7, .inl (aI wyI)))] H := hP.sub [0, 1, 2, 3] rfl
    have hD : va_D A [(g0, .inr (2, [.ref g1, .int (iI (tu)), .int (iI (ph)), .int (iI (mo)), .int (iI (gc)), .ref g2, .ref g3, .int (iI (th))])), (g1, .inl (cI, 16, .inl (aI P))), (g2, .inl (cI, 4, .inl (aI C))), (g3, .inl (cI, 7, .inl (aI wyI)))] := hD.sub [0, 1, 2, 3] (by decide) rfl
    have rz21 := ch_rng2 tu g P
    rw [← hz21] at rz21
    refine lv_goto (tgt := 28) hx hb dX2_bestForTwo_24 (by decide) ?_
    refine lv_istore (lv' := [(4, .int (iI (z21))), (3, .int (iI (z5))), (0, .ref g0), (1, .int (iI (g))), (2, .int (iI (m)))]) hx hb dX2_bestForTwo_28 hl (by decide) rfl (fun ls hl => ?_)
    refine r_iconst hx hb dX2_bestForTwo_30 ?_
    refine lv_iload_n hx hb dX2_bestForTwo_31 rfl (lv_at hl 1 rfl) ?_
    refine r_imul hx hb dX2_bestForTwo_32 ?_
    refine lv_istore (lv' := [(5, .int (iI ((4) * (z5)))), (4, .int (iI (z21))), (3, .int (iI (z5))), (0, .ref g0), (1, .int (iI (g))), (2, .int (iI (m)))]) hx hb dX2_bestForTwo_33 hl (by decide) rfl (fun ls hl => ?_)
    have lp_35 : ∀ (d_35 : Nat) (best : Int) (k : Int), (d_35 : Int) = 4 * z5 + 4 - k → (4 * z5 ≤ k ∧ k ≤ 4 * z5 + 4) → (best = chGn (ch tu 2 g) P z5 m (k - 4 * z5) ∧ 0 ≤ best ∧ best ≤ 4096) → ∀ (H : Heap) (locs : List Loc), va_P D vwCl [(g0, .inr (2, [.ref g1, .int (iI (tu)), .int (iI (ph)), .int (iI (mo)), .int (iI (gc)), .ref g2, .ref g3, .int (iI (th))])), (g1, .inl (cI, 16, .inl (aI P))), (g2, .inl (cI, 4, .inl (aI C))), (g3, .inl (cI, 7, .inl (aI wyI)))] H → va_D A [(g0, .inr (2, [.ref g1, .int (iI (tu)), .int (iI (ph)), .int (iI (mo)), .int (iI (gc)), .ref g2, .ref g3, .int (iI (th))])), (g1, .inl (cI, 16, .inl (aI P))), (g2, .inl (cI, 4, .inl (aI C))), (g3, .inl (cI, 7, .inl (aI wyI)))] → va_S A H0 H locs → ∀ ls : Array Slot, lv_has ls 8 [(5, .int (iI (k))), (4, .int (iI (best))), (3, .int (iI (z5))), (0, .ref g0), (1, .int (iI (g))), (2, .int (iI (m)))] → W p l e R s mt args below meth c H locs 0 0 Q (F0 mt 35 ls []) := by
      intro d_35
      induction d_35 using Nat.strongRecOn with
      | ind d_35 ih_35 =>
      intro best k hd_35 hk hbst H locs hP hD hS ls hl
      refine lv_iload hx hb dX2_bestForTwo_35 (lv_at hl 0 rfl) ?_
      refine r_iconst hx hb dX2_bestForTwo_37 ?_
      refine lv_iload_n hx hb dX2_bestForTwo_38 rfl (lv_at hl 2 rfl) ?_
      refine r_imul hx hb dX2_bestForTwo_39 ?_
      refine r_iconst hx hb dX2_bestForTwo_40 ?_
      refine r_iadd hx hb dX2_bestForTwo_41 ?_
      refine r_icmp_ge (tgt := 133) hx hb dX2_bestForTwo_42 (by decide) (by unfold rI; omega) (by unfold rI; omega) (fun h42 => ?_) (fun h42 => ?_)
      · refine lv_iload hx hb dX2_bestForTwo_133 (lv_at hl 1 rfl) ?_
        exact hret (best) () _ _ _ _ dX2_bestForTwo_135 (by have e : k = 4 * z5 + 4 := (by omega); subst e; rw [← hz5]; have q := hbst.1; rw [show 4 * z5 + 4 - 4 * z5 = (4 : Int) by omega] at q; exact q) hP hD hS
      · refine lv_aload_n hx hb dX2_bestForTwo_45 rfl (lv_at hl 3 rfl) ?_
        refine lv_iload hx hb dX2_bestForTwo_46 (lv_at hl 0 rfl) ?_
        refine lv_iload_n hx hb dX2_bestForTwo_48 rfl (lv_at hl 5 rfl) ?_
        refine r_callV (As := [.int (iI (k)), .int (iI (m))]) (rest := []) S (c_X2_can l D cI cL tw (g0) (g1) (g2) (g3) (tu) (ph) (mo) (gc) (th) (P) (C) (k) (m) (hB) (by omega) (by omega)) gX2_bestForTwo_X2_can rfl rfl rfl ⟨rfl, f_X2_can⟩ hR (Nat.le_of_ble_eq_true rfl) (Nat.le_of_ble_eq_true rfl) (hE.kept hS.2.1) hP [0, 1, 2, 3] rfl 0 rfl rfl rfl hl.1 rfl (Nat.le_of_ble_eq_true rfl) dX2_bestForTwo_49 ⟨Nat.zero_le _, Nat.zero_le _⟩ (fun z49 hz49 => ?_)
        obtain ⟨hz49, rz49⟩ := hz49
        refine r_if_le (tgt := 127) hx hb dX2_bestForTwo_52 (by decide) (by unfold rI; omega) (fun h52 => ?_) (fun h52 => ?_)
        · refine lv_iinc (v := iI (k + 1)) (lv' := [(5, .int (iI (k + 1))), (4, .int (iI (best))), (3, .int (iI (z5))), (0, .ref g0), (1, .int (iI (g))), (2, .int (iI (m)))]) hx hb dX2_bestForTwo_127 hl (k := 0) rfl (iI_add _ _) (by decide) rfl (fun ls hl => ?_)
          refine lv_goto (tgt := 35) hx hb dX2_bestForTwo_130 (by decide) ?_
          exact ih_35 (4 * z5 + 4 - (k + 1) : Int).toNat (nlt (by omega) hd_35 (by omega)) (best) (k + 1) (Int.toNat_of_nonneg (by omega)) (by omega) (by refine ⟨?_, by omega⟩; rw [show k + 1 - 4 * z5 = (k - 4 * z5) + 1 by omega, chGn_no (by omega) (by rw [show 4 * z5 + (k - 4 * z5) = k by omega]; omega)]; exact hbst.1) _ _ hP hD hS ls (lv_sub hl [0, 1, 2, 3, 4, 5] rfl)
        · refine lv_aload_n hx hb dX2_bestForTwo_55 rfl (lv_at hl 3 rfl) ?_
          refine va_get (D := D) (ci := 2) (v := .ref g1) (C := RX2) (T := TX2) (N := 8) hx hb hts mu_X2_bestForTwo_X2 hown hE.1 hP 0 rfl rfl 0 (by decide) (hts _ mw_X2_bestForTwo_2) (fun _ h9 => h9) rfl dX2_bestForTwo_56 ?_
          refine lv_iload hx hb dX2_bestForTwo_59 (lv_at hl 0 rfl) ?_
          refine r_iald hx hb hE.1 hP 1 rfl (i := k) (by omega) (by omega) (by decide) dX2_bestForTwo_61 ?_
          obtain ⟨v61, ev61⟩ : ∃ v : Int, v = P (k) := ⟨_, rfl⟩
          have gv61 := hB (k)
          refine r_top v61 ev61.symm ?_
          rw [← ev61] at gv61
          refine lv_istore (lv' := [(6, .int (iI (v61))), (5, .int (iI (k))), (4, .int (iI (best))), (3, .int (iI (z5))), (0, .ref g0), (1, .int (iI (g))), (2, .int (iI (m)))]) hx hb dX2_bestForTwo_62 hl (by decide) rfl (fun ls hl => ?_)
          refine lv_aload_n hx hb dX2_bestForTwo_64 rfl (lv_at hl 4 rfl) ?_
          refine va_get (D := D) (ci := 2) (v := .ref g1) (C := RX2) (T := TX2) (N := 8) hx hb hts mu_X2_bestForTwo_X2 hown hE.1 hP 0 rfl rfl 0 (by decide) (hts _ mw_X2_bestForTwo_2) (fun _ h9 => h9) rfl dX2_bestForTwo_65 ?_
          refine lv_iload hx hb dX2_bestForTwo_68 (lv_at hl 1 rfl) ?_
          refine lv_aload_n hx hb dX2_bestForTwo_70 rfl (lv_at hl 4 rfl) ?_
          refine lv_iload hx hb dX2_bestForTwo_71 (lv_at hl 1 rfl) ?_
          refine lv_iload_n hx hb dX2_bestForTwo_73 rfl (lv_at hl 6 rfl) ?_
          refine r_callV (As := [.int (iI (k)), .int (iI (m))]) (rest := [.int (iI (k)), .ref g1]) S (c_X2_target l D cI cL tw (g0) (g1) (g2) (g3) (tu) (ph) (mo) (gc) (th) (P) (C) (k) (m) (hB) (by omega) (by omega)) gX2_bestForTwo_X2_target rfl rfl rfl ⟨rfl, f_X2_target⟩ hR (Nat.le_of_ble_eq_true rfl) (Nat.le_of_ble_eq_true rfl) (hE.kept hS.2.1) hP [0, 1, 2, 3] rfl 0 rfl rfl rfl hl.1 rfl (Nat.le_of_ble_eq_true rfl) dX2_bestForTwo_74 ⟨Nat.zero_le _, Nat.zero_le _⟩ (fun z74 hz74 => ?_)
          obtain ⟨hz74, rz74⟩ := hz74
          refine r_iast hx hb hE.1 hP hD hS 1 (P := P) rfl (i := k) (v := z74) (by omega) (by omega) (by decide) (ws1 := [(g0, .inr (2, [.ref g1, .int (iI (tu)), .int (iI (ph)), .int (iI (mo)), .int (iI (gc)), .ref g2, .ref g3, .int (iI (th))])), (g1, .inl (cI, 16, .inl (aI (uI P (k) (z74))))), (g2, .inl (cI, 4, .inl (aI C))), (g3, .inl (cI, 7, .inl (aI wyI)))]) rfl dX2_bestForTwo_77 (fun H locs hP hD hS => ?_)
          refine lv_aload_n hx hb dX2_bestForTwo_78 rfl (lv_at hl 4 rfl) ?_
          refine lv_aload_n hx hb dX2_bestForTwo_79 rfl (lv_at hl 4 rfl) ?_
          refine va_get (D := D) (ci := 2) (v := .int (iI (tu))) (C := RX2) (T := TX2) (N := 8) hx hb hts mu_X2_bestForTwo_X2 hown hE.1 hP 0 rfl rfl 1 (by decide) (hts _ mw_X2_bestForTwo_0) (fun _ h9 => h9) rfl dX2_bestForTwo_80 ?_
          refine r_iconst hx hb dX2_bestForTwo_83 ?_
          refine r_irem hx hb dX2_bestForTwo_84 (by omega) (by omega) ?_
          refine r_callV (As := [.int (iI ((tu) % (2)))]) (rest := []) S (c_X2_isWon l D cI cL tw (g0) (g1) (g2) (g3) (tu) (ph) (mo) (gc) (th) ((uI P (k) (z74))) (C) ((tu) % (2)) (uI_rng hB (by omega)) (by omega)) gX2_bestForTwo_X2_isWon rfl rfl rfl ⟨rfl, f_X2_isWon⟩ hR (Nat.le_of_ble_eq_true rfl) (Nat.le_of_ble_eq_true rfl) (hE.kept hS.2.1) hP [0, 1, 2, 3] rfl 0 rfl rfl rfl hl.1 rfl (Nat.le_of_ble_eq_true rfl) dX2_bestForTwo_85 ⟨Nat.zero_le _, Nat.zero_le _⟩ (fun z85 hz85 => ?_)
          rcases hz85 with ⟨rfl, hz85⟩ | ⟨rfl, hz85⟩
          · refine r_if_eq (tgt := 95) hx hb dX2_bestForTwo_88 (by decide) (by unfold rI; decide) (fun h9 => absurd h9 (by omega)) (fun h88 => ?_)
            refine r_iconst hx hb dX2_bestForTwo_91 ?_
            refine lv_goto (tgt := 100) hx hb dX2_bestForTwo_92 (by decide) ?_
            refine lv_istore (lv' := [(7, .int (iI (0))), (6, .int (iI (v61))), (5, .int (iI (k))), (4, .int (iI (best))), (3, .int (iI (z5))), (0, .ref g0), (1, .int (iI (g))), (2, .int (iI (m)))]) hx hb dX2_bestForTwo_100 hl (by decide) rfl (fun ls hl => ?_)
            refine lv_aload_n hx hb dX2_bestForTwo_102 rfl (lv_at hl 5 rfl) ?_
            refine va_get (D := D) (ci := 2) (v := .ref g1) (C := RX2) (T := TX2) (N := 8) hx hb hts mu_X2_bestForTwo_X2 hown hE.1 hP 0 rfl rfl 0 (by decide) (hts _ mw_X2_bestForTwo_2) (fun _ h9 => h9) rfl dX2_bestForTwo_103 ?_
            refine lv_iload hx hb dX2_bestForTwo_106 (lv_at hl 2 rfl) ?_
            refine lv_iload hx hb dX2_bestForTwo_108 (lv_at hl 1 rfl) ?_
            refine r_iast hx hb hE.1 hP hD hS 1 (P := (uI P (k) (z74))) rfl (i := k) (v := v61) (by omega) (by omega) (by decide) (ws1 := [(g0, .inr (2, [.ref g1, .int (iI (tu)), .int (iI (ph)), .int (iI (mo)), .int (iI (gc)), .ref g2, .ref g3, .int (iI (th))])), (g1, .inl (cI, 16, .inl (aI (uI (uI P (k) (z74)) (k) (v61))))), (g2, .inl (cI, 4, .inl (aI C))), (g3, .inl (cI, 7, .inl (aI wyI)))]) rfl dX2_bestForTwo_110 (fun H locs hP hD hS => ?_)
            have e9 : uI (uI P k z74) k v61 = P := by rw [ev61]; exact uI_back _ _ _
            rw [e9] at hP hD
            refine lv_iload hx hb dX2_bestForTwo_111 (lv_at hl 0 rfl) ?_
            refine lv_iload hx hb dX2_bestForTwo_113 (lv_at hl 3 rfl) ?_
            refine r_icmp_le (tgt := 123) hx hb dX2_bestForTwo_115 (by decide) (by unfold rI; decide) (by unfold rI; omega) (fun h115 => ?_) (fun h115 => ?_)
            · refine lv_iload hx hb dX2_bestForTwo_123 (lv_at hl 3 rfl) ?_
              refine lv_istore (lv' := [(4, .int (iI (best))), (7, .int (iI (0))), (6, .int (iI (v61))), (5, .int (iI (k))), (3, .int (iI (z5))), (0, .ref g0), (1, .int (iI (g))), (2, .int (iI (m)))]) hx hb dX2_bestForTwo_125 hl (by decide) rfl (fun ls hl => ?_)
              refine lv_iinc (v := iI (k + 1)) (lv' := [(5, .int (iI (k + 1))), (4, .int (iI (best))), (7, .int (iI (0))), (6, .int (iI (v61))), (3, .int (iI (z5))), (0, .ref g0), (1, .int (iI (g))), (2, .int (iI (m)))]) hx hb dX2_bestForTwo_127 hl (k := 3) rfl (iI_add _ _) (by decide) rfl (fun ls hl => ?_)
              refine lv_goto (tgt := 35) hx hb dX2_bestForTwo_130 (by decide) ?_
              exact ih_35 (4 * z5 + 4 - (k + 1) : Int).toNat (nlt (by omega) hd_35 (by omega)) (best) (k + 1) (Int.toNat_of_nonneg (by omega)) (by omega) (by have ey := chGn_yes (R := ch tu 2 g) (P := P) (a := z5) (m := m) (j := k - 4 * z5) (by omega) (by rw [show 4 * z5 + (k - 4 * z5) = k by omega]; omega); rw [show 4 * z5 + (k - 4 * z5) = k by omega, ← hz74, ch_won ((won_team (by omega)).mpr hz85), ← hbst.1] at ey; refine ⟨?_, by omega⟩; rw [show k + 1 - 4 * z5 = (k - 4 * z5) + 1 by omega, ey]; split <;> omega) _ _ hP hD hS ls (lv_sub hl [0, 1, 4, 5, 6, 7] rfl)
            · refine lv_iload hx hb dX2_bestForTwo_118 (lv_at hl 0 rfl) ?_
              refine lv_goto (tgt := 125) hx hb dX2_bestForTwo_120 (by decide) ?_
              refine lv_istore (lv' := [(4, .int (iI (0))), (7, .int (iI (0))), (6, .int (iI (v61))), (5, .int (iI (k))), (3, .int (iI (z5))), (0, .ref g0), (1, .int (iI (g))), (2, .int (iI (m)))]) hx hb dX2_bestForTwo_125 hl (by decide) rfl (fun ls hl => ?_)
              refine lv_iinc (v := iI (k + 1)) (lv' := [(5, .int (iI (k + 1))), (4, .int (iI (0))), (7, .int (iI (0))), (6, .int (iI (v61))), (3, .int (iI (z5))), (0, .ref g0), (1, .int (iI (g))), (2, .int (iI (m)))]) hx hb dX2_bestForTwo_127 hl (k := 3) rfl (iI_add _ _) (by decide) rfl (fun ls hl => ?_)
              refine lv_goto (tgt := 35) hx hb dX2_bestForTwo_130 (by decide) ?_
              exact ih_35 (4 * z5 + 4 - (k + 1) : Int).toNat (nlt (by omega) hd_35 (by omega)) (0) (k + 1) (Int.toNat_of_nonneg (by omega)) (by omega) (by have ey := chGn_yes (R := ch tu 2 g) (P := P) (a := z5) (m := m) (j := k - 4 * z5) (by omega) (by rw [show 4 * z5 + (k - 4 * z5) = k by omega]; omega); rw [show 4 * z5 + (k - 4 * z5) = k by omega, ← hz74, ch_won ((won_team (by omega)).mpr hz85), ← hbst.1] at ey; refine ⟨?_, by omega⟩; rw [show k + 1 - 4 * z5 = (k - 4 * z5) + 1 by omega, ey]; split <;> omega) _ _ hP hD hS ls (lv_sub hl [0, 1, 4, 5, 6, 7] rfl)
          · refine r_if_eq (tgt := 95) hx hb dX2_bestForTwo_88 (by decide) (by unfold rI; decide) (fun h88 => ?_) (fun h9 => absurd h9 (by omega))
            refine lv_aload_n hx hb dX2_bestForTwo_95 rfl (lv_at hl 4 rfl) ?_
            refine lv_iload_n hx hb dX2_bestForTwo_96 rfl (lv_at hl 5 rfl) ?_
            refine r_callVi (As := [.int (iI (g))]) (rest := []) (wr := []) S (c_X2_chanceOfTwo l D cI cL tw (g0) (g1) (g2) (g3) (tu) (ph) (mo) (gc) (th) ((uI P (k) (z74))) (C) (g) (uI_rng hB (by omega)) (by omega) (by omega)) gX2_bestForTwo_X2_chanceOfTwo rfl rfl rfl ⟨rfl, f_X2_chanceOfTwo⟩ hR (Nat.le_of_ble_eq_true rfl) (Nat.le_of_ble_eq_true rfl) (hE.kept hS.2.1) hP hD hS hA [0, 1, 2, 3] [] rfl rfl (by decide) rfl (by decide) (by decide) 0 rfl rfl rfl hl.1 rfl (Nat.le_of_ble_eq_true rfl) dX2_bestForTwo_97 ⟨Nat.zero_le _, Nat.zero_le _⟩ (fun z97 u97 H locs hz97 hP hD hS => ?_)
            have hP : va_P D vwCl [(g0, .inr (2, [.ref g1, .int (iI (tu)), .int (iI (ph)), .int (iI (mo)), .int (iI (gc)), .ref g2, .ref g3, .int (iI (th))])), (g1, .inl (cI, 16, .inl (aI (uI P (k) (z74))))), (g2, .inl (cI, 4, .inl (aI C))), (g3, .inl (cI, 7, .inl (aI wyI)))] H := hP.sub [0, 1, 2, 3] rfl
            have hD : va_D A [(g0, .inr (2, [.ref g1, .int (iI (tu)), .int (iI (ph)), .int (iI (mo)), .int (iI (gc)), .ref g2, .ref g3, .int (iI (th))])), (g1, .inl (cI, 16, .inl (aI (uI P (k) (z74))))), (g2, .inl (cI, 4, .inl (aI C))), (g3, .inl (cI, 7, .inl (aI wyI)))] := hD.sub [0, 1, 2, 3] (by decide) rfl
            have rz97 := ch_rng2 tu g (uI P (k) (z74))
            rw [← hz97] at rz97
            refine lv_istore (lv' := [(7, .int (iI (z97))), (6, .int (iI (v61))), (5, .int (iI (k))), (4, .int (iI (best))), (3, .int (iI (z5))), (0, .ref g0), (1, .int (iI (g))), (2, .int (iI (m)))]) hx hb dX2_bestForTwo_100 hl (by decide) rfl (fun ls hl => ?_)
            refine lv_aload_n hx hb dX2_bestForTwo_102 rfl (lv_at hl 5 rfl) ?_
            refine va_get (D := D) (ci := 2) (v := .ref g1) (C := RX2) (T := TX2) (N := 8) hx hb hts mu_X2_bestForTwo_X2 hown hE.1 hP 0 rfl rfl 0 (by decide) (hts _ mw_X2_bestForTwo_2) (fun _ h9 => h9) rfl dX2_bestForTwo_103 ?_
            refine lv_iload hx hb dX2_bestForTwo_106 (lv_at hl 2 rfl) ?_
            refine lv_iload hx hb dX2_bestForTwo_108 (lv_at hl 1 rfl) ?_
            refine r_iast hx hb hE.1 hP hD hS 1 (P := (uI P (k) (z74))) rfl (i := k) (v := v61) (by omega) (by omega) (by decide) (ws1 := [(g0, .inr (2, [.ref g1, .int (iI (tu)), .int (iI (ph)), .int (iI (mo)), .int (iI (gc)), .ref g2, .ref g3, .int (iI (th))])), (g1, .inl (cI, 16, .inl (aI (uI (uI P (k) (z74)) (k) (v61))))), (g2, .inl (cI, 4, .inl (aI C))), (g3, .inl (cI, 7, .inl (aI wyI)))]) rfl dX2_bestForTwo_110 (fun H locs hP hD hS => ?_)
            have e9 : uI (uI P k z74) k v61 = P := by rw [ev61]; exact uI_back _ _ _
            rw [e9] at hP hD
            refine lv_iload hx hb dX2_bestForTwo_111 (lv_at hl 0 rfl) ?_
            refine lv_iload hx hb dX2_bestForTwo_113 (lv_at hl 3 rfl) ?_
            refine r_icmp_le (tgt := 123) hx hb dX2_bestForTwo_115 (by decide) (by unfold rI; omega) (by unfold rI; omega) (fun h115 => ?_) (fun h115 => ?_)
            · refine lv_iload hx hb dX2_bestForTwo_123 (lv_at hl 3 rfl) ?_
              refine lv_istore (lv' := [(4, .int (iI (best))), (7, .int (iI (z97))), (6, .int (iI (v61))), (5, .int (iI (k))), (3, .int (iI (z5))), (0, .ref g0), (1, .int (iI (g))), (2, .int (iI (m)))]) hx hb dX2_bestForTwo_125 hl (by decide) rfl (fun ls hl => ?_)
              refine lv_iinc (v := iI (k + 1)) (lv' := [(5, .int (iI (k + 1))), (4, .int (iI (best))), (7, .int (iI (z97))), (6, .int (iI (v61))), (3, .int (iI (z5))), (0, .ref g0), (1, .int (iI (g))), (2, .int (iI (m)))]) hx hb dX2_bestForTwo_127 hl (k := 3) rfl (iI_add _ _) (by decide) rfl (fun ls hl => ?_)
              refine lv_goto (tgt := 35) hx hb dX2_bestForTwo_130 (by decide) ?_
              exact ih_35 (4 * z5 + 4 - (k + 1) : Int).toNat (nlt (by omega) hd_35 (by omega)) (best) (k + 1) (Int.toNat_of_nonneg (by omega)) (by omega) (by have ey := chGn_yes (R := ch tu 2 g) (P := P) (a := z5) (m := m) (j := k - 4 * z5) (by omega) (by rw [show 4 * z5 + (k - 4 * z5) = k by omega]; omega); rw [show 4 * z5 + (k - 4 * z5) = k by omega, ← hz74, ← hz97, ← hbst.1] at ey; refine ⟨?_, by omega⟩; rw [show k + 1 - 4 * z5 = (k - 4 * z5) + 1 by omega, ey]; split <;> omega) _ _ hP hD hS ls (lv_sub hl [0, 1, 4, 5, 6, 7] rfl)
            · refine lv_iload hx hb dX2_bestForTwo_118 (lv_at hl 0 rfl) ?_
              refine lv_goto (tgt := 125) hx hb dX2_bestForTwo_120 (by decide) ?_
              refine lv_istore (lv' := [(4, .int (iI (z97))), (7, .int (iI (z97))), (6, .int (iI (v61))), (5, .int (iI (k))), (3, .int (iI (z5))), (0, .ref g0), (1, .int (iI (g))), (2, .int (iI (m)))]) hx hb dX2_bestForTwo_125 hl (by decide) rfl (fun ls hl => ?_)
              refine lv_iinc (v := iI (k + 1)) (lv' := [(5, .int (iI (k + 1))), (4, .int (iI (z97))), (7, .int (iI (z97))), (6, .int (iI (v61))), (3, .int (iI (z5))), (0, .ref g0), (1, .int (iI (g))), (2, .int (iI (m)))]) hx hb dX2_bestForTwo_127 hl (k := 3) rfl (iI_add _ _) (by decide) rfl (fun ls hl => ?_)
              refine lv_goto (tgt := 35) hx hb dX2_bestForTwo_130 (by decide) ?_
              exact ih_35 (4 * z5 + 4 - (k + 1) : Int).toNat (nlt (by omega) hd_35 (by omega)) (z97) (k + 1) (Int.toNat_of_nonneg (by omega)) (by omega) (by have ey := chGn_yes (R := ch tu 2 g) (P := P) (a := z5) (m := m) (j := k - 4 * z5) (by omega) (by rw [show 4 * z5 + (k - 4 * z5) = k by omega]; omega); rw [show 4 * z5 + (k - 4 * z5) = k by omega, ← hz74, ← hz97, ← hbst.1] at ey; refine ⟨?_, by omega⟩; rw [show k + 1 - 4 * z5 = (k - 4 * z5) + 1 by omega, ey]; split <;> omega) _ _ hP hD hS ls (lv_sub hl [0, 1, 4, 5, 6, 7] rfl)
    exact lp_35 (4 * z5 + 4 - ((4) * (z5)) : Int).toNat (z21) ((4) * (z5)) (Int.toNat_of_nonneg (by omega)) (by omega) (⟨by rw [chGn_z (by rw [← hz13]; exact h16)]; exact hz21, by omega⟩) _ _ hP hD hS ls (lv_sub hl [0, 1, 2, 3, 4, 5] rfl)

set_option maxRecDepth 20000 in
theorem mw_X2_chanceOfThree_0 : (.fieldLink RX2 54 "PachisiYardModel" "turn" "I" : Cond) ∈ wsX2_chanceOfThree := by decide +kernel
set_option maxRecDepth 20000 in
theorem mu_X2_chanceOfThree_X2 : ∀ w ∈ wsX20, w ∈ wsX2_chanceOfThree := by decide +kernel
set_option maxRecDepth 20000 in
theorem mw_X2_chanceOfThree_2 : (.fieldLink RX2 16 "PachisiYardModel" "many" "[I" : Cond) ∈ wsX2_chanceOfThree := by decide +kernel
theorem f_X2_chanceOfThree : yX2_chanceOfThree.cls ≠ "java/lang/invoke/MethodHandle" ∧ yX2_chanceOfThree.cls ≠ "java/lang/invoke/VarHandle" ∧ (parseMethodDescriptor yX2_chanceOfThree.desc).map (fun d => d.parameters.length) = some 1 := by decide +kernel
set_option maxHeartbeats 4000000 in
set_option maxRecDepth 100000 in
theorem c_X2_chanceOfThree (l : Launch) (D : va_G) (cI cL : ClassId) (tw : Nat) (g0 : Nat) (g1 : Nat) (g2 : Nat) (g3 : Nat) (tu : Int) (ph : Int) (mo : Int) (gc : Int) (th : Int) (P : Int → Int) (C : Int → Int) (g : Int) (hB : ∀ i, 0 ≤ P i ∧ P i ≤ 72) (htu : 0 ≤ tu ∧ tu ≤ 3) (hg : 0 ≤ g ∧ g ≤ 2) : RWi l yX2_chanceOfThree wsX2_chanceOfThree { frames := 8, cells := 0, slots := 0, locals := 202 } D cI cL tw [.ref g0, .int (iI (g))] [(g0, .inr (2, [.ref g1, .int (iI (tu)), .int (iI (ph)), .int (iI (mo)), .int (iI (gc)), .ref g2, .ref g3, .int (iI (th))])), (g1, .inl (cI, 16, .inl (aI P))), (g2, .inl (cI, 4, .inl (aI C))), (g3, .inl (cI, 7, .inl (aI wyI)))] (fun (z : Int) (u : Unit) => z = ch tu 3 g P) (fun u : Unit => [(g0, .inr (2, [.ref g1, .int (iI (tu)), .int (iI (ph)), .int (iI (mo)), .int (iI (gc)), .ref g2, .ref g3, .int (iI (th))])), (g1, .inl (cI, 16, .inl (aI P))), (g2, .inl (cI, 4, .inl (aI C))), (g3, .inl (cI, 7, .inl (aI wyI)))]) := by
  refine rwi_of (cc := cX2_chanceOfThree) (maxL := 5) (rt := .int) (own := RX2) (by decide) rfl rfl (Or.inl rfl) (Nat.le_of_ble_eq_true rfl) ?_
  intro p e R s mt args below meth c H0 Q ls A S hR hE hP hD hS hA hl hret
  obtain ⟨hx, hb, hml, hown, hts⟩ := id S
  have hl : lv_has ls 5 [(0, .ref g0), (1, .int (iI (g)))] := hl
  refine r_iconst hx hb dX2_chanceOfThree_0 ?_
  refine lv_istore_n (lv' := [(2, .int (iI (0))), (0, .ref g0), (1, .int (iI (g)))]) hx hb dX2_chanceOfThree_1 rfl hl (by decide) rfl (fun ls hl => ?_)
  refine r_iconst hx hb dX2_chanceOfThree_2 ?_
  refine lv_istore_n (lv' := [(3, .int (iI (0))), (2, .int (iI (0))), (0, .ref g0), (1, .int (iI (g)))]) hx hb dX2_chanceOfThree_3 rfl hl (by decide) rfl (fun ls hl => ?_)
  have lp_4 : ∀ (d_4 : Nat) (n : Int) (k : Int), (d_4 : Int) = 7 - k → (0 ≤ k ∧ k ≤ 7) → (n = sZ (fun m => wyI m * chA tu g 2 (ch tu 2) P m) k) → ∀ (H : Heap) (locs : List Loc), va_P D vwCl [(g0, .inr (2, [.ref g1, .int (iI (tu)), .int (iI (ph)), .int (iI (mo)), .int (iI (gc)), .ref g2, .ref g3, .int (iI (th))])), (g1, .inl (cI, 16, .inl (aI P))), (g2, .inl (cI, 4, .inl (aI C))), (g3, .inl (cI, 7, .inl (aI wyI)))] H → va_D A [(g0, .inr (2, [.ref g1, .int (iI (tu)), .int (iI (ph)), .int (iI (mo)), .int (iI (gc)), .ref g2, .ref g3, .int (iI (th))])), (g1, .inl (cI, 16, .inl (aI P))), (g2, .inl (cI, 4, .inl (aI C))), (g3, .inl (cI, 7, .inl (aI wyI)))] → va_S A H0 H locs → ∀ ls : Array Slot, lv_has ls 5 [(3, .int (iI (k))), (2, .int (iI (n))), (0, .ref g0), (1, .int (iI (g)))] → W p l e R s mt args below meth c H locs 0 0 Q (F0 mt 4 ls []) := by
    intro d_4
    induction d_4 using Nat.strongRecOn with
    | ind d_4 ih_4 =>
    intro n k hd_4 hk hn H locs hP hD hS ls hl
    refine lv_iload_n hx hb dX2_chanceOfThree_4 rfl (lv_at hl 0 rfl) ?_
    refine r_bipush hx hb dX2_chanceOfThree_5 (by decide) ?_
    refine r_icmp_ge (tgt := 103) hx hb dX2_chanceOfThree_7 (by decide) (by unfold rI; omega) (by unfold rI; decide) (fun h7 => ?_) (fun h7 => ?_)
    · refine lv_iload_n hx hb dX2_chanceOfThree_103 rfl (lv_at hl 1 rfl) ?_
      exact hret (n) () _ _ _ _ dX2_chanceOfThree_104 (by have e : k = 7 := (by omega); subst e; exact hn) hP hD hS
    · refine lv_iload_n hx hb dX2_chanceOfThree_10 rfl (lv_at hl 0 rfl) ?_
      refine r_callS (As := [.int (iI (k))]) (rest := []) S (c_X2_isGrace l D cI cL tw (k) (by omega)) gX2_chanceOfThree_X2_isGrace rfl rfl rfl f_X2_isGrace hR (Nat.le_of_ble_eq_true rfl) (Nat.le_of_ble_eq_true rfl) (hE.kept hS.2.1) rfl hl.1 rfl (Nat.le_of_ble_eq_true rfl) dX2_chanceOfThree_11 ⟨Nat.zero_le _, Nat.zero_le _⟩ (fun z11 hz11 => ?_)
      rcases hz11 with ⟨rfl, hz11⟩ | ⟨rfl, hz11⟩
      · refine r_if_eq (tgt := 26) hx hb dX2_chanceOfThree_14 (by decide) (by unfold rI; decide) (fun h9 => absurd h9 (by omega)) (fun h14 => ?_)
        refine lv_iload_n hx hb dX2_chanceOfThree_17 rfl (lv_at hl 3 rfl) ?_
        refine r_iconst hx hb dX2_chanceOfThree_18 ?_
        refine r_icmp_ne (tgt := 26) hx hb dX2_chanceOfThree_19 (by decide) (by unfold rI; omega) (by unfold rI; decide) (fun h19 => ?_) (fun h19 => ?_)
        · refine r_iconst hx hb dX2_chanceOfThree_26 ?_
          refine lv_istore (lv' := [(4, .int (iI (0))), (3, .int (iI (k))), (2, .int (iI (n))), (0, .ref g0), (1, .int (iI (g)))]) hx hb dX2_chanceOfThree_27 hl (by decide) rfl (fun ls hl => ?_)
          refine lv_iload hx hb dX2_chanceOfThree_29 (lv_at hl 0 rfl) ?_
          refine r_if_ne (tgt := 67) hx hb dX2_chanceOfThree_31 (by decide) (by unfold rI; decide) (fun h9 => absurd h9 (by omega)) (fun h31 => ?_)
          refine lv_aload_n hx hb dX2_chanceOfThree_34 rfl (lv_at hl 3 rfl) ?_
          refine lv_aload_n hx hb dX2_chanceOfThree_35 rfl (lv_at hl 3 rfl) ?_
          refine lv_aload_n hx hb dX2_chanceOfThree_36 rfl (lv_at hl 3 rfl) ?_
          refine va_get (D := D) (ci := 2) (v := .int (iI (tu))) (C := RX2) (T := TX2) (N := 8) hx hb hts mu_X2_chanceOfThree_X2 hown hE.1 hP 0 rfl rfl 1 (by decide) (hts _ mw_X2_chanceOfThree_0) (fun _ h9 => h9) rfl dX2_chanceOfThree_37 ?_
          refine r_callV (As := [.int (iI (tu))]) (rest := [.ref g0]) S (c_X2_movesFor l D cI cL tw (g0) (g1) (g2) (g3) (tu) (ph) (mo) (gc) (th) (P) (C) (tu) (hB) (by omega)) gX2_chanceOfThree_X2_movesFor rfl rfl rfl ⟨rfl, f_X2_movesFor⟩ hR (Nat.le_of_ble_eq_true rfl) (Nat.le_of_ble_eq_true rfl) (hE.kept hS.2.1) hP [0, 1, 2, 3] rfl 0 rfl rfl rfl hl.1 rfl (Nat.le_of_ble_eq_true rfl) dX2_chanceOfThree_40 ⟨Nat.zero_le _, Nat.zero_le _⟩ (fun z40 hz40 => ?_)
          obtain ⟨hz40, rz40⟩ := hz40
          refine lv_iload_n hx hb dX2_chanceOfThree_43 rfl (lv_at hl 1 rfl) ?_
          refine r_iconst hx hb dX2_chanceOfThree_44 ?_
          refine r_callV (As := [.int (iI (z40)), .int (iI (k)), .int (iI (1))]) (rest := []) S (c_X2_does l D cI cL tw (g0) (g1) (g2) (g3) (tu) (ph) (mo) (gc) (th) (P) (C) (z40) (k) (1) (hB) (by omega) (by omega) (by omega)) gX2_chanceOfThree_X2_does rfl rfl rfl ⟨rfl, f_X2_does⟩ hR (Nat.le_of_ble_eq_true rfl) (Nat.le_of_ble_eq_true rfl) (hE.kept hS.2.1) hP [0, 1, 2, 3] rfl 0 rfl rfl rfl hl.1 rfl (Nat.le_of_ble_eq_true rfl) dX2_chanceOfThree_45 ⟨Nat.zero_le _, Nat.zero_le _⟩ (fun z45 hz45 => ?_)
          rcases hz45 with ⟨rfl, hz45⟩ | ⟨rfl, hz45⟩
          · refine r_if_eq (tgt := 67) hx hb dX2_chanceOfThree_48 (by decide) (by unfold rI; decide) (fun h9 => absurd h9 (by omega)) (fun h48 => ?_)
            refine lv_iload_n hx hb dX2_chanceOfThree_51 rfl (lv_at hl 2 rfl) ?_
            refine lv_aload_n hx hb dX2_chanceOfThree_52 rfl (lv_at hl 3 rfl) ?_
            refine va_get (D := D) (ci := 2) (v := .ref g3) (C := RX2) (T := TX2) (N := 8) hx hb hts mu_X2_chanceOfThree_X2 hown hE.1 hP 0 rfl rfl 6 (by decide) (hts _ mw_X2_chanceOfThree_2) (fun _ h9 => h9) rfl dX2_chanceOfThree_53 ?_
            refine lv_iload_n hx hb dX2_chanceOfThree_56 rfl (lv_at hl 1 rfl) ?_
            refine r_iald hx hb hE.1 hP 3 rfl (i := k) (by omega) (by omega) (by decide) dX2_chanceOfThree_57 ?_
            refine r_sipush hx hb dX2_chanceOfThree_58 (by decide) ?_
            refine r_imul hx hb dX2_chanceOfThree_61 ?_
            refine r_iadd hx hb dX2_chanceOfThree_62 ?_
            refine lv_istore_n (lv' := [(2, .int (iI ((n) + ((wyI (k)) * (4096))))), (4, .int (iI (0))), (3, .int (iI (k))), (0, .ref g0), (1, .int (iI (g)))]) hx hb dX2_chanceOfThree_63 rfl hl (by decide) rfl (fun ls hl => ?_)
            refine lv_goto (tgt := 97) hx hb dX2_chanceOfThree_64 (by decide) ?_
            refine lv_iinc (v := iI (k + 1)) (lv' := [(3, .int (iI (k + 1))), (2, .int (iI ((n) + ((wyI (k)) * (4096))))), (4, .int (iI (0))), (0, .ref g0), (1, .int (iI (g)))]) hx hb dX2_chanceOfThree_97 hl (k := 2) rfl (iI_add _ _) (by decide) rfl (fun ls hl => ?_)
            refine lv_goto (tgt := 4) hx hb dX2_chanceOfThree_100 (by decide) ?_
            exact ih_4 (7 - (k + 1) : Int).toNat (nlt (by omega) hd_4 (by omega)) ((n) + ((wyI (k)) * (4096))) (k + 1) (Int.toNat_of_nonneg (by omega)) (by omega) (by rw [sZ_s _ (by omega), ← hn]; show _ = n + wyI k * chA tu g 2 (ch tu 2) P k; rw [show chA tu g 2 (ch tu 2) P k = 4096 from (chA_cap (by omega) (by rw [← hz40]; exact hz45)).trans (by decide)]) _ _ hP hD hS ls (lv_sub hl [0, 1, 3, 4] rfl)
          · refine r_if_eq (tgt := 67) hx hb dX2_chanceOfThree_48 (by decide) (by unfold rI; decide) (fun h48 => ?_) (fun h9 => absurd h9 (by omega))
            refine lv_iload_n hx hb dX2_chanceOfThree_67 rfl (lv_at hl 1 rfl) ?_
            refine r_callS (As := [.int (iI (k))]) (rest := []) S (c_X2_isGrace l D cI cL tw (k) (by omega)) gX2_chanceOfThree_X2_isGrace rfl rfl rfl f_X2_isGrace hR (Nat.le_of_ble_eq_true rfl) (Nat.le_of_ble_eq_true rfl) (hE.kept hS.2.1) rfl hl.1 rfl (Nat.le_of_ble_eq_true rfl) dX2_chanceOfThree_68 ⟨Nat.zero_le _, Nat.zero_le _⟩ (fun z68 hz68 => ?_)
            rcases hz68 with ⟨rfl, hz68⟩ | ⟨rfl, hz68⟩
            · refine r_if_eq (tgt := 97) hx hb dX2_chanceOfThree_71 (by decide) (by unfold rI; decide) (fun h9 => absurd h9 (by omega)) (fun h71 => ?_)
              refine lv_iload hx hb dX2_chanceOfThree_74 (lv_at hl 0 rfl) ?_
              refine r_if_ne (tgt := 97) hx hb dX2_chanceOfThree_76 (by decide) (by unfold rI; decide) (fun h9 => absurd h9 (by omega)) (fun h76 => ?_)
              refine lv_iload_n hx hb dX2_chanceOfThree_79 rfl (lv_at hl 2 rfl) ?_
              refine lv_aload_n hx hb dX2_chanceOfThree_80 rfl (lv_at hl 3 rfl) ?_
              refine va_get (D := D) (ci := 2) (v := .ref g3) (C := RX2) (T := TX2) (N := 8) hx hb hts mu_X2_chanceOfThree_X2 hown hE.1 hP 0 rfl rfl 6 (by decide) (hts _ mw_X2_chanceOfThree_2) (fun _ h9 => h9) rfl dX2_chanceOfThree_81 ?_
              refine lv_iload_n hx hb dX2_chanceOfThree_84 rfl (lv_at hl 1 rfl) ?_
              refine r_iald hx hb hE.1 hP 3 rfl (i := k) (by omega) (by omega) (by decide) dX2_chanceOfThree_85 ?_
              refine lv_aload_n hx hb dX2_chanceOfThree_86 rfl (lv_at hl 3 rfl) ?_
              refine lv_iload_n hx hb dX2_chanceOfThree_87 rfl (lv_at hl 4 rfl) ?_
              refine r_iconst hx hb dX2_chanceOfThree_88 ?_
              refine r_iadd hx hb dX2_chanceOfThree_89 ?_
              refine lv_iload_n hx hb dX2_chanceOfThree_90 rfl (lv_at hl 1 rfl) ?_
              refine r_callVi (As := [.int (iI ((g) + (1))), .int (iI (k))]) (rest := [.int (iI (wyI (k))), .int (iI (n))]) (wr := []) S (c_X2_bestForTwo l D cI cL tw (g0) (g1) (g2) (g3) (tu) (ph) (mo) (gc) (th) (P) (C) ((g) + (1)) (k) (hB) (by omega) (by omega) (by omega)) gX2_chanceOfThree_X2_bestForTwo rfl rfl rfl ⟨rfl, f_X2_bestForTwo⟩ hR (Nat.le_of_ble_eq_true rfl) (Nat.le_of_ble_eq_true rfl) (hE.kept hS.2.1) hP hD hS hA [0, 1, 2, 3] [] rfl rfl (by decide) rfl (by decide) (by decide) 0 rfl rfl rfl hl.1 rfl (Nat.le_of_ble_eq_true rfl) dX2_chanceOfThree_91 ⟨Nat.zero_le _, Nat.zero_le _⟩ (fun z91 u91 H locs hz91 hP hD hS => ?_)
              have hP : va_P D vwCl [(g0, .inr (2, [.ref g1, .int (iI (tu)), .int (iI (ph)), .int (iI (mo)), .int (iI (gc)), .ref g2, .ref g3, .int (iI (th))])), (g1, .inl (cI, 16, .inl (aI P))), (g2, .inl (cI, 4, .inl (aI C))), (g3, .inl (cI, 7, .inl (aI wyI)))] H := hP.sub [0, 1, 2, 3] rfl
              have hD : va_D A [(g0, .inr (2, [.ref g1, .int (iI (tu)), .int (iI (ph)), .int (iI (mo)), .int (iI (gc)), .ref g2, .ref g3, .int (iI (th))])), (g1, .inl (cI, 16, .inl (aI P))), (g2, .inl (cI, 4, .inl (aI C))), (g3, .inl (cI, 7, .inl (aI wyI)))] := hD.sub [0, 1, 2, 3] (by decide) rfl
              refine r_imul hx hb dX2_chanceOfThree_94 ?_
              refine r_iadd hx hb dX2_chanceOfThree_95 ?_
              refine lv_istore_n (lv' := [(2, .int (iI ((n) + ((wyI (k)) * (z91))))), (4, .int (iI (0))), (3, .int (iI (k))), (0, .ref g0), (1, .int (iI (g)))]) hx hb dX2_chanceOfThree_96 rfl hl (by decide) rfl (fun ls hl => ?_)
              refine lv_iinc (v := iI (k + 1)) (lv' := [(3, .int (iI (k + 1))), (2, .int (iI ((n) + ((wyI (k)) * (z91))))), (4, .int (iI (0))), (0, .ref g0), (1, .int (iI (g)))]) hx hb dX2_chanceOfThree_97 hl (k := 2) rfl (iI_add _ _) (by decide) rfl (fun ls hl => ?_)
              refine lv_goto (tgt := 4) hx hb dX2_chanceOfThree_100 (by decide) ?_
              exact ih_4 (7 - (k + 1) : Int).toNat (nlt (by omega) hd_4 (by omega)) ((n) + ((wyI (k)) * (z91))) (k + 1) (Int.toNat_of_nonneg (by omega)) (by omega) (by rw [sZ_s _ (by omega), ← hn]; show _ = n + wyI k * chA tu g 2 (ch tu 2) P k; rw [show chA tu g 2 (ch tu 2) P k = z91 from (chA_go (by omega) (by rw [← hz40]; exact hz45) (by omega)).trans hz91.symm]) _ _ hP hD hS ls (lv_sub hl [0, 1, 3, 4] rfl)
            · exact absurd hz11 hz68
        · refine r_iconst hx hb dX2_chanceOfThree_22 ?_
          refine lv_goto (tgt := 27) hx hb dX2_chanceOfThree_23 (by decide) ?_
          refine lv_istore (lv' := [(4, .int (iI (1))), (3, .int (iI (k))), (2, .int (iI (n))), (0, .ref g0), (1, .int (iI (g)))]) hx hb dX2_chanceOfThree_27 hl (by decide) rfl (fun ls hl => ?_)
          refine lv_iload hx hb dX2_chanceOfThree_29 (lv_at hl 0 rfl) ?_
          refine r_if_ne (tgt := 67) hx hb dX2_chanceOfThree_31 (by decide) (by unfold rI; decide) (fun h31 => ?_) (fun h9 => absurd h9 (by omega))
          refine lv_iload_n hx hb dX2_chanceOfThree_67 rfl (lv_at hl 1 rfl) ?_
          refine r_callS (As := [.int (iI (k))]) (rest := []) S (c_X2_isGrace l D cI cL tw (k) (by omega)) gX2_chanceOfThree_X2_isGrace rfl rfl rfl f_X2_isGrace hR (Nat.le_of_ble_eq_true rfl) (Nat.le_of_ble_eq_true rfl) (hE.kept hS.2.1) rfl hl.1 rfl (Nat.le_of_ble_eq_true rfl) dX2_chanceOfThree_68 ⟨Nat.zero_le _, Nat.zero_le _⟩ (fun z68 hz68 => ?_)
          rcases hz68 with ⟨rfl, hz68⟩ | ⟨rfl, hz68⟩
          · refine r_if_eq (tgt := 97) hx hb dX2_chanceOfThree_71 (by decide) (by unfold rI; decide) (fun h9 => absurd h9 (by omega)) (fun h71 => ?_)
            refine lv_iload hx hb dX2_chanceOfThree_74 (lv_at hl 0 rfl) ?_
            refine r_if_ne (tgt := 97) hx hb dX2_chanceOfThree_76 (by decide) (by unfold rI; decide) (fun h76 => ?_) (fun h9 => absurd h9 (by omega))
            refine lv_iinc (v := iI (k + 1)) (lv' := [(3, .int (iI (k + 1))), (4, .int (iI (1))), (2, .int (iI (n))), (0, .ref g0), (1, .int (iI (g)))]) hx hb dX2_chanceOfThree_97 hl (k := 1) rfl (iI_add _ _) (by decide) rfl (fun ls hl => ?_)
            refine lv_goto (tgt := 4) hx hb dX2_chanceOfThree_100 (by decide) ?_
            exact ih_4 (7 - (k + 1) : Int).toNat (nlt (by omega) hd_4 (by omega)) (n) (k + 1) (Int.toNat_of_nonneg (by omega)) (by omega) (by rw [sZ_s _ (by omega), ← hn]; show _ = n + wyI k * chA tu g 2 (ch tu 2) P k; rw [chA_lost (by omega), Int.mul_zero, Int.add_zero]) _ _ hP hD hS ls (lv_sub hl [0, 2, 3, 4] rfl)
          · exact absurd hz11 hz68
      · refine r_if_eq (tgt := 26) hx hb dX2_chanceOfThree_14 (by decide) (by unfold rI; decide) (fun h14 => ?_) (fun h9 => absurd h9 (by omega))
        refine r_iconst hx hb dX2_chanceOfThree_26 ?_
        refine lv_istore (lv' := [(4, .int (iI (0))), (3, .int (iI (k))), (2, .int (iI (n))), (0, .ref g0), (1, .int (iI (g)))]) hx hb dX2_chanceOfThree_27 hl (by decide) rfl (fun ls hl => ?_)
        refine lv_iload hx hb dX2_chanceOfThree_29 (lv_at hl 0 rfl) ?_
        refine r_if_ne (tgt := 67) hx hb dX2_chanceOfThree_31 (by decide) (by unfold rI; decide) (fun h9 => absurd h9 (by omega)) (fun h31 => ?_)
        refine lv_aload_n hx hb dX2_chanceOfThree_34 rfl (lv_at hl 3 rfl) ?_
        refine lv_aload_n hx hb dX2_chanceOfThree_35 rfl (lv_at hl 3 rfl) ?_
        refine lv_aload_n hx hb dX2_chanceOfThree_36 rfl (lv_at hl 3 rfl) ?_
        refine va_get (D := D) (ci := 2) (v := .int (iI (tu))) (C := RX2) (T := TX2) (N := 8) hx hb hts mu_X2_chanceOfThree_X2 hown hE.1 hP 0 rfl rfl 1 (by decide) (hts _ mw_X2_chanceOfThree_0) (fun _ h9 => h9) rfl dX2_chanceOfThree_37 ?_
        refine r_callV (As := [.int (iI (tu))]) (rest := [.ref g0]) S (c_X2_movesFor l D cI cL tw (g0) (g1) (g2) (g3) (tu) (ph) (mo) (gc) (th) (P) (C) (tu) (hB) (by omega)) gX2_chanceOfThree_X2_movesFor rfl rfl rfl ⟨rfl, f_X2_movesFor⟩ hR (Nat.le_of_ble_eq_true rfl) (Nat.le_of_ble_eq_true rfl) (hE.kept hS.2.1) hP [0, 1, 2, 3] rfl 0 rfl rfl rfl hl.1 rfl (Nat.le_of_ble_eq_true rfl) dX2_chanceOfThree_40 ⟨Nat.zero_le _, Nat.zero_le _⟩ (fun z40 hz40 => ?_)
        obtain ⟨hz40, rz40⟩ := hz40
        refine lv_iload_n hx hb dX2_chanceOfThree_43 rfl (lv_at hl 1 rfl) ?_
        refine r_iconst hx hb dX2_chanceOfThree_44 ?_
        refine r_callV (As := [.int (iI (z40)), .int (iI (k)), .int (iI (1))]) (rest := []) S (c_X2_does l D cI cL tw (g0) (g1) (g2) (g3) (tu) (ph) (mo) (gc) (th) (P) (C) (z40) (k) (1) (hB) (by omega) (by omega) (by omega)) gX2_chanceOfThree_X2_does rfl rfl rfl ⟨rfl, f_X2_does⟩ hR (Nat.le_of_ble_eq_true rfl) (Nat.le_of_ble_eq_true rfl) (hE.kept hS.2.1) hP [0, 1, 2, 3] rfl 0 rfl rfl rfl hl.1 rfl (Nat.le_of_ble_eq_true rfl) dX2_chanceOfThree_45 ⟨Nat.zero_le _, Nat.zero_le _⟩ (fun z45 hz45 => ?_)
        rcases hz45 with ⟨rfl, hz45⟩ | ⟨rfl, hz45⟩
        · refine r_if_eq (tgt := 67) hx hb dX2_chanceOfThree_48 (by decide) (by unfold rI; decide) (fun h9 => absurd h9 (by omega)) (fun h48 => ?_)
          refine lv_iload_n hx hb dX2_chanceOfThree_51 rfl (lv_at hl 2 rfl) ?_
          refine lv_aload_n hx hb dX2_chanceOfThree_52 rfl (lv_at hl 3 rfl) ?_
          refine va_get (D := D) (ci := 2) (v := .ref g3) (C := RX2) (T := TX2) (N := 8) hx hb hts mu_X2_chanceOfThree_X2 hown hE.1 hP 0 rfl rfl 6 (by decide) (hts _ mw_X2_chanceOfThree_2) (fun _ h9 => h9) rfl dX2_chanceOfThree_53 ?_
          refine lv_iload_n hx hb dX2_chanceOfThree_56 rfl (lv_at hl 1 rfl) ?_
          refine r_iald hx hb hE.1 hP 3 rfl (i := k) (by omega) (by omega) (by decide) dX2_chanceOfThree_57 ?_
          refine r_sipush hx hb dX2_chanceOfThree_58 (by decide) ?_
          refine r_imul hx hb dX2_chanceOfThree_61 ?_
          refine r_iadd hx hb dX2_chanceOfThree_62 ?_
          refine lv_istore_n (lv' := [(2, .int (iI ((n) + ((wyI (k)) * (4096))))), (4, .int (iI (0))), (3, .int (iI (k))), (0, .ref g0), (1, .int (iI (g)))]) hx hb dX2_chanceOfThree_63 rfl hl (by decide) rfl (fun ls hl => ?_)
          refine lv_goto (tgt := 97) hx hb dX2_chanceOfThree_64 (by decide) ?_
          refine lv_iinc (v := iI (k + 1)) (lv' := [(3, .int (iI (k + 1))), (2, .int (iI ((n) + ((wyI (k)) * (4096))))), (4, .int (iI (0))), (0, .ref g0), (1, .int (iI (g)))]) hx hb dX2_chanceOfThree_97 hl (k := 2) rfl (iI_add _ _) (by decide) rfl (fun ls hl => ?_)
          refine lv_goto (tgt := 4) hx hb dX2_chanceOfThree_100 (by decide) ?_
          exact ih_4 (7 - (k + 1) : Int).toNat (nlt (by omega) hd_4 (by omega)) ((n) + ((wyI (k)) * (4096))) (k + 1) (Int.toNat_of_nonneg (by omega)) (by omega) (by rw [sZ_s _ (by omega), ← hn]; show _ = n + wyI k * chA tu g 2 (ch tu 2) P k; rw [show chA tu g 2 (ch tu 2) P k = 4096 from (chA_cap (by omega) (by rw [← hz40]; exact hz45)).trans (by decide)]) _ _ hP hD hS ls (lv_sub hl [0, 1, 3, 4] rfl)
        · refine r_if_eq (tgt := 67) hx hb dX2_chanceOfThree_48 (by decide) (by unfold rI; decide) (fun h48 => ?_) (fun h9 => absurd h9 (by omega))
          refine lv_iload_n hx hb dX2_chanceOfThree_67 rfl (lv_at hl 1 rfl) ?_
          refine r_callS (As := [.int (iI (k))]) (rest := []) S (c_X2_isGrace l D cI cL tw (k) (by omega)) gX2_chanceOfThree_X2_isGrace rfl rfl rfl f_X2_isGrace hR (Nat.le_of_ble_eq_true rfl) (Nat.le_of_ble_eq_true rfl) (hE.kept hS.2.1) rfl hl.1 rfl (Nat.le_of_ble_eq_true rfl) dX2_chanceOfThree_68 ⟨Nat.zero_le _, Nat.zero_le _⟩ (fun z68 hz68 => ?_)
          rcases hz68 with ⟨rfl, hz68⟩ | ⟨rfl, hz68⟩
          · exact absurd hz68 hz11
          · refine r_if_eq (tgt := 97) hx hb dX2_chanceOfThree_71 (by decide) (by unfold rI; decide) (fun h71 => ?_) (fun h9 => absurd h9 (by omega))
            refine lv_iinc (v := iI (k + 1)) (lv' := [(3, .int (iI (k + 1))), (4, .int (iI (0))), (2, .int (iI (n))), (0, .ref g0), (1, .int (iI (g)))]) hx hb dX2_chanceOfThree_97 hl (k := 1) rfl (iI_add _ _) (by decide) rfl (fun ls hl => ?_)
            refine lv_goto (tgt := 4) hx hb dX2_chanceOfThree_100 (by decide) ?_
            exact ih_4 (7 - (k + 1) : Int).toNat (nlt (by omega) hd_4 (by omega)) (n) (k + 1) (Int.toNat_of_nonneg (by omega)) (by omega) (by rw [sZ_s _ (by omega), ← hn]; show _ = n + wyI k * chA tu g 2 (ch tu 2) P k; rw [chA_end (by rw [← hz40]; exact hz45) (by omega), Int.mul_zero, Int.add_zero]) _ _ hP hD hS ls (lv_sub hl [0, 2, 3, 4] rfl)
  exact lp_4 (7 - (0) : Int).toNat (0) (0) (Int.toNat_of_nonneg (by omega)) (by omega) ((sZ_0 _).symm) _ _ hP hD hS ls (lv_sub hl [0, 1, 2, 3] rfl)
