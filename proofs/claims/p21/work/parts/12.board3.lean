set_option maxRecDepth 20000 in
theorem mw_X0_addOn_0 : (.fieldLink RX0 15 "PachisiYard$Board" "counts" "[I" : Cond) ∈ wsX0_addOn := by decide +kernel
set_option maxRecDepth 20000 in
theorem mu_X0_addOn_X0 : ∀ w ∈ wsX00, w ∈ wsX0_addOn := by decide +kernel
theorem f_X0_addOn : yX0_addOn.cls ≠ "java/lang/invoke/MethodHandle" ∧ yX0_addOn.cls ≠ "java/lang/invoke/VarHandle" ∧ (parseMethodDescriptor yX0_addOn.desc).map (fun d => d.parameters.length) = some 3 := by decide +kernel
set_option maxHeartbeats 4000000 in
set_option maxRecDepth 100000 in
theorem c_X0_addOn (l : Launch) (D : va_G) (cI cL : ClassId) (tw : Nat) (b : Nat) (pq : Nat) (cq : Nat) (F : Int → Int) (q : Int) (t : Int) (n : Int) (hq : -1 ≤ q ∧ q ≤ 67) (ht : 0 ≤ t ∧ t ≤ 1) : RWv l yX0_addOn wsX0_addOn { frames := 0, cells := 0, slots := 0, locals := 0 } D cI cL tw [.ref b, .int (iI (q)), .int (iI (t)), .int (iI (n))] [(b, .inr (0, [.ref pq, .ref cq])), (cq, .inl (cI, 136, .inl (aI F)))] (fun (u : Unit) => True) (fun u : Unit => [(b, .inr (0, [.ref pq, .ref cq])), (cq, .inl (cI, 136, .inl (aI (adF F (q) (t) (n)))))]) := by
  refine rwv_of (cc := cX0_addOn) (maxL := 5) (own := RX0) (by decide) rfl rfl (Nat.le_of_ble_eq_true rfl) ?_
  intro p e R s mt args below meth c H0 Q ls A S hR hE hP hD hS hA hl hret
  obtain ⟨hx, hb, hml, hown, hts⟩ := id S
  have hl : lv_has ls 5 [(0, .ref b), (1, .int (iI (q))), (2, .int (iI (t))), (3, .int (iI (n)))] := hl
  refine lv_iload_n hx hb dX0_addOn_0 rfl (lv_at hl 2 rfl) ?_
  refine r_bipush hx hb dX0_addOn_1 (by decide) ?_
  refine r_imul hx hb dX0_addOn_3 ?_
  refine lv_iload_n hx hb dX0_addOn_4 rfl (lv_at hl 1 rfl) ?_
  refine r_iadd hx hb dX0_addOn_5 ?_
  refine lv_istore (lv' := [(4, .int (iI (((t) * (68)) + (q)))), (0, .ref b), (1, .int (iI (q))), (2, .int (iI (t))), (3, .int (iI (n)))]) hx hb dX0_addOn_6 hl (by decide) rfl (fun ls hl => ?_)
  refine lv_iload_n hx hb dX0_addOn_8 rfl (lv_at hl 2 rfl) ?_
  refine r_if_lt (tgt := 38) hx hb dX0_addOn_9 (by decide) (by unfold rI; omega) (fun h9 => ?_) (fun h9 => ?_)
  · have e1 : adF F q t n = F := by unfold adF; rw [if_neg (by omega)]
    exact hret  () _ _ _ _ dX0_addOn_38 (by trivial) (by rw [e1]; exact hP) (by rw [e1]; exact hD) hS
  · refine lv_iload hx hb dX0_addOn_12 (lv_at hl 0 rfl) ?_
    refine r_if_lt (tgt := 38) hx hb dX0_addOn_14 (by decide) (by unfold rI; omega) (fun h9 => absurd h9 (by omega)) (fun h14 => ?_)
    refine lv_iload hx hb dX0_addOn_17 (lv_at hl 0 rfl) ?_
    refine lv_aload_n hx hb dX0_addOn_19 rfl (lv_at hl 1 rfl) ?_
    refine va_get (D := D) (ci := 0) (v := .ref cq) (C := RX0) (T := TX0) (N := 2) hx hb hts mu_X0_addOn_X0 hown hE.1 hP 0 rfl rfl 1 (by decide) (hts _ mw_X0_addOn_0) (fun _ h9 => h9) rfl dX0_addOn_20 ?_
    refine r_alen hx hb hE.1 hP 1 rfl dX0_addOn_23 ?_
    refine r_top 136 rfl ?_
    refine r_icmp_ge (tgt := 38) hx hb dX0_addOn_24 (by decide) (by unfold rI; omega) (by unfold rI; decide) (fun h9 => absurd h9 (by omega)) (fun h24 => ?_)
    refine lv_aload_n hx hb dX0_addOn_27 rfl (lv_at hl 1 rfl) ?_
    refine va_get (D := D) (ci := 0) (v := .ref cq) (C := RX0) (T := TX0) (N := 2) hx hb hts mu_X0_addOn_X0 hown hE.1 hP 0 rfl rfl 1 (by decide) (hts _ mw_X0_addOn_0) (fun _ h9 => h9) rfl dX0_addOn_28 ?_
    refine lv_iload hx hb dX0_addOn_31 (lv_at hl 0 rfl) ?_
    refine lv_dup2_11 hx hb dX0_addOn_33 rfl rfl ?_
    refine r_iald hx hb hE.1 hP 1 rfl (i := ((t) * (68)) + (q)) (by omega) (by omega) (by decide) dX0_addOn_34 ?_
    refine lv_iload_n hx hb dX0_addOn_35 rfl (lv_at hl 4 rfl) ?_
    refine r_iadd hx hb dX0_addOn_36 ?_
    refine r_iast hx hb hE.1 hP hD hS 1 (P := F) rfl (i := ((t) * (68)) + (q)) (v := (F (((t) * (68)) + (q))) + (n)) (by omega) (by omega) (by decide) (ws1 := [(b, .inr (0, [.ref pq, .ref cq])), (cq, .inl (cI, 136, .inl (aI (uI F (((t) * (68)) + (q)) ((F (((t) * (68)) + (q))) + (n))))))]) rfl dX0_addOn_37 (fun H locs hP hD hS => ?_)
    have e1 : adF F q t n = (uI F (((t) * (68)) + (q)) ((F (((t) * (68)) + (q))) + (n))) := by unfold adF; rw [if_pos (by omega)]
    exact hret  () _ _ _ _ dX0_addOn_38 (by trivial) (by rw [e1]; exact hP) (by rw [e1]; exact hD) hS

set_option maxRecDepth 20000 in
theorem mw_X0_place_0 : (.fieldLink RX0 9 "PachisiYard$Board" "positions" "[I" : Cond) ∈ wsX0_place := by decide +kernel
set_option maxRecDepth 20000 in
theorem mu_X0_place_X0 : ∀ w ∈ wsX00, w ∈ wsX0_place := by decide +kernel
set_option maxRecDepth 20000 in
theorem mw_X0_place_2 : (.initialized RX1 : Cond) ∈ wsX0_place := by decide +kernel
set_option maxRecDepth 20000 in
theorem mw_X0_place_3 : (.static yX1_teamOf : Cond) ∈ wsX0_place := by decide +kernel
theorem f_X0_place : yX0_place.cls ≠ "java/lang/invoke/MethodHandle" ∧ yX0_place.cls ≠ "java/lang/invoke/VarHandle" ∧ (parseMethodDescriptor yX0_place.desc).map (fun d => d.parameters.length) = some 3 := by decide +kernel
set_option maxHeartbeats 4000000 in
set_option maxRecDepth 100000 in
theorem c_X0_place (l : Launch) (D : va_G) (cI cL : ClassId) (tw : Nat) (b : Nat) (pq : Nat) (cq : Nat) (P : Int → Int) (a : Int) (j : Int) (v : Int) (hB : ∀ i, 0 ≤ P i ∧ P i ≤ 72) (ha : 0 ≤ a ∧ a ≤ 3) (hj : 0 ≤ j ∧ j < 4) (hv : 0 ≤ v ∧ v ≤ 72) : RWv l yX0_place wsX0_place { frames := 1, cells := 0, slots := 0, locals := 24 } D cI cL tw [.ref b, .int (iI (a)), .int (iI (j)), .int (iI (v))] [(b, .inr (0, [.ref pq, .ref cq])), (pq, .inl (cI, 16, .inl (aI P))), (cq, .inl (cI, 136, .inl (aI (cnt P))))] (fun (u : Unit) => True) (fun u : Unit => [(b, .inr (0, [.ref pq, .ref cq])), (pq, .inl (cI, 16, .inl (aI (uI P (4 * (a) + (j)) (v))))), (cq, .inl (cI, 136, .inl (aI (cnt (uI P (4 * (a) + (j)) (v))))))]) := by
  refine rwv_of (cc := cX0_place) (maxL := 5) (own := RX0) (by decide) rfl rfl (Nat.le_of_ble_eq_true rfl) ?_
  intro p e R s mt args below meth c H0 Q ls A S hR hE hP hD hS hA hl hret
  obtain ⟨hx, hb, hml, hown, hts⟩ := id S
  have hl : lv_has ls 5 [(0, .ref b), (1, .int (iI (a))), (2, .int (iI (j))), (3, .int (iI (v)))] := hl
  refine lv_iload_n hx hb dX0_place_0 rfl (lv_at hl 1 rfl) ?_
  refine r_iconst hx hb dX0_place_1 ?_
  refine r_imul hx hb dX0_place_2 ?_
  refine lv_iload_n hx hb dX0_place_3 rfl (lv_at hl 2 rfl) ?_
  refine r_iadd hx hb dX0_place_4 ?_
  refine r_top (4 * a + j) (by omega) ?_
  refine lv_istore (lv' := [(4, .int (iI (4 * a + j))), (0, .ref b), (1, .int (iI (a))), (2, .int (iI (j))), (3, .int (iI (v)))]) hx hb dX0_place_5 hl (by decide) rfl (fun ls hl => ?_)
  refine lv_iload hx hb dX0_place_7 (lv_at hl 0 rfl) ?_
  refine r_if_lt (tgt := 22) hx hb dX0_place_9 (by decide) (by unfold rI; omega) (fun h9 => absurd h9 (by omega)) (fun h9 => ?_)
  refine lv_iload hx hb dX0_place_12 (lv_at hl 0 rfl) ?_
  refine lv_aload_n hx hb dX0_place_14 rfl (lv_at hl 1 rfl) ?_
  refine va_get (D := D) (ci := 0) (v := .ref pq) (C := RX0) (T := TX0) (N := 2) hx hb hts mu_X0_place_X0 hown hE.1 hP 0 rfl rfl 0 (by decide) (hts _ mw_X0_place_0) (fun _ h9 => h9) rfl dX0_place_15 ?_
  refine r_alen hx hb hE.1 hP 1 rfl dX0_place_18 ?_
  refine r_top 16 rfl ?_
  refine r_icmp_lt (tgt := 23) hx hb dX0_place_19 (by decide) (by unfold rI; omega) (by unfold rI; decide) (fun h19 => ?_) (fun h9 => absurd h9 (by omega))
  refine lv_aload_n hx hb dX0_place_23 rfl (lv_at hl 1 rfl) ?_
  refine lv_aload_n hx hb dX0_place_24 rfl (lv_at hl 1 rfl) ?_
  refine lv_iload_n hx hb dX0_place_25 rfl (lv_at hl 2 rfl) ?_
  refine lv_aload_n hx hb dX0_place_26 rfl (lv_at hl 1 rfl) ?_
  refine va_get (D := D) (ci := 0) (v := .ref pq) (C := RX0) (T := TX0) (N := 2) hx hb hts mu_X0_place_X0 hown hE.1 hP 0 rfl rfl 0 (by decide) (hts _ mw_X0_place_0) (fun _ h9 => h9) rfl dX0_place_27 ?_
  refine lv_iload hx hb dX0_place_30 (lv_at hl 0 rfl) ?_
  refine r_iald hx hb hE.1 hP 1 rfl (i := 4 * a + j) (by omega) (by omega) (by decide) dX0_place_32 ?_
  obtain ⟨v32, ev32⟩ : ∃ v : Int, v = P (4 * a + j) := ⟨_, rfl⟩
  have gv32 := hB (4 * a + j)
  refine r_top v32 ev32.symm ?_
  rw [← ev32] at gv32
  refine r_callV (As := [.int (iI (a)), .int (iI (v32))]) (rest := [.ref b]) S (c_X0_squareAt l D cI cL tw (b) (pq) (cq) (a) (v32) (by omega) (by omega)) gX0_place_X0_squareAt rfl rfl rfl ⟨rfl, f_X0_squareAt⟩ hR (Nat.le_of_ble_eq_true rfl) (Nat.le_of_ble_eq_true rfl) (hE.kept hS.2.1) hP [0] rfl 0 rfl rfl rfl hl.1 rfl (Nat.le_of_ble_eq_true rfl) dX0_place_33 ⟨Nat.zero_le _, Nat.zero_le _⟩ (fun z33 hz33 => ?_)
  obtain ⟨hz33, rz33⟩ := hz33
  refine lv_iload_n hx hb dX0_place_36 rfl (lv_at hl 2 rfl) ?_
  refine r_callN (host := RX1) (As := [.int (iI (a))]) (rest := [.int (iI (z33)), .ref b]) S (c_X1_teamOf l D cI cL tw (a) (by omega)) gX0_place_X1_teamOf_n32 rfl rfl rfl f_X1_teamOf hR (Nat.le_of_ble_eq_true rfl) (Nat.le_of_ble_eq_true rfl) (hE.kept hS.2.1) (by decide +kernel) mw_X0_place_2 mw_X0_place_3 rfl hl.1 rfl (Nat.le_of_ble_eq_true rfl) dX0_place_37 ⟨Nat.zero_le _, Nat.zero_le _⟩ (fun z37 hz37 => ?_)
  obtain ⟨hz37, rz37⟩ := hz37
  refine r_iconst hx hb dX0_place_40 ?_
  refine r_callVv (As := [.int (iI (z33)), .int (iI (z37)), .int (iI (-1))]) (rest := []) (wr := [(pq, .inl (cI, 16, .inl (aI P)))]) S (c_X0_addOn l D cI cL tw (b) (pq) (cq) ((cnt P)) (z33) (z37) (-1) (by omega) (by omega)) gX0_place_X0_addOn rfl rfl rfl ⟨rfl, f_X0_addOn⟩ hR (Nat.le_of_ble_eq_true rfl) (Nat.le_of_ble_eq_true rfl) (hE.kept hS.2.1) hP hD hS hA [0, 2] [1] rfl rfl (by decide) rfl (by decide) (by decide) 0 rfl rfl rfl hl.1 rfl (Nat.le_of_ble_eq_true rfl) dX0_place_41 ⟨Nat.zero_le _, Nat.zero_le _⟩ (fun u41 H locs hz41 hP hD hS => ?_)
  have hP : va_P D vwCl [(b, .inr (0, [.ref pq, .ref cq])), (pq, .inl (cI, 16, .inl (aI P))), (cq, .inl (cI, 136, .inl (aI (adF (cnt P) (z33) (z37) (-1)))))] H := hP.sub [1, 0, 2] rfl
  have hD : va_D A [(b, .inr (0, [.ref pq, .ref cq])), (pq, .inl (cI, 16, .inl (aI P))), (cq, .inl (cI, 136, .inl (aI (adF (cnt P) (z33) (z37) (-1)))))] := hD.sub [1, 0, 2] (by decide) rfl
  refine lv_aload_n hx hb dX0_place_44 rfl (lv_at hl 1 rfl) ?_
  refine va_get (D := D) (ci := 0) (v := .ref pq) (C := RX0) (T := TX0) (N := 2) hx hb hts mu_X0_place_X0 hown hE.1 hP 0 rfl rfl 0 (by decide) (hts _ mw_X0_place_0) (fun _ h9 => h9) rfl dX0_place_45 ?_
  refine lv_iload hx hb dX0_place_48 (lv_at hl 0 rfl) ?_
  refine lv_iload_n hx hb dX0_place_50 rfl (lv_at hl 4 rfl) ?_
  refine r_iast hx hb hE.1 hP hD hS 1 (P := P) rfl (i := 4 * a + j) (v := v) (by omega) (by omega) (by decide) (ws1 := [(b, .inr (0, [.ref pq, .ref cq])), (pq, .inl (cI, 16, .inl (aI (uI P (4 * a + j) (v))))), (cq, .inl (cI, 136, .inl (aI (adF (cnt P) (z33) (z37) (-1)))))]) rfl dX0_place_51 (fun H locs hP hD hS => ?_)
  refine lv_aload_n hx hb dX0_place_52 rfl (lv_at hl 1 rfl) ?_
  refine lv_aload_n hx hb dX0_place_53 rfl (lv_at hl 1 rfl) ?_
  refine lv_iload_n hx hb dX0_place_54 rfl (lv_at hl 2 rfl) ?_
  refine lv_iload_n hx hb dX0_place_55 rfl (lv_at hl 4 rfl) ?_
  refine r_callV (As := [.int (iI (a)), .int (iI (v))]) (rest := [.ref b]) S (c_X0_squareAt l D cI cL tw (b) (pq) (cq) (a) (v) (by omega) (by omega)) gX0_place_X0_squareAt rfl rfl rfl ⟨rfl, f_X0_squareAt⟩ hR (Nat.le_of_ble_eq_true rfl) (Nat.le_of_ble_eq_true rfl) (hE.kept hS.2.1) hP [0] rfl 0 rfl rfl rfl hl.1 rfl (Nat.le_of_ble_eq_true rfl) dX0_place_56 ⟨Nat.zero_le _, Nat.zero_le _⟩ (fun z56 hz56 => ?_)
  obtain ⟨hz56, rz56⟩ := hz56
  refine lv_iload_n hx hb dX0_place_59 rfl (lv_at hl 2 rfl) ?_
  refine r_callN (host := RX1) (As := [.int (iI (a))]) (rest := [.int (iI (z56)), .ref b]) S (c_X1_teamOf l D cI cL tw (a) (by omega)) gX0_place_X1_teamOf_n32 rfl rfl rfl f_X1_teamOf hR (Nat.le_of_ble_eq_true rfl) (Nat.le_of_ble_eq_true rfl) (hE.kept hS.2.1) (by decide +kernel) mw_X0_place_2 mw_X0_place_3 rfl hl.1 rfl (Nat.le_of_ble_eq_true rfl) dX0_place_60 ⟨Nat.zero_le _, Nat.zero_le _⟩ (fun z60 hz60 => ?_)
  obtain ⟨hz60, rz60⟩ := hz60
  refine r_iconst hx hb dX0_place_63 ?_
  refine r_callVv (As := [.int (iI (z56)), .int (iI (z60)), .int (iI (1))]) (rest := []) (wr := [(pq, .inl (cI, 16, .inl (aI (uI P (4 * a + j) (v)))))]) S (c_X0_addOn l D cI cL tw (b) (pq) (cq) ((adF (cnt P) (z33) (z37) (-1))) (z56) (z60) (1) (by omega) (by omega)) gX0_place_X0_addOn rfl rfl rfl ⟨rfl, f_X0_addOn⟩ hR (Nat.le_of_ble_eq_true rfl) (Nat.le_of_ble_eq_true rfl) (hE.kept hS.2.1) hP hD hS hA [0, 2] [1] rfl rfl (by decide) rfl (by decide) (by decide) 0 rfl rfl rfl hl.1 rfl (Nat.le_of_ble_eq_true rfl) dX0_place_64 ⟨Nat.zero_le _, Nat.zero_le _⟩ (fun u64 H locs hz64 hP hD hS => ?_)
  have hP : va_P D vwCl [(b, .inr (0, [.ref pq, .ref cq])), (pq, .inl (cI, 16, .inl (aI (uI P (4 * a + j) (v))))), (cq, .inl (cI, 136, .inl (aI (adF (adF (cnt P) (z33) (z37) (-1)) (z56) (z60) (1)))))] H := hP.sub [1, 0, 2] rfl
  have hD : va_D A [(b, .inr (0, [.ref pq, .ref cq])), (pq, .inl (cI, 16, .inl (aI (uI P (4 * a + j) (v))))), (cq, .inl (cI, 136, .inl (aI (adF (adF (cnt P) (z33) (z37) (-1)) (z56) (z60) (1)))))] := hD.sub [1, 0, 2] (by decide) rfl
  have e1 : cnt (uI P (4 * a + j) v) = (adF (adF (cnt P) (z33) (z37) (-1)) (z56) (z60) (1)) := by rw [hz33, hz37, hz56, hz60, ev32]; exact (cnt_place (by omega) (by omega)).symm
  exact hret  () _ _ _ _ dX0_place_67 (by trivial) (by rw [e1]; exact hP) (by rw [e1]; exact hD) hS

theorem f_X0_sendToYard : yX0_sendToYard.cls ≠ "java/lang/invoke/MethodHandle" ∧ yX0_sendToYard.cls ≠ "java/lang/invoke/VarHandle" ∧ (parseMethodDescriptor yX0_sendToYard.desc).map (fun d => d.parameters.length) = some 2 := by decide +kernel
set_option maxHeartbeats 4000000 in
set_option maxRecDepth 100000 in
theorem c_X0_sendToYard (l : Launch) (D : va_G) (cI cL : ClassId) (tw : Nat) (b : Nat) (pq : Nat) (cq : Nat) (P : Int → Int) (t : Int) (q : Int) (hB : ∀ i, 0 ≤ P i ∧ P i ≤ 72) (ht : 0 ≤ t ∧ t ≤ 1) (hq : 0 ≤ q ∧ q ≤ 67) : RWv l yX0_sendToYard wsX0_sendToYard { frames := 2, cells := 0, slots := 0, locals := 48 } D cI cL tw [.ref b, .int (iI (t)), .int (iI (q))] [(b, .inr (0, [.ref pq, .ref cq])), (pq, .inl (cI, 16, .inl (aI P))), (cq, .inl (cI, 136, .inl (aI (cnt P))))] (fun (u : Unit) => True) (fun u : Unit => [(b, .inr (0, [.ref pq, .ref cq])), (pq, .inl (cI, 16, .inl (aI (syP P (q) (t) 16)))), (cq, .inl (cI, 136, .inl (aI (cnt (syP P (q) (t) 16)))))]) := by
  refine rwv_of (cc := cX0_sendToYard) (maxL := 5) (own := RX0) (by decide) rfl rfl (Nat.le_of_ble_eq_true rfl) ?_
  intro p e R s mt args below meth c H0 Q ls A S hR hE hP hD hS hA hl hret
  obtain ⟨hx, hb, hml, hown, hts⟩ := id S
  have hl : lv_has ls 5 [(0, .ref b), (1, .int (iI (t))), (2, .int (iI (q)))] := hl
  refine lv_iload_n hx hb dX0_sendToYard_0 rfl (lv_at hl 1 rfl) ?_
  refine lv_istore_n (lv' := [(3, .int (iI (t))), (0, .ref b), (1, .int (iI (t))), (2, .int (iI (q)))]) hx hb dX0_sendToYard_1 rfl hl (by decide) rfl (fun ls hl => ?_)
  have lp_2 : ∀ (d_2 : Nat) (x : Int) (R1 : Int → Int), (d_2 : Int) = 8 - x → ((x = t ∨ x = t + 2 ∨ x = t + 4)) → (R1 = syP P q t (4 * x)) → ∀ (H : Heap) (locs : List Loc), va_P D vwCl [(b, .inr (0, [.ref pq, .ref cq])), (pq, .inl (cI, 16, .inl (aI R1))), (cq, .inl (cI, 136, .inl (aI (cnt R1))))] H → va_D A [(b, .inr (0, [.ref pq, .ref cq])), (pq, .inl (cI, 16, .inl (aI R1))), (cq, .inl (cI, 136, .inl (aI (cnt R1))))] → va_S A H0 H locs → ∀ ls : Array Slot, lv_has ls 5 [(3, .int (iI (x))), (0, .ref b), (1, .int (iI (t))), (2, .int (iI (q)))] → W p l e R s mt args below meth c H locs 0 0 Q (F0 mt 2 ls []) := by
    intro d_2
    induction d_2 using Nat.strongRecOn with
    | ind d_2 ih_2 =>
    intro x R1 hd_2 hx9 hR1 H locs hP hD hS ls hl
    refine lv_iload_n hx hb dX0_sendToYard_2 rfl (lv_at hl 0 rfl) ?_
    refine r_iconst hx hb dX0_sendToYard_3 ?_
    refine r_icmp_ge (tgt := 52) hx hb dX0_sendToYard_4 (by decide) (by unfold rI; omega) (by unfold rI; decide) (fun h4 => ?_) (fun h4 => ?_)
    · have e1 : syP P q t 16 = R1 := by rw [hR1]; exact syP_jump (fun i h1 h2 h3 h4 => by omega) (by omega)
      exact hret  () _ _ _ _ dX0_sendToYard_52 (by trivial) (by rw [e1]; exact hP) (by rw [e1]; exact hD) hS
    · refine r_iconst hx hb dX0_sendToYard_7 ?_
      refine lv_istore (lv' := [(4, .int (iI (0))), (3, .int (iI (x))), (0, .ref b), (1, .int (iI (t))), (2, .int (iI (q)))]) hx hb dX0_sendToYard_8 hl (by decide) rfl (fun ls hl => ?_)
      have lp_10 : ∀ (d_10 : Nat) (y : Int) (R2 : Int → Int), (d_10 : Int) = 4 - y → (0 ≤ y ∧ y ≤ 4) → (R2 = syP P q t (4 * x + y)) → ∀ (H : Heap) (locs : List Loc), va_P D vwCl [(b, .inr (0, [.ref pq, .ref cq])), (pq, .inl (cI, 16, .inl (aI R2))), (cq, .inl (cI, 136, .inl (aI (cnt R2))))] H → va_D A [(b, .inr (0, [.ref pq, .ref cq])), (pq, .inl (cI, 16, .inl (aI R2))), (cq, .inl (cI, 136, .inl (aI (cnt R2))))] → va_S A H0 H locs → ∀ ls : Array Slot, lv_has ls 5 [(4, .int (iI (y))), (3, .int (iI (x))), (0, .ref b), (1, .int (iI (t))), (2, .int (iI (q)))] → W p l e R s mt args below meth c H locs 0 0 Q (F0 mt 10 ls []) := by
        intro d_10
        induction d_10 using Nat.strongRecOn with
        | ind d_10 ih_10 =>
        intro y R2 hd_10 hy hR2 H locs hP hD hS ls hl
        refine lv_iload hx hb dX0_sendToYard_10 (lv_at hl 0 rfl) ?_
        refine r_iconst hx hb dX0_sendToYard_12 ?_
        refine r_icmp_ge (tgt := 46) hx hb dX0_sendToYard_13 (by decide) (by unfold rI; omega) (by unfold rI; decide) (fun h13 => ?_) (fun h13 => ?_)
        · refine lv_iinc (v := iI (x + 2)) (lv' := [(3, .int (iI (x + 2))), (4, .int (iI (y))), (0, .ref b), (1, .int (iI (t))), (2, .int (iI (q)))]) hx hb dX0_sendToYard_46 hl (k := 1) rfl (iI_add _ _) (by decide) rfl (fun ls hl => ?_)
          refine lv_goto (tgt := 2) hx hb dX0_sendToYard_49 (by decide) ?_
          exact ih_2 (8 - (x + 2) : Int).toNat (nlt (by omega) hd_2 (by omega)) (x + 2) (R2) (Int.toNat_of_nonneg (by omega)) (by omega) (by rw [hR2]; exact syP_jump (fun i h1 h2 h3 h4 => by omega) (by omega)) _ _ hP hD hS ls (lv_sub hl [0, 2, 3, 4] rfl)
        · refine lv_aload_n hx hb dX0_sendToYard_16 rfl (lv_at hl 2 rfl) ?_
          refine lv_iload_n hx hb dX0_sendToYard_17 rfl (lv_at hl 1 rfl) ?_
          refine lv_aload_n hx hb dX0_sendToYard_18 rfl (lv_at hl 2 rfl) ?_
          refine lv_iload_n hx hb dX0_sendToYard_19 rfl (lv_at hl 1 rfl) ?_
          refine lv_iload hx hb dX0_sendToYard_20 (lv_at hl 0 rfl) ?_
          refine r_callV (As := [.int (iI (x)), .int (iI (y))]) (rest := [.int (iI (x)), .ref b]) S (c_X0_positionOf l D cI cL tw (b) (pq) (cq) (R2) (x) (y) (by rw [hR2]; exact syP_rng hB) (by omega) (by omega)) gX0_sendToYard_X0_positionOf rfl rfl rfl ⟨rfl, f_X0_positionOf⟩ hR (Nat.le_of_ble_eq_true rfl) (Nat.le_of_ble_eq_true rfl) (hE.kept hS.2.1) hP [0, 1, 2] rfl 0 rfl rfl rfl hl.1 rfl (Nat.le_of_ble_eq_true rfl) dX0_sendToYard_22 ⟨Nat.zero_le _, Nat.zero_le _⟩ (fun z22 hz22 => ?_)
          obtain ⟨hz22, rz22⟩ := hz22
          refine r_callV (As := [.int (iI (x)), .int (iI (z22))]) (rest := []) S (c_X0_squareAt l D cI cL tw (b) (pq) (cq) (x) (z22) (by omega) (by omega)) gX0_sendToYard_X0_squareAt rfl rfl rfl ⟨rfl, f_X0_squareAt⟩ hR (Nat.le_of_ble_eq_true rfl) (Nat.le_of_ble_eq_true rfl) (hE.kept hS.2.1) hP [0] rfl 0 rfl rfl rfl hl.1 rfl (Nat.le_of_ble_eq_true rfl) dX0_sendToYard_25 ⟨Nat.zero_le _, Nat.zero_le _⟩ (fun z25 hz25 => ?_)
          obtain ⟨hz25, rz25⟩ := hz25
          refine lv_iload_n hx hb dX0_sendToYard_28 rfl (lv_at hl 4 rfl) ?_
          refine r_icmp_ne (tgt := 40) hx hb dX0_sendToYard_29 (by decide) (by unfold rI; omega) (by unfold rI; omega) (fun h29 => ?_) (fun h29 => ?_)
          · refine lv_iinc (v := iI (y + 1)) (lv' := [(4, .int (iI (y + 1))), (3, .int (iI (x))), (0, .ref b), (1, .int (iI (t))), (2, .int (iI (q)))]) hx hb dX0_sendToYard_40 hl (k := 0) rfl (iI_add _ _) (by decide) rfl (fun ls hl => ?_)
            refine lv_goto (tgt := 10) hx hb dX0_sendToYard_43 (by decide) ?_
            exact ih_10 (4 - (y + 1) : Int).toNat (nlt (by omega) hd_10 (by omega)) (y + 1) (R2) (Int.toNat_of_nonneg (by omega)) (by omega) (by have q1 : R2 (4 * x + y) = P (4 * x + y) := (by rw [hR2]; exact syP_at); rw [hR2, show 4 * x + (y + 1) = (4 * x + y) + 1 by omega]; refine syP_not (fun hh => h29 ?_); rw [← q1, ← hz22, show (4 * x + y) / 4 = x by omega] at hh; rw [hz25]; unfold sA; rw [if_pos (by omega)]; exact hh.2.2.2) _ _ hP hD hS ls (lv_sub hl [0, 1, 2, 3, 4] rfl)
          · refine lv_aload_n hx hb dX0_sendToYard_32 rfl (lv_at hl 2 rfl) ?_
            refine lv_iload_n hx hb dX0_sendToYard_33 rfl (lv_at hl 1 rfl) ?_
            refine lv_iload hx hb dX0_sendToYard_34 (lv_at hl 0 rfl) ?_
            refine r_iconst hx hb dX0_sendToYard_36 ?_
            refine r_callVv (As := [.int (iI (x)), .int (iI (y)), .int (iI (0))]) (rest := []) (wr := []) S (c_X0_place l D cI cL tw (b) (pq) (cq) (R2) (x) (y) (0) (by rw [hR2]; exact syP_rng hB) (by omega) (by omega) (by omega)) gX0_sendToYard_X0_place rfl rfl rfl ⟨rfl, f_X0_place⟩ hR (Nat.le_of_ble_eq_true rfl) (Nat.le_of_ble_eq_true rfl) (hE.kept hS.2.1) hP hD hS hA [0, 1, 2] [] rfl rfl (by decide) rfl (by decide) (by decide) 0 rfl rfl rfl hl.1 rfl (Nat.le_of_ble_eq_true rfl) dX0_sendToYard_37 ⟨Nat.zero_le _, Nat.zero_le _⟩ (fun u37 H locs hz37 hP hD hS => ?_)
            have hP : va_P D vwCl [(b, .inr (0, [.ref pq, .ref cq])), (pq, .inl (cI, 16, .inl (aI (uI R2 (4 * (x) + (y)) (0))))), (cq, .inl (cI, 136, .inl (aI (cnt (uI R2 (4 * (x) + (y)) (0))))))] H := hP.sub [0, 1, 2] rfl
            have hD : va_D A [(b, .inr (0, [.ref pq, .ref cq])), (pq, .inl (cI, 16, .inl (aI (uI R2 (4 * (x) + (y)) (0))))), (cq, .inl (cI, 136, .inl (aI (cnt (uI R2 (4 * (x) + (y)) (0))))))] := hD.sub [0, 1, 2] (by decide) rfl
            refine lv_iinc (v := iI (y + 1)) (lv' := [(4, .int (iI (y + 1))), (3, .int (iI (x))), (0, .ref b), (1, .int (iI (t))), (2, .int (iI (q)))]) hx hb dX0_sendToYard_40 hl (k := 0) rfl (iI_add _ _) (by decide) rfl (fun ls hl => ?_)
            refine lv_goto (tgt := 10) hx hb dX0_sendToYard_43 (by decide) ?_
            exact ih_10 (4 - (y + 1) : Int).toNat (nlt (by omega) hd_10 (by omega)) (y + 1) ((uI R2 (4 * (x) + (y)) (0))) (Int.toNat_of_nonneg (by omega)) (by omega) (by have q1 : R2 (4 * x + y) = P (4 * x + y) := (by rw [hR2]; exact syP_at); rw [hR2, show 4 * x + (y + 1) = (4 * x + y) + 1 by omega]; refine syP_yes (by omega) ?_; rw [← q1, ← hz22, show (4 * x + y) / 4 = x by omega]; have q2 : sA x z22 = q := (by omega); unfold sA at q2; split at q2 <;> omega) _ _ hP hD hS ls (lv_sub hl [0, 1, 2, 3, 4] rfl)
      exact lp_10 (4 - (0) : Int).toNat (0) (R1) (Int.toNat_of_nonneg (by omega)) (by omega) (by rw [hR1, show 4 * x + 0 = 4 * x by omega]) _ _ hP hD hS ls (lv_sub hl [0, 1, 2, 3, 4] rfl)
  exact lp_2 (8 - (t) : Int).toNat (t) (P) (Int.toNat_of_nonneg (by omega)) (by omega) ((syP_0 _ _ _ _ (by omega) (by omega)).symm) _ _ hP hD hS ls (lv_sub hl [0, 1, 2, 3] rfl)
